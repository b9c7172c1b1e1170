theorem dX4_commandAt_0 : decode cX4_commandAt 0 = .ok (.iload_n 1, 1) := by decide +kernel
theorem dX4_commandAt_1 : decode cX4_commandAt 1 = .ok (.ifCond .lt 21, 3) := by decide +kernel
theorem dX4_commandAt_4 : decode cX4_commandAt 4 = .ok (.iload_n 1, 1) := by decide +kernel
theorem dX4_commandAt_5 : decode cX4_commandAt 5 = .ok (.aload_n 0, 1) := by decide +kernel
theorem dX4_commandAt_6 : decode cX4_commandAt 6 = .ok (.getfield 11, 3) := by decide +kernel
theorem dX4_commandAt_9 : decode cX4_commandAt 9 = .ok (.arraylength, 1) := by decide +kernel
theorem dX4_commandAt_10 : decode cX4_commandAt 10 = .ok (.if_icmp .ge 12, 3) := by decide +kernel
theorem dX4_commandAt_13 : decode cX4_commandAt 13 = .ok (.aload_n 0, 1) := by decide +kernel
theorem dX4_commandAt_14 : decode cX4_commandAt 14 = .ok (.getfield 11, 3) := by decide +kernel
theorem dX4_commandAt_17 : decode cX4_commandAt 17 = .ok (.iload_n 1, 1) := by decide +kernel
theorem dX4_commandAt_18 : decode cX4_commandAt 18 = .ok (.aaload, 1) := by decide +kernel
theorem dX4_commandAt_19 : decode cX4_commandAt 19 = .ok (.goto 4, 3) := by decide +kernel
theorem dX4_commandAt_22 : decode cX4_commandAt 22 = .ok (.aconst_null, 1) := by decide +kernel
theorem dX4_commandAt_23 : decode cX4_commandAt 23 = .ok (.areturn, 1) := by decide +kernel
def f_X4_commandAt (V : Mem) (a1 : Int32) : Option ((Option Nat) × Mem) :=
  jn (α := Mem → Option ((Option Nat) × Mem)) (fun j22 =>
    if a1 < 0 then
      j22 V
    else
      if (nI 8) ≤ a1 then
        j22 V
      else
        if ib a1 8 = true then
          some (some a1.toNatClampNeg, V)
        else none
  ) (fun (V22 : Mem) =>
    some (none, V22)
  )
theorem cv_X4_commandAt : CalV yX4_commandAt cX4_commandAt 2 (some (.object "LetterRepository$Command")) 1 := ⟨⟨⟨by decide +kernel, by decide +kernel⟩, tw_1_6, tw_7_41, by decide +kernel⟩, tw_7_39, tw_7_40⟩
set_option maxRecDepth 100000 in
set_option maxHeartbeats 4000000 in
theorem m_X4_commandAt (l : Launch) (E : En) (ad : Nat → Nat) (V : Mem) (a1 : Int32) (r : (Option Nat)) (Vz : Mem) (hf : f_X4_commandAt V a1 = some (r, Vz)) : MR l E ad yX4_commandAt cX4_commandAt 2 (some (.object "LetterRepository$Command")) 1 [.ref (ad 222), .int a1] V (some (va_rf (r.map (fun q => ad (224 + 3 * q))))) Vz := by
  refine ent (E := E) (ad := ad) (V := V) "LetterRepository$Program" (by decide +kernel) rfl (Nat.le_of_ble_eq_true rfl) ?_
  intro p e s m below meth c ls hC hI hl
  have hx := hC.1
  have hb := hC.2.1
  have hl : lv_has ls 2 [(0, .ref (ad 222)), (1, .int a1)] := hl
  unfold f_X4_commandAt at hf
  refine lv_iload_n hx hb dX4_commandAt_0 rfl (lv_at hl 1 rfl) ?_
  obtain ⟨j22, hj22, hf⟩ := gj hf
  have J22 : ∀ (V22 : Mem) (H : Heap) (locs : List Loc) (ls : Array Slot), j22 V22 = some (r, Vz) → In E ad V22 s H locs → lv_has ls 2 [] → W p l e (rmd 1) s m ([.ref (ad 222), .int a1] : List Value).toArray below meth c H locs 0 0 (MQ below (QR E ad (some (va_rf (r.map (fun q => ad (224 + 3 * q))))) Vz) ([.ref (ad 222), .int a1] : List Value).toArray s 0 0 (ours E)) (F0 m 22 ls []) := by
    intro V22 H locs ls hf hI hl
    rw [hj22] at hf
    dsimp only at hf
    refine lv_null hx hb dX4_commandAt_22 ?_
    exact r_aretN hC hI hf dX4_commandAt_23
  refine lv_if_lt (tgt := 22) hx hb dX4_commandAt_1 (by decide) (fun c1 => ?_) (fun c1 => ?_)
  · have hf := gt hf c1
    exact J22 _ _ _ _ hf hI (lv_sub hl [] rfl)
  · have hf := gf hf c1
    refine lv_iload_n hx hb dX4_commandAt_4 rfl (lv_at hl 1 rfl) ?_
    refine lv_aload_n hx hb dX4_commandAt_5 rfl (lv_at hl 0 rfl) ?_
    refine g_222_commands hC hI tw_1_165 dX4_commandAt_6 ?_
    refine la_223 hC hI dX4_commandAt_9 ?_
    refine lv_icmp_ge (tgt := 22) hx hb dX4_commandAt_10 (by decide) (fun c10 => ?_) (fun c10 => ?_)
    · have hf := gt hf c10
      exact J22 _ _ _ _ hf hI (lv_sub hl [] rfl)
    · have hf := gf hf c10
      refine lv_aload_n hx hb dX4_commandAt_13 rfl (lv_at hl 0 rfl) ?_
      refine g_222_commands hC hI tw_1_165 dX4_commandAt_14 ?_
      refine lv_iload_n hx hb dX4_commandAt_17 rfl (lv_at hl 1 rfl) ?_
      obtain ⟨h18, hf⟩ := gi hf
      refine ra_223 hC hI (ib_in h18) dX4_commandAt_18 ?_
      refine lv_goto (tgt := 23) hx hb dX4_commandAt_19 (by decide) ?_
      exact r_aretQ (t := fun q => ad (224 + 3 * q)) (k := a1.toNatClampNeg) hC hI hf dX4_commandAt_23
theorem k_X4_commandAt {p : Program} {l : Launch} {e : Env} {R : Room} {cells slots : Nat} {s : State} {m : MethodId} {args : Array Value} {below : List Frame} {meth : Method} {c : Code} {H : Heap} {locs : List Loc} {Q : State → Prop} {E : En} {ad : Nat → Nat} {V : Mem} {ow : String} {b : ByteArray} {n : Nat} {ret : Option FieldType} {pc index : Nat} {ls : Array Slot} {rest : List Value} {a1 : Int32} {r : (Option Nat)} {V1 : Mem} (hC : Cx p s m args c meth E ow b n ret) (hI : In E ad V s H locs) (hsz : ls.size = n) (hf : f_X4_commandAt V a1 = some (r, V1)) (hl : Cond.methodLink ow index yX4_commandAt ∈ TB) (hR : 1 + 1 ≤ R.frames ∧ 8 + (2 + 11) + 40 * 1 ≤ R.locals) (hcs : cells ≤ R.cells ∧ slots ≤ R.slots) (hw : (rest.map fun v => v.category).sum ≤ 8) (hdg : decode b pc = .ok (.invokevirtual index, 3)) (kk : ∀ (H1 : Heap) (locs1 : List Loc), In E ad V1 s H1 locs1 → W p l e R s m args below meth c H1 locs1 cells slots Q (F0 m (pc + 3) ls ((va_rf (r.map (fun q => ad (224 + 3 * q)))) :: rest))) : W p l e R s m args below meth c H locs cells slots Q (F0 m pc ls (.int a1 :: .ref (ad 222) :: rest)) :=
  r_calV (As := [.int a1]) (rest := rest) hC hI hsz (m_X4_commandAt l E ad V a1 r _ hf) cv_X4_commandAt hl (by decide) (ce_222 _) rfl rfl rfl hR hcs hw hdg kk

theorem dX4_signAt_0 : decode cX4_signAt 0 = .ok (.aload_n 0, 1) := by decide +kernel
theorem dX4_signAt_1 : decode cX4_signAt 1 = .ok (.getfield 25, 3) := by decide +kernel
theorem dX4_signAt_4 : decode cX4_signAt 4 = .ok (.ifCond .lt 25, 3) := by decide +kernel
theorem dX4_signAt_7 : decode cX4_signAt 7 = .ok (.aload_n 0, 1) := by decide +kernel
theorem dX4_signAt_8 : decode cX4_signAt 8 = .ok (.getfield 25, 3) := by decide +kernel
theorem dX4_signAt_11 : decode cX4_signAt 11 = .ok (.aload_n 1, 1) := by decide +kernel
theorem dX4_signAt_12 : decode cX4_signAt 12 = .ok (.invokevirtual 103, 3) := by decide +kernel
theorem dX4_signAt_15 : decode cX4_signAt 15 = .ok (.if_icmp .ge 14, 3) := by decide +kernel
theorem dX4_signAt_18 : decode cX4_signAt 18 = .ok (.aload_n 1, 1) := by decide +kernel
theorem dX4_signAt_19 : decode cX4_signAt 19 = .ok (.aload_n 0, 1) := by decide +kernel
theorem dX4_signAt_20 : decode cX4_signAt 20 = .ok (.getfield 25, 3) := by decide +kernel
theorem dX4_signAt_23 : decode cX4_signAt 23 = .ok (.invokevirtual 106, 3) := by decide +kernel
theorem dX4_signAt_26 : decode cX4_signAt 26 = .ok (.goto 4, 3) := by decide +kernel
theorem dX4_signAt_29 : decode cX4_signAt 29 = .ok (.iconst (-1), 1) := by decide +kernel
theorem dX4_signAt_30 : decode cX4_signAt 30 = .ok (.ireturn, 1) := by decide +kernel
def f_X4_signAt (V : Mem) : Option (Int32 × Mem) :=
  if (V 222 2) < 0 then
    some ((-1), V)
  else
    bd (f_J4_length_8abf5 V 249) fun r12 V12 =>
    if r12 ≤ (V 222 2) then
      some ((-1), V12)
    else
      bd (f_J4_charAt_5068e V12 249 (V12 222 2)) fun r23 V23 =>
      some (r23, V23)
theorem cv_X4_signAt : CalV yX4_signAt cX4_signAt 2 (some .int) 1 := ⟨⟨⟨by decide +kernel, by decide +kernel⟩, tw_1_6, tw_7_69, by decide +kernel⟩, tw_7_68, tp_17⟩
set_option maxRecDepth 100000 in
set_option maxHeartbeats 4000000 in
theorem m_X4_signAt (l : Launch) (E : En) (ad : Nat → Nat) (V : Mem) (hS : SF E) (hFr : Fr E) (r : Int32) (Vz : Mem) (hf : f_X4_signAt V = some (r, Vz)) : MR l E ad yX4_signAt cX4_signAt 2 (some .int) 5 [.ref (ad 222), .ref (ad 249)] V (some (.int r)) Vz := by
  refine ent (E := E) (ad := ad) (V := V) "LetterRepository$Program" (by decide +kernel) rfl (Nat.le_of_ble_eq_true rfl) ?_
  intro p e s m below meth c ls hC hI hl
  have hx := hC.1
  have hb := hC.2.1
  have hl : lv_has ls 2 [(0, .ref (ad 222)), (1, .ref (ad 249))] := hl
  unfold f_X4_signAt at hf
  refine lv_aload_n hx hb dX4_signAt_0 rfl (lv_at hl 0 rfl) ?_
  refine g_222_position hC hI tw_1_170 dX4_signAt_1 ?_
  refine lv_if_lt (tgt := 29) hx hb dX4_signAt_4 (by decide) (fun c4 => ?_) (fun c4 => ?_)
  · have hf := gt hf c4
    refine lv_iconst (v := (-1)) hx hb dX4_signAt_29 rfl ?_
    exact r_iret2 hC hI hf dX4_signAt_30
  · have hf := gf hf c4
    refine lv_aload_n hx hb dX4_signAt_7 rfl (lv_at hl 0 rfl) ?_
    refine g_222_position hC hI tw_1_170 dX4_signAt_8 ?_
    refine lv_aload_n hx hb dX4_signAt_11 rfl (lv_at hl 1 rfl) ?_
    obtain ⟨r12, V12, q12, hf⟩ := gbd hf
    refine k_J4_length_8abf5 (.inl rfl) hC hI hl.1 q12 tw_7_70 ⟨Nat.le_of_ble_eq_true rfl, Nat.le_of_ble_eq_true rfl⟩ ⟨Nat.le_refl _, Nat.le_refl _⟩ (Nat.le_of_ble_eq_true rfl) dX4_signAt_12 (fun H locs hI => ?_)
    refine lv_icmp_ge (tgt := 29) hx hb dX4_signAt_15 (by decide) (fun c15 => ?_) (fun c15 => ?_)
    · have hf := gt hf c15
      refine lv_iconst (v := (-1)) hx hb dX4_signAt_29 rfl ?_
      exact r_iret2 hC hI hf dX4_signAt_30
    · have hf := gf hf c15
      refine lv_aload_n hx hb dX4_signAt_18 rfl (lv_at hl 1 rfl) ?_
      refine lv_aload_n hx hb dX4_signAt_19 rfl (lv_at hl 0 rfl) ?_
      refine g_222_position hC hI tw_1_170 dX4_signAt_20 ?_
      obtain ⟨r23, V23, q23, hf⟩ := gbd hf
      refine k_J4_charAt_5068e hS hFr (.inl rfl) hC hI hl.1 q23 tw_7_71 ⟨Nat.le_of_ble_eq_true rfl, Nat.le_of_ble_eq_true rfl⟩ ⟨Nat.le_refl _, Nat.le_refl _⟩ (Nat.le_of_ble_eq_true rfl) dX4_signAt_23 (fun H locs hI => ?_)
      refine lv_goto (tgt := 30) hx hb dX4_signAt_26 (by decide) ?_
      exact r_iret2 hC hI hf dX4_signAt_30
theorem k_X4_signAt {p : Program} {l : Launch} {e : Env} {R : Room} {cells slots : Nat} {s : State} {m : MethodId} {args : Array Value} {below : List Frame} {meth : Method} {c : Code} {H : Heap} {locs : List Loc} {Q : State → Prop} {E : En} {ad : Nat → Nat} {V : Mem} {ow : String} {b : ByteArray} {n : Nat} {ret : Option FieldType} {pc index : Nat} {ls : Array Slot} {rest : List Value} {r : Int32} {V1 : Mem} (hS : SF E) (hFr : Fr E) (hC : Cx p s m args c meth E ow b n ret) (hI : In E ad V s H locs) (hsz : ls.size = n) (hf : f_X4_signAt V = some (r, V1)) (hl : Cond.methodLink ow index yX4_signAt ∈ TB) (hR : 5 + 1 ≤ R.frames ∧ 8 + (2 + 11) + 40 * 5 ≤ R.locals) (hcs : cells ≤ R.cells ∧ slots ≤ R.slots) (hw : (rest.map fun v => v.category).sum ≤ 8) (hdg : decode b pc = .ok (.invokevirtual index, 3)) (kk : ∀ (H1 : Heap) (locs1 : List Loc), In E ad V1 s H1 locs1 → W p l e R s m args below meth c H1 locs1 cells slots Q (F0 m (pc + 3) ls ((.int r) :: rest))) : W p l e R s m args below meth c H locs cells slots Q (F0 m pc ls (.ref (ad 249) :: .ref (ad 222) :: rest)) :=
  r_calV (As := [.ref (ad 249)]) (rest := rest) hC hI hsz (m_X4_signAt l E ad V hS hFr r _ hf) cv_X4_signAt hl (by decide) (ce_222 _) rfl rfl rfl hR hcs hw hdg kk

theorem dX4_fits_0 : decode cX4_fits 0 = .ok (.iload_n 1, 1) := by decide +kernel
theorem dX4_fits_1 : decode cX4_fits 1 = .ok (.lookupswitch 58 #[(35, 43), (36, 48), (42, 43), (94, 53)], 43) := by decide +kernel
theorem dX4_fits_44 : decode cX4_fits 44 = .ok (.iload_n 0, 1) := by decide +kernel
theorem dX4_fits_45 : decode cX4_fits 45 = .ok (.invokestatic 93, 3) := by decide +kernel
theorem dX4_fits_48 : decode cX4_fits 48 = .ok (.ireturn, 1) := by decide +kernel
theorem dX4_fits_49 : decode cX4_fits 49 = .ok (.iload_n 0, 1) := by decide +kernel
theorem dX4_fits_50 : decode cX4_fits 50 = .ok (.invokestatic 97, 3) := by decide +kernel
theorem dX4_fits_53 : decode cX4_fits 53 = .ok (.ireturn, 1) := by decide +kernel
theorem dX4_fits_54 : decode cX4_fits 54 = .ok (.iload_n 0, 1) := by decide +kernel
theorem dX4_fits_55 : decode cX4_fits 55 = .ok (.invokestatic 100, 3) := by decide +kernel
theorem dX4_fits_58 : decode cX4_fits 58 = .ok (.ireturn, 1) := by decide +kernel
theorem dX4_fits_59 : decode cX4_fits 59 = .ok (.iload_n 0, 1) := by decide +kernel
theorem dX4_fits_60 : decode cX4_fits 60 = .ok (.iload_n 1, 1) := by decide +kernel
theorem dX4_fits_61 : decode cX4_fits 61 = .ok (.if_icmp .ne 7, 3) := by decide +kernel
theorem dX4_fits_64 : decode cX4_fits 64 = .ok (.iconst 1, 1) := by decide +kernel
theorem dX4_fits_65 : decode cX4_fits 65 = .ok (.goto 4, 3) := by decide +kernel
theorem dX4_fits_68 : decode cX4_fits 68 = .ok (.iconst 0, 1) := by decide +kernel
theorem dX4_fits_69 : decode cX4_fits 69 = .ok (.ireturn, 1) := by decide +kernel
def f_X4_fits (V : Mem) (a0 : Int32) (a1 : Int32) : Option (Int32 × Mem) :=
  if a1 = 35 then
    bd (f_X9_isDigit V a0) fun r45 V45 =>
    if r45 = 0 ∨ r45 = 1 then
      some (r45, V45)
    else none
  else
  if a1 = 36 then
    bd (f_X9_isSmall V a0) fun r50 V50 =>
    if r50 = 0 ∨ r50 = 1 then
      some (r50, V50)
    else none
  else
  if a1 = 42 then
    bd (f_X9_isDigit V a0) fun r45 V45 =>
    if r45 = 0 ∨ r45 = 1 then
      some (r45, V45)
    else none
  else
  if a1 = 94 then
    bd (f_X9_isCapital V a0) fun r55 V55 =>
    if r55 = 0 ∨ r55 = 1 then
      some (r55, V55)
    else none
  else
  if a0 = a1 then
    some (1, V)
  else
    some (0, V)
theorem cv_X4_fits : CalS yX4_fits cX4_fits 2 (some .boolean) 2 := ⟨⟨⟨by decide +kernel, by decide +kernel⟩, tw_1_6, tw_7_74, by decide +kernel⟩, tw_7_73⟩
set_option maxRecDepth 100000 in
set_option maxHeartbeats 4000000 in
theorem m_X4_fits (l : Launch) (E : En) (ad : Nat → Nat) (V : Mem) (a0 : Int32) (a1 : Int32) (r : Int32) (Vz : Mem) (hf : f_X4_fits V a0 a1 = some (r, Vz)) : MR l E ad yX4_fits cX4_fits 2 (some .boolean) 2 [.int a0, .int a1] V (some (.int r)) Vz := by
  refine ent (E := E) (ad := ad) (V := V) "LetterRepository$Program" (by decide +kernel) rfl (Nat.le_of_ble_eq_true rfl) ?_
  intro p e s m below meth c ls hC hI hl
  have hx := hC.1
  have hb := hC.2.1
  have hl : lv_has ls 2 [(0, .int a0), (1, .int a1)] := hl
  unfold f_X4_fits at hf
  refine lv_iload_n hx hb dX4_fits_0 rfl (lv_at hl 1 rfl) ?_
  rcases Decidable.em (a1 = 35) with c1_35 | c1_35
  · have hf := gt hf c1_35
    refine lv_lookup (off := 43) (tgt := 44) hx hb dX4_fits_1 (by decide) (by rw [c1_35]; rfl) (by decide) ?_
    refine lv_iload_n hx hb dX4_fits_44 rfl (lv_at hl 0 rfl) ?_
    obtain ⟨r45, V45, q45, hf⟩ := gbd hf
    refine kN_X9_isDigit hC hI hl.1 q45 tw_7_75 ⟨Nat.le_of_ble_eq_true rfl, Nat.le_of_ble_eq_true rfl⟩ ⟨Nat.le_refl _, Nat.le_refl _⟩ (Nat.le_of_ble_eq_true rfl) dX4_fits_45 (fun H locs hI => ?_)
    obtain ⟨h48, hf⟩ := gi hf
    exact r_zret2 hC hI h48 hf dX4_fits_48
  have hf := gf hf c1_35
  rcases Decidable.em (a1 = 36) with c1_36 | c1_36
  · have hf := gt hf c1_36
    refine lv_lookup (off := 48) (tgt := 49) hx hb dX4_fits_1 (by decide) (by rw [c1_36]; rfl) (by decide) ?_
    refine lv_iload_n hx hb dX4_fits_49 rfl (lv_at hl 0 rfl) ?_
    obtain ⟨r50, V50, q50, hf⟩ := gbd hf
    refine kN_X9_isSmall hC hI hl.1 q50 tw_7_78 ⟨Nat.le_of_ble_eq_true rfl, Nat.le_of_ble_eq_true rfl⟩ ⟨Nat.le_refl _, Nat.le_refl _⟩ (Nat.le_of_ble_eq_true rfl) dX4_fits_50 (fun H locs hI => ?_)
    obtain ⟨h53, hf⟩ := gi hf
    exact r_zret2 hC hI h53 hf dX4_fits_53
  have hf := gf hf c1_36
  rcases Decidable.em (a1 = 42) with c1_42 | c1_42
  · have hf := gt hf c1_42
    refine lv_lookup (off := 43) (tgt := 44) hx hb dX4_fits_1 (by decide) (by rw [c1_42]; rfl) (by decide) ?_
    refine lv_iload_n hx hb dX4_fits_44 rfl (lv_at hl 0 rfl) ?_
    obtain ⟨r45, V45, q45, hf⟩ := gbd hf
    refine kN_X9_isDigit hC hI hl.1 q45 tw_7_75 ⟨Nat.le_of_ble_eq_true rfl, Nat.le_of_ble_eq_true rfl⟩ ⟨Nat.le_refl _, Nat.le_refl _⟩ (Nat.le_of_ble_eq_true rfl) dX4_fits_45 (fun H locs hI => ?_)
    obtain ⟨h48, hf⟩ := gi hf
    exact r_zret2 hC hI h48 hf dX4_fits_48
  have hf := gf hf c1_42
  rcases Decidable.em (a1 = 94) with c1_94 | c1_94
  · have hf := gt hf c1_94
    refine lv_lookup (off := 53) (tgt := 54) hx hb dX4_fits_1 (by decide) (by rw [c1_94]; rfl) (by decide) ?_
    refine lv_iload_n hx hb dX4_fits_54 rfl (lv_at hl 0 rfl) ?_
    obtain ⟨r55, V55, q55, hf⟩ := gbd hf
    refine kN_X9_isCapital hC hI hl.1 q55 tw_7_79 ⟨Nat.le_of_ble_eq_true rfl, Nat.le_of_ble_eq_true rfl⟩ ⟨Nat.le_refl _, Nat.le_refl _⟩ (Nat.le_of_ble_eq_true rfl) dX4_fits_55 (fun H locs hI => ?_)
    obtain ⟨h58, hf⟩ := gi hf
    exact r_zret2 hC hI h58 hf dX4_fits_58
  have hf := gf hf c1_94
  refine lv_lookup (off := 58) (tgt := 59) hx hb dX4_fits_1 (by decide) ((lv_osw c1_35 rfl).trans ((lv_osw c1_36 rfl).trans ((lv_osw c1_42 rfl).trans ((lv_osw c1_94 rfl).trans rfl)))) (by decide) ?_
  refine lv_iload_n hx hb dX4_fits_59 rfl (lv_at hl 0 rfl) ?_
  refine lv_iload_n hx hb dX4_fits_60 rfl (lv_at hl 1 rfl) ?_
  refine lv_icmp_ne (tgt := 68) hx hb dX4_fits_61 (by decide) (fun c61 => ?_) (fun c61 => ?_)
  · have hf := gf hf c61
    refine lv_iconst (v := 0) hx hb dX4_fits_68 rfl ?_
    exact r_zret2 hC hI (.inl rfl) hf dX4_fits_69
  · have hf := gt hf c61
    refine lv_iconst (v := 1) hx hb dX4_fits_64 rfl ?_
    refine lv_goto (tgt := 69) hx hb dX4_fits_65 (by decide) ?_
    exact r_zret2 hC hI (.inr rfl) hf dX4_fits_69
theorem k_X4_fits {p : Program} {l : Launch} {e : Env} {R : Room} {cells slots : Nat} {s : State} {m : MethodId} {args : Array Value} {below : List Frame} {meth : Method} {c : Code} {H : Heap} {locs : List Loc} {Q : State → Prop} {E : En} {ad : Nat → Nat} {V : Mem} {ow : String} {b : ByteArray} {n : Nat} {ret : Option FieldType} {pc index : Nat} {ls : Array Slot} {rest : List Value} {a0 : Int32} {a1 : Int32} {r : Int32} {V1 : Mem} (hC : Cx p s m args c meth E ow b n ret) (hI : In E ad V s H locs) (hsz : ls.size = n) (hf : f_X4_fits V a0 a1 = some (r, V1)) (hl : Cond.methodLink ow index yX4_fits ∈ TB) (hR : 2 + 1 ≤ R.frames ∧ 8 + (2 + 11) + 40 * 2 ≤ R.locals) (hcs : cells ≤ R.cells ∧ slots ≤ R.slots) (hw : (rest.map fun v => v.category).sum ≤ 8) (hdg : decode b pc = .ok (.invokestatic index, 3)) (kk : ∀ (H1 : Heap) (locs1 : List Loc), In E ad V1 s H1 locs1 → W p l e R s m args below meth c H1 locs1 cells slots Q (F0 m (pc + 3) ls ((.int r) :: rest))) : W p l e R s m args below meth c H locs cells slots Q (F0 m pc ls (.int a1 :: .int a0 :: rest)) :=
  r_calS (As := [.int a0, .int a1]) (rest := rest) hC hI hsz (m_X4_fits l E ad V a0 a1 r _ hf) cv_X4_fits hl rfl rfl hR hcs hw hdg kk
theorem kN_X4_fits {p : Program} {l : Launch} {e : Env} {R : Room} {cells slots : Nat} {s : State} {m : MethodId} {args : Array Value} {below : List Frame} {meth : Method} {c : Code} {H : Heap} {locs : List Loc} {Q : State → Prop} {E : En} {ad : Nat → Nat} {V : Mem} {ow host : String} {b : ByteArray} {n : Nat} {ret : Option FieldType} {pc index : Nat} {ls : Array Slot} {rest : List Value} {a0 : Int32} {a1 : Int32} {r : Int32} {V1 : Mem} (hC : Cx p s m args c meth E ow b n ret) (hI : In E ad V s H locs) (hsz : ls.size = n) (hf : f_X4_fits V a0 a1 = some (r, V1)) (hl : Cond.methodLinkNest ow index yX4_fits host ∈ NB) (hR : 2 + 1 ≤ R.frames ∧ 8 + (2 + 11) + 40 * 2 ≤ R.locals) (hcs : cells ≤ R.cells ∧ slots ≤ R.slots) (hw : (rest.map fun v => v.category).sum ≤ 8) (hdg : decode b pc = .ok (.invokestatic index, 3)) (kk : ∀ (H1 : Heap) (locs1 : List Loc), In E ad V1 s H1 locs1 → W p l e R s m args below meth c H1 locs1 cells slots Q (F0 m (pc + 3) ls ((.int r) :: rest))) : W p l e R s m args below meth c H locs cells slots Q (F0 m pc ls (.int a1 :: .int a0 :: rest)) :=
  r_calSN (As := [.int a0, .int a1]) (rest := rest) hC hI hsz (m_X4_fits l E ad V a0 a1 r _ hf) cv_X4_fits hl rfl rfl hR hcs hw hdg kk

theorem dX4_numberFrom_0 : decode cX4_numberFrom 0 = .ok (.aload_n 0, 1) := by decide +kernel
theorem dX4_numberFrom_1 : decode cX4_numberFrom 1 = .ok (.aload_n 2, 1) := by decide +kernel
theorem dX4_numberFrom_2 : decode cX4_numberFrom 2 = .ok (.invokevirtual 49, 3) := by decide +kernel
theorem dX4_numberFrom_5 : decode cX4_numberFrom 5 = .ok (.istore_n 3, 1) := by decide +kernel
theorem dX4_numberFrom_6 : decode cX4_numberFrom 6 = .ok (.iload_n 3, 1) := by decide +kernel
theorem dX4_numberFrom_7 : decode cX4_numberFrom 7 = .ok (.invokestatic 93, 3) := by decide +kernel
theorem dX4_numberFrom_10 : decode cX4_numberFrom 10 = .ok (.ifCond .ne 5, 3) := by decide +kernel
theorem dX4_numberFrom_13 : decode cX4_numberFrom 13 = .ok (.iload_n 1, 1) := by decide +kernel
theorem dX4_numberFrom_14 : decode cX4_numberFrom 14 = .ok (.ireturn, 1) := by decide +kernel
theorem dX4_numberFrom_15 : decode cX4_numberFrom 15 = .ok (.aload_n 0, 1) := by decide +kernel
theorem dX4_numberFrom_16 : decode cX4_numberFrom 16 = .ok (.dup, 1) := by decide +kernel
theorem dX4_numberFrom_17 : decode cX4_numberFrom 17 = .ok (.getfield 25, 3) := by decide +kernel
theorem dX4_numberFrom_20 : decode cX4_numberFrom 20 = .ok (.iconst 1, 1) := by decide +kernel
theorem dX4_numberFrom_21 : decode cX4_numberFrom 21 = .ok (.iadd, 1) := by decide +kernel
theorem dX4_numberFrom_22 : decode cX4_numberFrom 22 = .ok (.putfield 25, 3) := by decide +kernel
theorem dX4_numberFrom_25 : decode cX4_numberFrom 25 = .ok (.iload_n 1, 1) := by decide +kernel
theorem dX4_numberFrom_26 : decode cX4_numberFrom 26 = .ok (.bipush 10, 2) := by decide +kernel
theorem dX4_numberFrom_28 : decode cX4_numberFrom 28 = .ok (.imul, 1) := by decide +kernel
theorem dX4_numberFrom_29 : decode cX4_numberFrom 29 = .ok (.iload_n 3, 1) := by decide +kernel
theorem dX4_numberFrom_30 : decode cX4_numberFrom 30 = .ok (.iadd, 1) := by decide +kernel
theorem dX4_numberFrom_31 : decode cX4_numberFrom 31 = .ok (.bipush 48, 2) := by decide +kernel
theorem dX4_numberFrom_33 : decode cX4_numberFrom 33 = .ok (.isub, 1) := by decide +kernel
theorem dX4_numberFrom_34 : decode cX4_numberFrom 34 = .ok (.ireturn, 1) := by decide +kernel
def f_X4_numberFrom (V : Mem) (a1 : Int32) : Option (Int32 × Mem) :=
  bd (f_X4_signAt V) fun r2 V2 =>
  bd (f_X9_isDigit V2 r2) fun r7 V7 =>
  if r7 = 0 then
    some (a1, V7)
  else
    lt (stv V7 222 2 ((V7 222 2) + 1)) fun V22 =>
    some ((((a1 * 10) + r2) - 48), V22)
theorem cv_X4_numberFrom : CalV yX4_numberFrom cX4_numberFrom 4 (some .int) 2 := ⟨⟨⟨by decide +kernel, by decide +kernel⟩, tw_1_6, tw_7_88, by decide +kernel⟩, tw_7_87, tp_18⟩
set_option maxRecDepth 100000 in
set_option maxHeartbeats 4000000 in
theorem m_X4_numberFrom (l : Launch) (E : En) (ad : Nat → Nat) (V : Mem) (a1 : Int32) (hS : SF E) (hFr : Fr E) (r : Int32) (Vz : Mem) (hf : f_X4_numberFrom V a1 = some (r, Vz)) : MR l E ad yX4_numberFrom cX4_numberFrom 4 (some .int) 6 [.ref (ad 222), .int a1, .ref (ad 249)] V (some (.int r)) Vz := by
  refine ent (E := E) (ad := ad) (V := V) "LetterRepository$Program" (by decide +kernel) rfl (Nat.le_of_ble_eq_true rfl) ?_
  intro p e s m below meth c ls hC hI hl
  have hx := hC.1
  have hb := hC.2.1
  have hl : lv_has ls 4 [(0, .ref (ad 222)), (1, .int a1), (2, .ref (ad 249))] := hl
  unfold f_X4_numberFrom at hf
  refine lv_aload_n hx hb dX4_numberFrom_0 rfl (lv_at hl 0 rfl) ?_
  refine lv_aload_n hx hb dX4_numberFrom_1 rfl (lv_at hl 2 rfl) ?_
  obtain ⟨r2, V2, q2, hf⟩ := gbd hf
  refine k_X4_signAt hS hFr hC hI hl.1 q2 tw_7_66 ⟨Nat.le_of_ble_eq_true rfl, Nat.le_of_ble_eq_true rfl⟩ ⟨Nat.le_refl _, Nat.le_refl _⟩ (Nat.le_of_ble_eq_true rfl) dX4_numberFrom_2 (fun H locs hI => ?_)
  refine lv_istore_n (lv' := [(3, .int r2), (0, .ref (ad 222)), (1, .int a1), (2, .ref (ad 249))]) hx hb dX4_numberFrom_5 rfl hl (Nat.lt_of_lt_of_eq (by decide) rfl) rfl (fun ls hl => ?_)
  refine lv_iload_n hx hb dX4_numberFrom_6 rfl (lv_at hl 0 rfl) ?_
  obtain ⟨r7, V7, q7, hf⟩ := gbd hf
  refine kN_X9_isDigit hC hI hl.1 q7 tw_7_75 ⟨Nat.le_of_ble_eq_true rfl, Nat.le_of_ble_eq_true rfl⟩ ⟨Nat.le_refl _, Nat.le_refl _⟩ (Nat.le_of_ble_eq_true rfl) dX4_numberFrom_7 (fun H locs hI => ?_)
  refine lv_if_ne (tgt := 15) hx hb dX4_numberFrom_10 (by decide) (fun c10 => ?_) (fun c10 => ?_)
  · have hf := gf hf c10
    refine lv_aload_n hx hb dX4_numberFrom_15 rfl (lv_at hl 1 rfl) ?_
    refine lv_dup hx hb dX4_numberFrom_16 rfl ?_
    refine g_222_position hC hI tw_1_170 dX4_numberFrom_17 ?_
    refine lv_iconst (v := 1) hx hb dX4_numberFrom_20 rfl ?_
    refine lv_iadd hx hb dX4_numberFrom_21 ?_
    obtain ⟨V22, e22, hf⟩ := gl hf
    refine p_222_position hC hI  e22 tw_1_170 dX4_numberFrom_22 (fun H locs hI => ?_)
    refine lv_iload_n hx hb dX4_numberFrom_25 rfl (lv_at hl 2 rfl) ?_
    refine lv_bipush (v := 10) hx hb dX4_numberFrom_26 rfl ?_
    refine lv_imul hx hb dX4_numberFrom_28 ?_
    refine lv_iload_n hx hb dX4_numberFrom_29 rfl (lv_at hl 0 rfl) ?_
    refine lv_iadd hx hb dX4_numberFrom_30 ?_
    refine lv_bipush (v := 48) hx hb dX4_numberFrom_31 rfl ?_
    refine lv_isub hx hb dX4_numberFrom_33 ?_
    exact r_iret2 hC hI hf dX4_numberFrom_34
  · have hf := gt hf c10
    refine lv_iload_n hx hb dX4_numberFrom_13 rfl (lv_at hl 2 rfl) ?_
    exact r_iret2 hC hI hf dX4_numberFrom_14
theorem k_X4_numberFrom {p : Program} {l : Launch} {e : Env} {R : Room} {cells slots : Nat} {s : State} {m : MethodId} {args : Array Value} {below : List Frame} {meth : Method} {c : Code} {H : Heap} {locs : List Loc} {Q : State → Prop} {E : En} {ad : Nat → Nat} {V : Mem} {ow : String} {b : ByteArray} {n : Nat} {ret : Option FieldType} {pc index : Nat} {ls : Array Slot} {rest : List Value} {a1 : Int32} {r : Int32} {V1 : Mem} (hS : SF E) (hFr : Fr E) (hC : Cx p s m args c meth E ow b n ret) (hI : In E ad V s H locs) (hsz : ls.size = n) (hf : f_X4_numberFrom V a1 = some (r, V1)) (hl : Cond.methodLink ow index yX4_numberFrom ∈ TB) (hR : 6 + 1 ≤ R.frames ∧ 8 + (4 + 11) + 40 * 6 ≤ R.locals) (hcs : cells ≤ R.cells ∧ slots ≤ R.slots) (hw : (rest.map fun v => v.category).sum ≤ 8) (hdg : decode b pc = .ok (.invokevirtual index, 3)) (kk : ∀ (H1 : Heap) (locs1 : List Loc), In E ad V1 s H1 locs1 → W p l e R s m args below meth c H1 locs1 cells slots Q (F0 m (pc + 3) ls ((.int r) :: rest))) : W p l e R s m args below meth c H locs cells slots Q (F0 m pc ls (.ref (ad 249) :: .int a1 :: .ref (ad 222) :: rest)) :=
  r_calV (As := [.int a1, .ref (ad 249)]) (rest := rest) hC hI hsz (m_X4_numberFrom l E ad V a1 hS hFr r _ hf) cv_X4_numberFrom hl (by decide) (ce_222 _) rfl rfl rfl hR hcs hw hdg kk

theorem dX4_readSign_0 : decode cX4_readSign 0 = .ok (.aload_n 0, 1) := by decide +kernel
theorem dX4_readSign_1 : decode cX4_readSign 1 = .ok (.aload_n 2, 1) := by decide +kernel
theorem dX4_readSign_2 : decode cX4_readSign 2 = .ok (.invokevirtual 49, 3) := by decide +kernel
theorem dX4_readSign_5 : decode cX4_readSign 5 = .ok (.istore 4, 2) := by decide +kernel
theorem dX4_readSign_7 : decode cX4_readSign 7 = .ok (.iload 4, 2) := by decide +kernel
theorem dX4_readSign_9 : decode cX4_readSign 9 = .ok (.iload_n 1, 1) := by decide +kernel
theorem dX4_readSign_10 : decode cX4_readSign 10 = .ok (.invokestatic 81, 3) := by decide +kernel
theorem dX4_readSign_13 : decode cX4_readSign 13 = .ok (.ifCond .ne 5, 3) := by decide +kernel
theorem dX4_readSign_16 : decode cX4_readSign 16 = .ok (.iconst 0, 1) := by decide +kernel
theorem dX4_readSign_17 : decode cX4_readSign 17 = .ok (.ireturn, 1) := by decide +kernel
theorem dX4_readSign_18 : decode cX4_readSign 18 = .ok (.aload_n 0, 1) := by decide +kernel
theorem dX4_readSign_19 : decode cX4_readSign 19 = .ok (.dup, 1) := by decide +kernel
theorem dX4_readSign_20 : decode cX4_readSign 20 = .ok (.getfield 25, 3) := by decide +kernel
theorem dX4_readSign_23 : decode cX4_readSign 23 = .ok (.iconst 1, 1) := by decide +kernel
theorem dX4_readSign_24 : decode cX4_readSign 24 = .ok (.iadd, 1) := by decide +kernel
theorem dX4_readSign_25 : decode cX4_readSign 25 = .ok (.putfield 25, 3) := by decide +kernel
theorem dX4_readSign_28 : decode cX4_readSign 28 = .ok (.iload_n 1, 1) := by decide +kernel
theorem dX4_readSign_29 : decode cX4_readSign 29 = .ok (.bipush 35, 2) := by decide +kernel
theorem dX4_readSign_31 : decode cX4_readSign 31 = .ok (.if_icmp .ne 15, 3) := by decide +kernel
theorem dX4_readSign_34 : decode cX4_readSign 34 = .ok (.aload_n 3, 1) := by decide +kernel
theorem dX4_readSign_35 : decode cX4_readSign 35 = .ok (.iload 4, 2) := by decide +kernel
theorem dX4_readSign_37 : decode cX4_readSign 37 = .ok (.bipush 48, 2) := by decide +kernel
theorem dX4_readSign_39 : decode cX4_readSign 39 = .ok (.isub, 1) := by decide +kernel
theorem dX4_readSign_40 : decode cX4_readSign 40 = .ok (.invokevirtual 85, 3) := by decide +kernel
theorem dX4_readSign_43 : decode cX4_readSign 43 = .ok (.goto 44, 3) := by decide +kernel
theorem dX4_readSign_46 : decode cX4_readSign 46 = .ok (.iload_n 1, 1) := by decide +kernel
theorem dX4_readSign_47 : decode cX4_readSign 47 = .ok (.bipush 42, 2) := by decide +kernel
theorem dX4_readSign_49 : decode cX4_readSign 49 = .ok (.if_icmp .ne 20, 3) := by decide +kernel
theorem dX4_readSign_52 : decode cX4_readSign 52 = .ok (.aload_n 3, 1) := by decide +kernel
theorem dX4_readSign_53 : decode cX4_readSign 53 = .ok (.aload_n 0, 1) := by decide +kernel
theorem dX4_readSign_54 : decode cX4_readSign 54 = .ok (.iload 4, 2) := by decide +kernel
theorem dX4_readSign_56 : decode cX4_readSign 56 = .ok (.bipush 48, 2) := by decide +kernel
theorem dX4_readSign_58 : decode cX4_readSign 58 = .ok (.isub, 1) := by decide +kernel
theorem dX4_readSign_59 : decode cX4_readSign 59 = .ok (.aload_n 2, 1) := by decide +kernel
theorem dX4_readSign_60 : decode cX4_readSign 60 = .ok (.invokevirtual 89, 3) := by decide +kernel
theorem dX4_readSign_63 : decode cX4_readSign 63 = .ok (.invokevirtual 85, 3) := by decide +kernel
theorem dX4_readSign_66 : decode cX4_readSign 66 = .ok (.goto 21, 3) := by decide +kernel
theorem dX4_readSign_69 : decode cX4_readSign 69 = .ok (.iload_n 1, 1) := by decide +kernel
theorem dX4_readSign_70 : decode cX4_readSign 70 = .ok (.bipush 36, 2) := by decide +kernel
theorem dX4_readSign_72 : decode cX4_readSign 72 = .ok (.if_icmp .eq 9, 3) := by decide +kernel
theorem dX4_readSign_75 : decode cX4_readSign 75 = .ok (.iload_n 1, 1) := by decide +kernel
theorem dX4_readSign_76 : decode cX4_readSign 76 = .ok (.bipush 94, 2) := by decide +kernel
theorem dX4_readSign_78 : decode cX4_readSign 78 = .ok (.if_icmp .ne 9, 3) := by decide +kernel
theorem dX4_readSign_81 : decode cX4_readSign 81 = .ok (.aload_n 3, 1) := by decide +kernel
theorem dX4_readSign_82 : decode cX4_readSign 82 = .ok (.iload 4, 2) := by decide +kernel
theorem dX4_readSign_84 : decode cX4_readSign 84 = .ok (.invokevirtual 85, 3) := by decide +kernel
theorem dX4_readSign_87 : decode cX4_readSign 87 = .ok (.iconst 1, 1) := by decide +kernel
theorem dX4_readSign_88 : decode cX4_readSign 88 = .ok (.ireturn, 1) := by decide +kernel
def f_X4_readSign (V : Mem) (q : Nat) (a1 : Int32) : Option (Int32 × Mem) :=
  bd (f_X4_signAt V) fun r2 V2 =>
  bd (f_X4_fits V2 r2 a1) fun r10 V10 =>
  if r10 = 0 then
    some (0, V10)
  else
    lt (stv V10 222 2 ((V10 222 2) + 1)) fun V25 =>
    if a1 = 35 then
      bv (f_X1_addArgument V25 q (r2 - 48)) fun V40 =>
      some (1, V40)
    else
      if a1 = 42 then
        bd (f_X4_numberFrom V25 (r2 - 48)) fun r60 V60 =>
        bv (f_X1_addArgument V60 q r60) fun V63 =>
        some (1, V63)
      else
        jn (α := Mem → Option (Int32 × Mem)) (fun j81 =>
          if a1 = 36 then
            j81 V25
          else
            if a1 = 94 then
              j81 V25
            else
              some (1, V25)
        ) (fun (V81 : Mem) =>
          bv (f_X1_addArgument V81 q r2) fun V84 =>
          some (1, V84)
        )
theorem cv_X4_readSign : CalV yX4_readSign cX4_readSign 5 (some .boolean) 3 := ⟨⟨⟨by decide +kernel, by decide +kernel⟩, tw_1_6, tw_7_65, by decide +kernel⟩, tw_7_64, tp_16⟩
set_option maxRecDepth 100000 in
set_option maxHeartbeats 4000000 in
theorem m_X4_readSign (l : Launch) (E : En) (ad : Nat → Nat) (V : Mem) (q : Nat) (a1 : Int32) (hS : SF E) (hFr : Fr E) (hq : q < 8) (r : Int32) (Vz : Mem) (hf : f_X4_readSign V q a1 = some (r, Vz)) : MR l E ad yX4_readSign cX4_readSign 5 (some .boolean) 7 [.ref (ad 222), .int a1, .ref (ad 249), .ref (ad (224 + 3 * q))] V (some (.int r)) Vz := by
  refine ent (E := E) (ad := ad) (V := V) "LetterRepository$Program" (by decide +kernel) rfl (Nat.le_of_ble_eq_true rfl) ?_
  intro p e s m below meth c ls hC hI hl
  have hx := hC.1
  have hb := hC.2.1
  have hl : lv_has ls 5 [(0, .ref (ad 222)), (1, .int a1), (2, .ref (ad 249)), (3, .ref (ad (224 + 3 * q)))] := hl
  unfold f_X4_readSign at hf
  refine lv_aload_n hx hb dX4_readSign_0 rfl (lv_at hl 0 rfl) ?_
  refine lv_aload_n hx hb dX4_readSign_1 rfl (lv_at hl 2 rfl) ?_
  obtain ⟨r2, V2, q2, hf⟩ := gbd hf
  refine k_X4_signAt hS hFr hC hI hl.1 q2 tw_7_66 ⟨Nat.le_of_ble_eq_true rfl, Nat.le_of_ble_eq_true rfl⟩ ⟨Nat.le_refl _, Nat.le_refl _⟩ (Nat.le_of_ble_eq_true rfl) dX4_readSign_2 (fun H locs hI => ?_)
  refine lv_istore (lv' := [(4, .int r2), (0, .ref (ad 222)), (1, .int a1), (2, .ref (ad 249)), (3, .ref (ad (224 + 3 * q)))]) hx hb dX4_readSign_5 hl (Nat.lt_of_lt_of_eq (by decide) rfl) rfl (fun ls hl => ?_)
  refine lv_iload hx hb dX4_readSign_7 (lv_at hl 0 rfl) ?_
  refine lv_iload_n hx hb dX4_readSign_9 rfl (lv_at hl 2 rfl) ?_
  obtain ⟨r10, V10, q10, hf⟩ := gbd hf
  refine k_X4_fits hC hI hl.1 q10 tw_7_72 ⟨Nat.le_of_ble_eq_true rfl, Nat.le_of_ble_eq_true rfl⟩ ⟨Nat.le_refl _, Nat.le_refl _⟩ (Nat.le_of_ble_eq_true rfl) dX4_readSign_10 (fun H locs hI => ?_)
  refine lv_if_ne (tgt := 18) hx hb dX4_readSign_13 (by decide) (fun c13 => ?_) (fun c13 => ?_)
  · have hf := gf hf c13
    refine lv_aload_n hx hb dX4_readSign_18 rfl (lv_at hl 1 rfl) ?_
    refine lv_dup hx hb dX4_readSign_19 rfl ?_
    refine g_222_position hC hI tw_1_170 dX4_readSign_20 ?_
    refine lv_iconst (v := 1) hx hb dX4_readSign_23 rfl ?_
    refine lv_iadd hx hb dX4_readSign_24 ?_
    obtain ⟨V25, e25, hf⟩ := gl hf
    refine p_222_position hC hI  e25 tw_1_170 dX4_readSign_25 (fun H locs hI => ?_)
    refine lv_iload_n hx hb dX4_readSign_28 rfl (lv_at hl 2 rfl) ?_
    refine lv_bipush (v := 35) hx hb dX4_readSign_29 rfl ?_
    refine lv_icmp_ne (tgt := 46) hx hb dX4_readSign_31 (by decide) (fun c31 => ?_) (fun c31 => ?_)
    · have hf := gf hf c31
      refine lv_iload_n hx hb dX4_readSign_46 rfl (lv_at hl 2 rfl) ?_
      refine lv_bipush (v := 42) hx hb dX4_readSign_47 rfl ?_
      refine lv_icmp_ne (tgt := 69) hx hb dX4_readSign_49 (by decide) (fun c49 => ?_) (fun c49 => ?_)
      · have hf := gf hf c49
        refine lv_iload_n hx hb dX4_readSign_69 rfl (lv_at hl 2 rfl) ?_
        refine lv_bipush (v := 36) hx hb dX4_readSign_70 rfl ?_
        obtain ⟨j81, hj81, hf⟩ := gj hf
        have J81 : ∀ (V81 : Mem) (H : Heap) (locs : List Loc) (ls : Array Slot), j81 V81 = some (r, Vz) → In E ad V81 s H locs → lv_has ls 5 [(3, .ref (ad (224 + 3 * q))), (4, .int r2)] → W p l e (rmd 7) s m ([.ref (ad 222), .int a1, .ref (ad 249), .ref (ad (224 + 3 * q))] : List Value).toArray below meth c H locs 0 0 (MQ below (QR E ad (some (.int r)) Vz) ([.ref (ad 222), .int a1, .ref (ad 249), .ref (ad (224 + 3 * q))] : List Value).toArray s 0 0 (ours E)) (F0 m 81 ls []) := by
          intro V81 H locs ls hf hI hl
          rw [hj81] at hf
          dsimp only at hf
          refine lv_aload_n hx hb dX4_readSign_81 rfl (lv_at hl 0 rfl) ?_
          refine lv_iload hx hb dX4_readSign_82 (lv_at hl 1 rfl) ?_
          obtain ⟨V84, q84, hf⟩ := gbv hf
          refine k_X1_addArgument hq hC hI hl.1 q84 tw_7_80 ⟨Nat.le_of_ble_eq_true rfl, Nat.le_of_ble_eq_true rfl⟩ ⟨Nat.le_refl _, Nat.le_refl _⟩ (Nat.le_of_ble_eq_true rfl) dX4_readSign_84 (fun H locs hI => ?_)
          refine lv_iconst (v := 1) hx hb dX4_readSign_87 rfl ?_
          exact r_zret2 hC hI (.inr rfl) hf dX4_readSign_88
        refine lv_icmp_eq (tgt := 81) hx hb dX4_readSign_72 (by decide) (fun c72 => ?_) (fun c72 => ?_)
        · have hf := gt hf c72
          exact J81 _ _ _ _ hf hI (lv_sub hl [4, 0] rfl)
        · have hf := gf hf c72
          refine lv_iload_n hx hb dX4_readSign_75 rfl (lv_at hl 2 rfl) ?_
          refine lv_bipush (v := 94) hx hb dX4_readSign_76 rfl ?_
          refine lv_icmp_ne (tgt := 87) hx hb dX4_readSign_78 (by decide) (fun c78 => ?_) (fun c78 => ?_)
          · have hf := gf hf c78
            refine lv_iconst (v := 1) hx hb dX4_readSign_87 rfl ?_
            exact r_zret2 hC hI (.inr rfl) hf dX4_readSign_88
          · have hf := gt hf c78
            exact J81 _ _ _ _ hf hI (lv_sub hl [4, 0] rfl)
      · have hf := gt hf c49
        refine lv_aload_n hx hb dX4_readSign_52 rfl (lv_at hl 4 rfl) ?_
        refine lv_aload_n hx hb dX4_readSign_53 rfl (lv_at hl 1 rfl) ?_
        refine lv_iload hx hb dX4_readSign_54 (lv_at hl 0 rfl) ?_
        refine lv_bipush (v := 48) hx hb dX4_readSign_56 rfl ?_
        refine lv_isub hx hb dX4_readSign_58 ?_
        refine lv_aload_n hx hb dX4_readSign_59 rfl (lv_at hl 3 rfl) ?_
        obtain ⟨r60, V60, q60, hf⟩ := gbd hf
        refine k_X4_numberFrom hS hFr hC hI hl.1 q60 tw_7_85 ⟨Nat.le_of_ble_eq_true rfl, Nat.le_of_ble_eq_true rfl⟩ ⟨Nat.le_refl _, Nat.le_refl _⟩ (Nat.le_of_ble_eq_true rfl) dX4_readSign_60 (fun H locs hI => ?_)
        obtain ⟨V63, q63, hf⟩ := gbv hf
        refine k_X1_addArgument hq hC hI hl.1 q63 tw_7_80 ⟨Nat.le_of_ble_eq_true rfl, Nat.le_of_ble_eq_true rfl⟩ ⟨Nat.le_refl _, Nat.le_refl _⟩ (Nat.le_of_ble_eq_true rfl) dX4_readSign_63 (fun H locs hI => ?_)
        refine lv_goto (tgt := 87) hx hb dX4_readSign_66 (by decide) ?_
        refine lv_iconst (v := 1) hx hb dX4_readSign_87 rfl ?_
        exact r_zret2 hC hI (.inr rfl) hf dX4_readSign_88
    · have hf := gt hf c31
      refine lv_aload_n hx hb dX4_readSign_34 rfl (lv_at hl 4 rfl) ?_
      refine lv_iload hx hb dX4_readSign_35 (lv_at hl 0 rfl) ?_
      refine lv_bipush (v := 48) hx hb dX4_readSign_37 rfl ?_
      refine lv_isub hx hb dX4_readSign_39 ?_
      obtain ⟨V40, q40, hf⟩ := gbv hf
      refine k_X1_addArgument hq hC hI hl.1 q40 tw_7_80 ⟨Nat.le_of_ble_eq_true rfl, Nat.le_of_ble_eq_true rfl⟩ ⟨Nat.le_refl _, Nat.le_refl _⟩ (Nat.le_of_ble_eq_true rfl) dX4_readSign_40 (fun H locs hI => ?_)
      refine lv_goto (tgt := 87) hx hb dX4_readSign_43 (by decide) ?_
      refine lv_iconst (v := 1) hx hb dX4_readSign_87 rfl ?_
      exact r_zret2 hC hI (.inr rfl) hf dX4_readSign_88
  · have hf := gt hf c13
    refine lv_iconst (v := 0) hx hb dX4_readSign_16 rfl ?_
    exact r_zret2 hC hI (.inl rfl) hf dX4_readSign_17
theorem k_X4_readSign {p : Program} {l : Launch} {e : Env} {R : Room} {cells slots : Nat} {s : State} {m : MethodId} {args : Array Value} {below : List Frame} {meth : Method} {c : Code} {H : Heap} {locs : List Loc} {Q : State → Prop} {E : En} {ad : Nat → Nat} {V : Mem} {ow : String} {b : ByteArray} {n : Nat} {ret : Option FieldType} {pc index : Nat} {ls : Array Slot} {rest : List Value} {q : Nat} {a1 : Int32} {r : Int32} {V1 : Mem} (hS : SF E) (hFr : Fr E) (hq : q < 8) (hC : Cx p s m args c meth E ow b n ret) (hI : In E ad V s H locs) (hsz : ls.size = n) (hf : f_X4_readSign V q a1 = some (r, V1)) (hl : Cond.methodLink ow index yX4_readSign ∈ TB) (hR : 7 + 1 ≤ R.frames ∧ 8 + (5 + 11) + 40 * 7 ≤ R.locals) (hcs : cells ≤ R.cells ∧ slots ≤ R.slots) (hw : (rest.map fun v => v.category).sum ≤ 8) (hdg : decode b pc = .ok (.invokevirtual index, 3)) (kk : ∀ (H1 : Heap) (locs1 : List Loc), In E ad V1 s H1 locs1 → W p l e R s m args below meth c H1 locs1 cells slots Q (F0 m (pc + 3) ls ((.int r) :: rest))) : W p l e R s m args below meth c H locs cells slots Q (F0 m pc ls (.ref (ad (224 + 3 * q)) :: .ref (ad 249) :: .int a1 :: .ref (ad 222) :: rest)) :=
  r_calV (As := [.int a1, .ref (ad 249), .ref (ad (224 + 3 * q))]) (rest := rest) hC hI hsz (m_X4_readSign l E ad V q a1 hS hFr hq r _ hf) cv_X4_readSign hl (by decide) (ce_222 _) rfl rfl rfl hR hcs hw hdg kk

theorem dX4_readForm_0 : decode cX4_readForm 0 = .ok (.aload_n 0, 1) := by decide +kernel
theorem dX4_readForm_1 : decode cX4_readForm 1 = .ok (.aload_n 0, 1) := by decide +kernel
theorem dX4_readForm_2 : decode cX4_readForm 2 = .ok (.getfield 22, 3) := by decide +kernel
theorem dX4_readForm_5 : decode cX4_readForm 5 = .ok (.invokevirtual 53, 3) := by decide +kernel
theorem dX4_readForm_8 : decode cX4_readForm 8 = .ok (.astore_n 3, 1) := by decide +kernel
theorem dX4_readForm_9 : decode cX4_readForm 9 = .ok (.aload_n 3, 1) := by decide +kernel
theorem dX4_readForm_10 : decode cX4_readForm 10 = .ok (.ifnonnull 5, 3) := by decide +kernel
theorem dX4_readForm_13 : decode cX4_readForm 13 = .ok (.iconst 0, 1) := by decide +kernel
theorem dX4_readForm_14 : decode cX4_readForm 14 = .ok (.ireturn, 1) := by decide +kernel
theorem dX4_readForm_15 : decode cX4_readForm 15 = .ok (.aload_n 3, 1) := by decide +kernel
theorem dX4_readForm_16 : decode cX4_readForm 16 = .ok (.aload_n 1, 1) := by decide +kernel
theorem dX4_readForm_17 : decode cX4_readForm 17 = .ok (.invokevirtual 57, 3) := by decide +kernel
theorem dX4_readForm_20 : decode cX4_readForm 20 = .ok (.iconst 0, 1) := by decide +kernel
theorem dX4_readForm_21 : decode cX4_readForm 21 = .ok (.istore 4, 2) := by decide +kernel
theorem dX4_readForm_23 : decode cX4_readForm 23 = .ok (.iload 4, 2) := by decide +kernel
theorem dX4_readForm_25 : decode cX4_readForm 25 = .ok (.aload_n 1, 1) := by decide +kernel
theorem dX4_readForm_26 : decode cX4_readForm 26 = .ok (.getfield 61, 3) := by decide +kernel
theorem dX4_readForm_29 : decode cX4_readForm 29 = .ok (.invokevirtual 67, 3) := by decide +kernel
theorem dX4_readForm_32 : decode cX4_readForm 32 = .ok (.if_icmp .ge 29, 3) := by decide +kernel
theorem dX4_readForm_35 : decode cX4_readForm 35 = .ok (.aload_n 0, 1) := by decide +kernel
theorem dX4_readForm_36 : decode cX4_readForm 36 = .ok (.aload_n 1, 1) := by decide +kernel
theorem dX4_readForm_37 : decode cX4_readForm 37 = .ok (.getfield 61, 3) := by decide +kernel
theorem dX4_readForm_40 : decode cX4_readForm 40 = .ok (.iload 4, 2) := by decide +kernel
theorem dX4_readForm_42 : decode cX4_readForm 42 = .ok (.invokevirtual 73, 3) := by decide +kernel
theorem dX4_readForm_45 : decode cX4_readForm 45 = .ok (.aload_n 2, 1) := by decide +kernel
theorem dX4_readForm_46 : decode cX4_readForm 46 = .ok (.aload_n 3, 1) := by decide +kernel
theorem dX4_readForm_47 : decode cX4_readForm 47 = .ok (.invokevirtual 77, 3) := by decide +kernel
theorem dX4_readForm_50 : decode cX4_readForm 50 = .ok (.ifCond .ne 5, 3) := by decide +kernel
theorem dX4_readForm_53 : decode cX4_readForm 53 = .ok (.iconst 0, 1) := by decide +kernel
theorem dX4_readForm_54 : decode cX4_readForm 54 = .ok (.ireturn, 1) := by decide +kernel
theorem dX4_readForm_55 : decode cX4_readForm 55 = .ok (.iinc 4 1, 3) := by decide +kernel
theorem dX4_readForm_58 : decode cX4_readForm 58 = .ok (.goto (-35), 3) := by decide +kernel
theorem dX4_readForm_61 : decode cX4_readForm 61 = .ok (.iconst 1, 1) := by decide +kernel
theorem dX4_readForm_62 : decode cX4_readForm 62 = .ok (.ireturn, 1) := by decide +kernel
def f_X4_readForm_L23 (z : Nat) (k5 : Nat) : Nat → Mem → Int32 → Option (Int32 × Mem)
  | 0, _, _ => none
  | n23 + 1, V23, x4_23 =>
    bd (f_J0_length_8abf5 V23 z) fun r29 V29 =>
    if r29 ≤ x4_23 then
      some (1, V29)
    else
      bd (f_J0_charAt_5068e V29 z x4_23) fun r42 V42 =>
      bd (f_X4_readSign V42 k5 r42) fun r47 V47 =>
      if r47 = 0 then
        some (0, V47)
      else
        (f_X4_readForm_L23 z k5 n23) V47 (x4_23 + 1)
def f_X4_readForm (V : Mem) (z : Nat) : Option (Int32 × Mem) :=
  bd (f_X4_commandAt V (V 222 0)) fun o5 V5 =>
  om o5 (
    some (0, V5)
  ) fun k5 =>
  if k5 < 8 then
    bv (f_X1_begin V5 k5 z) fun V17 =>
    f_X4_readForm_L23 z k5 FU V17 0
  else none
theorem cv_X4_readForm : CalV yX4_readForm cX4_readForm 5 (some .boolean) 2 := ⟨⟨⟨by decide +kernel, by decide +kernel⟩, tw_1_6, tw_7_37, by decide +kernel⟩, tw_7_36, tp_15⟩
set_option maxRecDepth 100000 in
set_option maxHeartbeats 4000000 in
theorem m_X4_readForm (l : Launch) (E : En) (ad : Nat → Nat) (V : Mem) (z : Nat) (hS : SF E) (hFr : Fr E) (hz : z < 13) (r : Int32) (Vz : Mem) (hf : f_X4_readForm V z = some (r, Vz)) : MR l E ad yX4_readForm cX4_readForm 5 (some .boolean) 8 [.ref (ad 222), .ref (eK E z), .ref (ad 249)] V (some (.int r)) Vz := by
  refine ent (E := E) (ad := ad) (V := V) "LetterRepository$Program" (by decide +kernel) rfl (Nat.le_of_ble_eq_true rfl) ?_
  intro p e s m below meth c ls hC hI hl
  have hx := hC.1
  have hb := hC.2.1
  have hl : lv_has ls 5 [(0, .ref (ad 222)), (1, .ref (eK E z)), (2, .ref (ad 249))] := hl
  unfold f_X4_readForm at hf
  refine lv_aload_n hx hb dX4_readForm_0 rfl (lv_at hl 0 rfl) ?_
  refine lv_aload_n hx hb dX4_readForm_1 rfl (lv_at hl 0 rfl) ?_
  refine g_222_count hC hI tw_1_166 dX4_readForm_2 ?_
  obtain ⟨o5, V5, q5, hf⟩ := gbd hf
  refine k_X4_commandAt hC hI hl.1 q5 tw_7_38 ⟨Nat.le_of_ble_eq_true rfl, Nat.le_of_ble_eq_true rfl⟩ ⟨Nat.le_refl _, Nat.le_refl _⟩ (Nat.le_of_ble_eq_true rfl) dX4_readForm_5 (fun H locs hI => ?_)
  rcases o5 with _ | k5
  · have hf := gon hf
    refine lv_astore_nN (lv' := [(3, .null), (0, .ref (ad 222)), (1, .ref (eK E z)), (2, .ref (ad 249))]) hx hb dX4_readForm_8 rfl hl (Nat.lt_of_lt_of_eq (by decide) rfl) rfl (fun ls hl => ?_)
    refine lv_aload_nN hx hb dX4_readForm_9 rfl (lv_at hl 0 rfl) ?_
    refine lv_ifnonnullN hx hb dX4_readForm_10 ?_
    refine lv_iconst (v := 0) hx hb dX4_readForm_13 rfl ?_
    exact r_zret2 hC hI (.inl rfl) hf dX4_readForm_14
  · have hf := gos hf
    obtain ⟨hk5, hf⟩ := gi hf
    refine lv_astore_n (lv' := [(3, .ref (ad (224 + 3 * k5))), (0, .ref (ad 222)), (1, .ref (eK E z)), (2, .ref (ad 249))]) hx hb dX4_readForm_8 rfl hl (Nat.lt_of_lt_of_eq (by decide) rfl) rfl (fun ls hl => ?_)
    refine lv_aload_n hx hb dX4_readForm_9 rfl (lv_at hl 0 rfl) ?_
    refine lv_ifnonnull (tgt := 15) hx hb dX4_readForm_10 (by decide) ?_
    refine lv_aload_n hx hb dX4_readForm_15 rfl (lv_at hl 0 rfl) ?_
    refine lv_aload_n hx hb dX4_readForm_16 rfl (lv_at hl 2 rfl) ?_
    obtain ⟨V17, q17, hf⟩ := gbv hf
    refine k_X1_begin hk5 hz hC hI hl.1 q17 tw_7_42 ⟨Nat.le_of_ble_eq_true rfl, Nat.le_of_ble_eq_true rfl⟩ ⟨Nat.le_refl _, Nat.le_refl _⟩ (Nat.le_of_ble_eq_true rfl) dX4_readForm_17 (fun H locs hI => ?_)
    refine lv_iconst (v := 0) hx hb dX4_readForm_20 rfl ?_
    refine lv_istore (lv' := [(4, .int 0), (3, .ref (ad (224 + 3 * k5))), (0, .ref (ad 222)), (1, .ref (eK E z)), (2, .ref (ad 249))]) hx hb dX4_readForm_21 hl (Nat.lt_of_lt_of_eq (by decide) rfl) rfl (fun ls hl => ?_)
    have L23 : ∀ (n23 : Nat) (V23 : Mem) (x4_23 : Int32) (H : Heap) (locs : List Loc) (ls : Array Slot), f_X4_readForm_L23 z k5 n23 V23 x4_23 = some (r, Vz) → In E ad V23 s H locs → lv_has ls 5 [(0, .ref (ad 222)), (1, .ref (eK E z)), (2, .ref (ad 249)), (3, .ref (ad (224 + 3 * k5))), (4, .int x4_23)] → W p l e (rmd 8) s m ([.ref (ad 222), .ref (eK E z), .ref (ad 249)] : List Value).toArray below meth c H locs 0 0 (MQ below (QR E ad (some (.int r)) Vz) ([.ref (ad 222), .ref (eK E z), .ref (ad 249)] : List Value).toArray s 0 0 (ours E)) (F0 m 23 ls []) := by
      intro n23
      induction n23 with
      | zero => intro V23 x4_23 H locs ls hf hI hl; cases hf
      | succ n23 ih23 =>
        intro V23 x4_23 H locs ls hf hI hl
        rw [f_X4_readForm_L23.eq_2] at hf
        refine lv_iload hx hb dX4_readForm_23 (lv_at hl 4 rfl) ?_
        refine lv_aload_n hx hb dX4_readForm_25 rfl (lv_at hl 1 rfl) ?_
        refine t_form hS hz hC hI tw_10_42 dX4_readForm_26 ?_
        obtain ⟨r29, V29, q29, hf⟩ := gbd hf
        refine k_J0_length_8abf5 hS (Nat.lt_trans hz (by decide)) hC hI hl.1 q29 tw_7_46 ⟨Nat.le_of_ble_eq_true rfl, Nat.le_of_ble_eq_true rfl⟩ ⟨Nat.le_refl _, Nat.le_refl _⟩ (Nat.le_of_ble_eq_true rfl) dX4_readForm_29 (fun H locs hI => ?_)
        refine lv_icmp_ge (tgt := 61) hx hb dX4_readForm_32 (by decide) (fun c32 => ?_) (fun c32 => ?_)
        · have hf := gt hf c32
          refine lv_iconst (v := 1) hx hb dX4_readForm_61 rfl ?_
          exact r_zret2 hC hI (.inr rfl) hf dX4_readForm_62
        · have hf := gf hf c32
          refine lv_aload_n hx hb dX4_readForm_35 rfl (lv_at hl 0 rfl) ?_
          refine lv_aload_n hx hb dX4_readForm_36 rfl (lv_at hl 1 rfl) ?_
          refine t_form hS hz hC hI tw_10_42 dX4_readForm_37 ?_
          refine lv_iload hx hb dX4_readForm_40 (lv_at hl 4 rfl) ?_
          obtain ⟨r42, V42, q42, hf⟩ := gbd hf
          refine k_J0_charAt_5068e hS (Nat.lt_trans hz (by decide)) hC hI hl.1 q42 tw_7_47 ⟨Nat.le_of_ble_eq_true rfl, Nat.le_of_ble_eq_true rfl⟩ ⟨Nat.le_refl _, Nat.le_refl _⟩ (Nat.le_of_ble_eq_true rfl) dX4_readForm_42 (fun H locs hI => ?_)
          refine lv_aload_n hx hb dX4_readForm_45 rfl (lv_at hl 2 rfl) ?_
          refine lv_aload_n hx hb dX4_readForm_46 rfl (lv_at hl 3 rfl) ?_
          obtain ⟨r47, V47, q47, hf⟩ := gbd hf
          refine k_X4_readSign hS hFr hk5 hC hI hl.1 q47 tw_7_62 ⟨Nat.le_of_ble_eq_true rfl, Nat.le_of_ble_eq_true rfl⟩ ⟨Nat.le_refl _, Nat.le_refl _⟩ (Nat.le_of_ble_eq_true rfl) dX4_readForm_47 (fun H locs hI => ?_)
          refine lv_if_ne (tgt := 55) hx hb dX4_readForm_50 (by decide) (fun c50 => ?_) (fun c50 => ?_)
          · have hf := gf hf c50
            refine lv_iinc (v := (x4_23 + 1)) (lv' := [(4, .int (x4_23 + 1)), (0, .ref (ad 222)), (1, .ref (eK E z)), (2, .ref (ad 249)), (3, .ref (ad (224 + 3 * k5)))]) hx hb dX4_readForm_55 hl (k := 4) rfl rfl (Nat.lt_of_lt_of_eq (by decide) rfl) rfl (fun ls hl => ?_)
            refine lv_goto (tgt := 23) hx hb dX4_readForm_58 (by decide) ?_
            exact ih23 _ _ _ _ _ hf hI (lv_sub hl [1, 2, 3, 4, 0] rfl)
          · have hf := gt hf c50
            refine lv_iconst (v := 0) hx hb dX4_readForm_53 rfl ?_
            exact r_zret2 hC hI (.inl rfl) hf dX4_readForm_54
    exact L23 _ _ _ _ _ _ hf hI (lv_sub hl [2, 3, 4, 1, 0] rfl)
theorem k_X4_readForm {p : Program} {l : Launch} {e : Env} {R : Room} {cells slots : Nat} {s : State} {m : MethodId} {args : Array Value} {below : List Frame} {meth : Method} {c : Code} {H : Heap} {locs : List Loc} {Q : State → Prop} {E : En} {ad : Nat → Nat} {V : Mem} {ow : String} {b : ByteArray} {n : Nat} {ret : Option FieldType} {pc index : Nat} {ls : Array Slot} {rest : List Value} {z : Nat} {r : Int32} {V1 : Mem} (hS : SF E) (hFr : Fr E) (hz : z < 13) (hC : Cx p s m args c meth E ow b n ret) (hI : In E ad V s H locs) (hsz : ls.size = n) (hf : f_X4_readForm V z = some (r, V1)) (hl : Cond.methodLink ow index yX4_readForm ∈ TB) (hR : 8 + 1 ≤ R.frames ∧ 8 + (5 + 11) + 40 * 8 ≤ R.locals) (hcs : cells ≤ R.cells ∧ slots ≤ R.slots) (hw : (rest.map fun v => v.category).sum ≤ 8) (hdg : decode b pc = .ok (.invokevirtual index, 3)) (kk : ∀ (H1 : Heap) (locs1 : List Loc), In E ad V1 s H1 locs1 → W p l e R s m args below meth c H1 locs1 cells slots Q (F0 m (pc + 3) ls ((.int r) :: rest))) : W p l e R s m args below meth c H locs cells slots Q (F0 m pc ls (.ref (ad 249) :: .ref (eK E z) :: .ref (ad 222) :: rest)) :=
  r_calV (As := [.ref (eK E z), .ref (ad 249)]) (rest := rest) hC hI hsz (m_X4_readForm l E ad V z hS hFr hz r _ hf) cv_X4_readForm hl (by decide) (ce_222 _) rfl rfl rfl hR hcs hw hdg kk

theorem dX4_readCommand_0 : decode cX4_readCommand 0 = .ok (.aload_n 0, 1) := by decide +kernel
theorem dX4_readCommand_1 : decode cX4_readCommand 1 = .ok (.getfield 25, 3) := by decide +kernel
theorem dX4_readCommand_4 : decode cX4_readCommand 4 = .ok (.istore_n 2, 1) := by decide +kernel
theorem dX4_readCommand_5 : decode cX4_readCommand 5 = .ok (.iload_n 2, 1) := by decide +kernel
theorem dX4_readCommand_6 : decode cX4_readCommand 6 = .ok (.istore_n 3, 1) := by decide +kernel
theorem dX4_readCommand_7 : decode cX4_readCommand 7 = .ok (.getstatic 35, 3) := by decide +kernel
theorem dX4_readCommand_10 : decode cX4_readCommand 10 = .ok (.astore 4, 2) := by decide +kernel
theorem dX4_readCommand_12 : decode cX4_readCommand 12 = .ok (.aload 4, 2) := by decide +kernel
theorem dX4_readCommand_14 : decode cX4_readCommand 14 = .ok (.arraylength, 1) := by decide +kernel
theorem dX4_readCommand_15 : decode cX4_readCommand 15 = .ok (.istore 5, 2) := by decide +kernel
theorem dX4_readCommand_17 : decode cX4_readCommand 17 = .ok (.iconst 0, 1) := by decide +kernel
theorem dX4_readCommand_18 : decode cX4_readCommand 18 = .ok (.istore 6, 2) := by decide +kernel
theorem dX4_readCommand_20 : decode cX4_readCommand 20 = .ok (.iload 6, 2) := by decide +kernel
theorem dX4_readCommand_22 : decode cX4_readCommand 22 = .ok (.iload 5, 2) := by decide +kernel
theorem dX4_readCommand_24 : decode cX4_readCommand 24 = .ok (.if_icmp .ge 52, 3) := by decide +kernel
theorem dX4_readCommand_27 : decode cX4_readCommand 27 = .ok (.aload 4, 2) := by decide +kernel
theorem dX4_readCommand_29 : decode cX4_readCommand 29 = .ok (.iload 6, 2) := by decide +kernel
theorem dX4_readCommand_31 : decode cX4_readCommand 31 = .ok (.aaload, 1) := by decide +kernel
theorem dX4_readCommand_32 : decode cX4_readCommand 32 = .ok (.astore 7, 2) := by decide +kernel
theorem dX4_readCommand_34 : decode cX4_readCommand 34 = .ok (.aload_n 0, 1) := by decide +kernel
theorem dX4_readCommand_35 : decode cX4_readCommand 35 = .ok (.iload_n 2, 1) := by decide +kernel
theorem dX4_readCommand_36 : decode cX4_readCommand 36 = .ok (.putfield 25, 3) := by decide +kernel
theorem dX4_readCommand_39 : decode cX4_readCommand 39 = .ok (.aload_n 0, 1) := by decide +kernel
theorem dX4_readCommand_40 : decode cX4_readCommand 40 = .ok (.aload 7, 2) := by decide +kernel
theorem dX4_readCommand_42 : decode cX4_readCommand 42 = .ok (.aload_n 1, 1) := by decide +kernel
theorem dX4_readCommand_43 : decode cX4_readCommand 43 = .ok (.invokevirtual 39, 3) := by decide +kernel
theorem dX4_readCommand_46 : decode cX4_readCommand 46 = .ok (.ifCond .eq 15, 3) := by decide +kernel
theorem dX4_readCommand_49 : decode cX4_readCommand 49 = .ok (.aload_n 0, 1) := by decide +kernel
theorem dX4_readCommand_50 : decode cX4_readCommand 50 = .ok (.dup, 1) := by decide +kernel
theorem dX4_readCommand_51 : decode cX4_readCommand 51 = .ok (.getfield 22, 3) := by decide +kernel
theorem dX4_readCommand_54 : decode cX4_readCommand 54 = .ok (.iconst 1, 1) := by decide +kernel
theorem dX4_readCommand_55 : decode cX4_readCommand 55 = .ok (.iadd, 1) := by decide +kernel
theorem dX4_readCommand_56 : decode cX4_readCommand 56 = .ok (.putfield 22, 3) := by decide +kernel
theorem dX4_readCommand_59 : decode cX4_readCommand 59 = .ok (.iconst 1, 1) := by decide +kernel
theorem dX4_readCommand_60 : decode cX4_readCommand 60 = .ok (.ireturn, 1) := by decide +kernel
theorem dX4_readCommand_61 : decode cX4_readCommand 61 = .ok (.iload_n 3, 1) := by decide +kernel
theorem dX4_readCommand_62 : decode cX4_readCommand 62 = .ok (.aload_n 0, 1) := by decide +kernel
theorem dX4_readCommand_63 : decode cX4_readCommand 63 = .ok (.getfield 25, 3) := by decide +kernel
theorem dX4_readCommand_66 : decode cX4_readCommand 66 = .ok (.invokestatic 43, 3) := by decide +kernel
theorem dX4_readCommand_69 : decode cX4_readCommand 69 = .ok (.istore_n 3, 1) := by decide +kernel
theorem dX4_readCommand_70 : decode cX4_readCommand 70 = .ok (.iinc 6 1, 3) := by decide +kernel
theorem dX4_readCommand_73 : decode cX4_readCommand 73 = .ok (.goto (-53), 3) := by decide +kernel
theorem dX4_readCommand_76 : decode cX4_readCommand 76 = .ok (.aload_n 0, 1) := by decide +kernel
theorem dX4_readCommand_77 : decode cX4_readCommand 77 = .ok (.iload_n 3, 1) := by decide +kernel
theorem dX4_readCommand_78 : decode cX4_readCommand 78 = .ok (.putfield 17, 3) := by decide +kernel
theorem dX4_readCommand_81 : decode cX4_readCommand 81 = .ok (.iconst 0, 1) := by decide +kernel
theorem dX4_readCommand_82 : decode cX4_readCommand 82 = .ok (.ireturn, 1) := by decide +kernel
def f_X4_readCommand_L20 (x2_20 : Int32) (j49 : Mem → Option (Int32 × Mem)) (j76 : Mem → Int32 → Option (Int32 × Mem)) : Nat → Mem → Int32 → Int32 → Option (Int32 × Mem)
  | 0, _, _, _ => none
  | n20 + 1, V20, x3_20, x6_20 =>
    if 13 ≤ x6_20 then
      j76 V20 x3_20
    else
      if ib x6_20 13 = true then
        lt (stv V20 222 2 x2_20) fun V36 =>
        bd (f_X4_readForm V36 x6_20.toNatClampNeg) fun r43 V43 =>
        if r43 = 0 then
          (f_X4_readCommand_L20 x2_20 j49 j76 n20) V43 (if x3_20 < (V43 222 2) then (V43 222 2) else x3_20) (x6_20 + 1)
        else
          j49 V43
      else none
def f_X4_readCommand (V : Mem) : Option (Int32 × Mem) :=
  jn (α := Mem → Int32 → Option (Int32 × Mem)) (fun j76 =>
    jn (α := Mem → Option (Int32 × Mem)) (fun j49 =>
      f_X4_readCommand_L20 (V 222 2) j49 j76 FU V (V 222 2) 0
    ) (fun (V49 : Mem) =>
      lt (stv V49 222 0 ((V49 222 0) + 1)) fun V56 =>
      some (1, V56)
    )
  ) (fun (V76 : Mem) (x3_76 : Int32) =>
    lt (stv V76 222 1 x3_76) fun V78 =>
    some (0, V78)
  )
theorem cv_X4_readCommand : CalV yX4_readCommand cX4_readCommand 8 (some .boolean) 1 := ⟨⟨⟨by decide +kernel, by decide +kernel⟩, tw_1_6, tw_7_31, by decide +kernel⟩, tw_7_30, tp_14⟩
set_option maxRecDepth 100000 in
set_option maxHeartbeats 4000000 in
theorem m_X4_readCommand (l : Launch) (E : En) (ad : Nat → Nat) (V : Mem) (hS : SF E) (hFr : Fr E) (r : Int32) (Vz : Mem) (hf : f_X4_readCommand V = some (r, Vz)) : MR l E ad yX4_readCommand cX4_readCommand 8 (some .boolean) 9 [.ref (ad 222), .ref (ad 249)] V (some (.int r)) Vz := by
  refine ent (E := E) (ad := ad) (V := V) "LetterRepository$Program" (by decide +kernel) rfl (Nat.le_of_ble_eq_true rfl) ?_
  intro p e s m below meth c ls hC hI hl
  have hx := hC.1
  have hb := hC.2.1
  have hl : lv_has ls 8 [(0, .ref (ad 222)), (1, .ref (ad 249))] := hl
  unfold f_X4_readCommand at hf
  refine lv_aload_n hx hb dX4_readCommand_0 rfl (lv_at hl 0 rfl) ?_
  refine g_222_position hC hI tw_1_170 dX4_readCommand_1 ?_
  refine lv_istore_n (lv' := [(2, .int (V 222 2)), (0, .ref (ad 222)), (1, .ref (ad 249))]) hx hb dX4_readCommand_4 rfl hl (Nat.lt_of_lt_of_eq (by decide) rfl) rfl (fun ls hl => ?_)
  refine lv_iload_n hx hb dX4_readCommand_5 rfl (lv_at hl 0 rfl) ?_
  refine lv_istore_n (lv' := [(3, .int (V 222 2)), (2, .int (V 222 2)), (0, .ref (ad 222)), (1, .ref (ad 249))]) hx hb dX4_readCommand_6 rfl hl (Nat.lt_of_lt_of_eq (by decide) rfl) rfl (fun ls hl => ?_)
  refine t_kinds hS hC hI tw_7_32 dX4_readCommand_7 ?_
  refine lv_astore (lv' := [(4, .ref (eA E 2 0)), (3, .int (V 222 2)), (2, .int (V 222 2)), (0, .ref (ad 222)), (1, .ref (ad 249))]) hx hb dX4_readCommand_10 hl (Nat.lt_of_lt_of_eq (by decide) rfl) rfl (fun ls hl => ?_)
  refine lv_aload hx hb dX4_readCommand_12 (lv_at hl 0 rfl) ?_
  refine t_klen hS hC hI dX4_readCommand_14 ?_
  refine lv_istore (lv' := [(5, .int 13), (4, .ref (eA E 2 0)), (3, .int (V 222 2)), (2, .int (V 222 2)), (0, .ref (ad 222)), (1, .ref (ad 249))]) hx hb dX4_readCommand_15 hl (Nat.lt_of_lt_of_eq (by decide) rfl) rfl (fun ls hl => ?_)
  refine lv_iconst (v := 0) hx hb dX4_readCommand_17 rfl ?_
  refine lv_istore (lv' := [(6, .int 0), (5, .int 13), (4, .ref (eA E 2 0)), (3, .int (V 222 2)), (2, .int (V 222 2)), (0, .ref (ad 222)), (1, .ref (ad 249))]) hx hb dX4_readCommand_18 hl (Nat.lt_of_lt_of_eq (by decide) rfl) rfl (fun ls hl => ?_)
  obtain ⟨j76, hj76, hf⟩ := gj hf
  have J76 : ∀ (V76 : Mem) (x3_76 : Int32) (H : Heap) (locs : List Loc) (ls : Array Slot), j76 V76 x3_76 = some (r, Vz) → In E ad V76 s H locs → lv_has ls 8 [(0, .ref (ad 222)), (3, .int x3_76)] → W p l e (rmd 9) s m ([.ref (ad 222), .ref (ad 249)] : List Value).toArray below meth c H locs 0 0 (MQ below (QR E ad (some (.int r)) Vz) ([.ref (ad 222), .ref (ad 249)] : List Value).toArray s 0 0 (ours E)) (F0 m 76 ls []) := by
    intro V76 x3_76 H locs ls hf hI hl
    rw [hj76] at hf
    dsimp only at hf
    refine lv_aload_n hx hb dX4_readCommand_76 rfl (lv_at hl 0 rfl) ?_
    refine lv_iload_n hx hb dX4_readCommand_77 rfl (lv_at hl 1 rfl) ?_
    obtain ⟨V78, e78, hf⟩ := gl hf
    refine p_222_error hC hI  e78 tw_1_168 dX4_readCommand_78 (fun H locs hI => ?_)
    refine lv_iconst (v := 0) hx hb dX4_readCommand_81 rfl ?_
    exact r_zret2 hC hI (.inl rfl) hf dX4_readCommand_82
  obtain ⟨j49, hj49, hf⟩ := gj hf
  have J49 : ∀ (V49 : Mem) (H : Heap) (locs : List Loc) (ls : Array Slot), j49 V49 = some (r, Vz) → In E ad V49 s H locs → lv_has ls 8 [(0, .ref (ad 222))] → W p l e (rmd 9) s m ([.ref (ad 222), .ref (ad 249)] : List Value).toArray below meth c H locs 0 0 (MQ below (QR E ad (some (.int r)) Vz) ([.ref (ad 222), .ref (ad 249)] : List Value).toArray s 0 0 (ours E)) (F0 m 49 ls []) := by
    intro V49 H locs ls hf hI hl
    rw [hj49] at hf
    dsimp only at hf
    refine lv_aload_n hx hb dX4_readCommand_49 rfl (lv_at hl 0 rfl) ?_
    refine lv_dup hx hb dX4_readCommand_50 rfl ?_
    refine g_222_count hC hI tw_1_166 dX4_readCommand_51 ?_
    refine lv_iconst (v := 1) hx hb dX4_readCommand_54 rfl ?_
    refine lv_iadd hx hb dX4_readCommand_55 ?_
    obtain ⟨V56, e56, hf⟩ := gl hf
    refine p_222_count hC hI  e56 tw_1_166 dX4_readCommand_56 (fun H locs hI => ?_)
    refine lv_iconst (v := 1) hx hb dX4_readCommand_59 rfl ?_
    exact r_zret2 hC hI (.inr rfl) hf dX4_readCommand_60
  have L20 : ∀ (x2_20 : Int32) (n20 : Nat) (V20 : Mem) (x3_20 : Int32) (x6_20 : Int32) (H : Heap) (locs : List Loc) (ls : Array Slot), f_X4_readCommand_L20 x2_20 j49 j76 n20 V20 x3_20 x6_20 = some (r, Vz) → In E ad V20 s H locs → lv_has ls 8 [(0, .ref (ad 222)), (1, .ref (ad 249)), (2, .int x2_20), (3, .int x3_20), (4, .ref (eA E 2 0)), (5, .int 13), (6, .int x6_20)] → W p l e (rmd 9) s m ([.ref (ad 222), .ref (ad 249)] : List Value).toArray below meth c H locs 0 0 (MQ below (QR E ad (some (.int r)) Vz) ([.ref (ad 222), .ref (ad 249)] : List Value).toArray s 0 0 (ours E)) (F0 m 20 ls []) := by
    intro x2_20 n20
    induction n20 with
    | zero => intro V20 x3_20 x6_20 H locs ls hf hI hl; cases hf
    | succ n20 ih20 =>
      intro V20 x3_20 x6_20 H locs ls hf hI hl
      rw [f_X4_readCommand_L20.eq_2] at hf
      refine lv_iload hx hb dX4_readCommand_20 (lv_at hl 6 rfl) ?_
      refine lv_iload hx hb dX4_readCommand_22 (lv_at hl 5 rfl) ?_
      refine lv_icmp_ge (tgt := 76) hx hb dX4_readCommand_24 (by decide) (fun c24 => ?_) (fun c24 => ?_)
      · have hf := gt hf c24
        exact J76 _ _ _ _ _ hf hI (lv_sub hl [0, 3] rfl)
      · have hf := gf hf c24
        refine lv_aload hx hb dX4_readCommand_27 (lv_at hl 4 rfl) ?_
        refine lv_iload hx hb dX4_readCommand_29 (lv_at hl 6 rfl) ?_
        obtain ⟨h31, hf⟩ := gi hf
        refine t_kld hS hC hI (ib_in h31) dX4_readCommand_31 ?_
        refine lv_astore (lv' := [(7, .ref (eK E x6_20.toNatClampNeg)), (0, .ref (ad 222)), (1, .ref (ad 249)), (2, .int x2_20), (3, .int x3_20), (4, .ref (eA E 2 0)), (5, .int 13), (6, .int x6_20)]) hx hb dX4_readCommand_32 hl (Nat.lt_of_lt_of_eq (by decide) rfl) rfl (fun ls hl => ?_)
        refine lv_aload_n hx hb dX4_readCommand_34 rfl (lv_at hl 1 rfl) ?_
        refine lv_iload_n hx hb dX4_readCommand_35 rfl (lv_at hl 3 rfl) ?_
        obtain ⟨V36, e36, hf⟩ := gl hf
        refine p_222_position hC hI  e36 tw_1_170 dX4_readCommand_36 (fun H locs hI => ?_)
        refine lv_aload_n hx hb dX4_readCommand_39 rfl (lv_at hl 1 rfl) ?_
        refine lv_aload hx hb dX4_readCommand_40 (lv_at hl 0 rfl) ?_
        refine lv_aload_n hx hb dX4_readCommand_42 rfl (lv_at hl 2 rfl) ?_
        obtain ⟨r43, V43, q43, hf⟩ := gbd hf
        refine k_X4_readForm hS hFr (kind_lt h31) hC hI hl.1 q43 tw_7_34 ⟨Nat.le_of_ble_eq_true rfl, Nat.le_of_ble_eq_true rfl⟩ ⟨Nat.le_refl _, Nat.le_refl _⟩ (Nat.le_of_ble_eq_true rfl) dX4_readCommand_43 (fun H locs hI => ?_)
        refine lv_if_eq (tgt := 61) hx hb dX4_readCommand_46 (by decide) (fun c46 => ?_) (fun c46 => ?_)
        · have hf := gt hf c46
          refine lv_iload_n hx hb dX4_readCommand_61 rfl (lv_at hl 4 rfl) ?_
          refine lv_aload_n hx hb dX4_readCommand_62 rfl (lv_at hl 1 rfl) ?_
          refine g_222_position hC hI tw_1_170 dX4_readCommand_63 ?_
          refine r_mmax hC hl.1 tw_7_89 ⟨by decide, Nat.le_of_ble_eq_true rfl⟩ ⟨Nat.le_refl _, Nat.le_refl _⟩ dX4_readCommand_66 ?_
          refine lv_istore_n (lv' := [(3, .int (if x3_20 < (V43 222 2) then (V43 222 2) else x3_20)), (7, .ref (eK E x6_20.toNatClampNeg)), (0, .ref (ad 222)), (1, .ref (ad 249)), (2, .int x2_20), (4, .ref (eA E 2 0)), (5, .int 13), (6, .int x6_20)]) hx hb dX4_readCommand_69 rfl hl (Nat.lt_of_lt_of_eq (by decide) rfl) rfl (fun ls hl => ?_)
          refine lv_iinc (v := (x6_20 + 1)) (lv' := [(6, .int (x6_20 + 1)), (3, .int (if x3_20 < (V43 222 2) then (V43 222 2) else x3_20)), (7, .ref (eK E x6_20.toNatClampNeg)), (0, .ref (ad 222)), (1, .ref (ad 249)), (2, .int x2_20), (4, .ref (eA E 2 0)), (5, .int 13)]) hx hb dX4_readCommand_70 hl (k := 7) rfl rfl (Nat.lt_of_lt_of_eq (by decide) rfl) rfl (fun ls hl => ?_)
          refine lv_goto (tgt := 20) hx hb dX4_readCommand_73 (by decide) ?_
          exact ih20 _ _ _ _ _ _ hf hI (lv_sub hl [3, 4, 5, 1, 6, 7, 0] rfl)
        · have hf := gf hf c46
          exact J49 _ _ _ _ hf hI (lv_sub hl [1] rfl)
  exact L20 _ _ _ _ _ _ _ _ hf hI (lv_sub hl [5, 6, 4, 3, 2, 1, 0] rfl)
theorem k_X4_readCommand {p : Program} {l : Launch} {e : Env} {R : Room} {cells slots : Nat} {s : State} {m : MethodId} {args : Array Value} {below : List Frame} {meth : Method} {c : Code} {H : Heap} {locs : List Loc} {Q : State → Prop} {E : En} {ad : Nat → Nat} {V : Mem} {ow : String} {b : ByteArray} {n : Nat} {ret : Option FieldType} {pc index : Nat} {ls : Array Slot} {rest : List Value} {r : Int32} {V1 : Mem} (hS : SF E) (hFr : Fr E) (hC : Cx p s m args c meth E ow b n ret) (hI : In E ad V s H locs) (hsz : ls.size = n) (hf : f_X4_readCommand V = some (r, V1)) (hl : Cond.methodLink ow index yX4_readCommand ∈ TB) (hR : 9 + 1 ≤ R.frames ∧ 8 + (8 + 11) + 40 * 9 ≤ R.locals) (hcs : cells ≤ R.cells ∧ slots ≤ R.slots) (hw : (rest.map fun v => v.category).sum ≤ 8) (hdg : decode b pc = .ok (.invokevirtual index, 3)) (kk : ∀ (H1 : Heap) (locs1 : List Loc), In E ad V1 s H1 locs1 → W p l e R s m args below meth c H1 locs1 cells slots Q (F0 m (pc + 3) ls ((.int r) :: rest))) : W p l e R s m args below meth c H locs cells slots Q (F0 m pc ls (.ref (ad 249) :: .ref (ad 222) :: rest)) :=
  r_calV (As := [.ref (ad 249)]) (rest := rest) hC hI hsz (m_X4_readCommand l E ad V hS hFr r _ hf) cv_X4_readCommand hl (by decide) (ce_222 _) rfl rfl rfl hR hcs hw hdg kk

theorem dX4_readSemicolon_0 : decode cX4_readSemicolon 0 = .ok (.aload_n 0, 1) := by decide +kernel
theorem dX4_readSemicolon_1 : decode cX4_readSemicolon 1 = .ok (.aload_n 1, 1) := by decide +kernel
theorem dX4_readSemicolon_2 : decode cX4_readSemicolon 2 = .ok (.invokevirtual 49, 3) := by decide +kernel
theorem dX4_readSemicolon_5 : decode cX4_readSemicolon 5 = .ok (.istore_n 2, 1) := by decide +kernel
theorem dX4_readSemicolon_6 : decode cX4_readSemicolon 6 = .ok (.iload_n 2, 1) := by decide +kernel
theorem dX4_readSemicolon_7 : decode cX4_readSemicolon 7 = .ok (.bipush 59, 2) := by decide +kernel
theorem dX4_readSemicolon_9 : decode cX4_readSemicolon 9 = .ok (.if_icmp .ne 15, 3) := by decide +kernel
theorem dX4_readSemicolon_12 : decode cX4_readSemicolon 12 = .ok (.aload_n 0, 1) := by decide +kernel
theorem dX4_readSemicolon_13 : decode cX4_readSemicolon 13 = .ok (.dup, 1) := by decide +kernel
theorem dX4_readSemicolon_14 : decode cX4_readSemicolon 14 = .ok (.getfield 25, 3) := by decide +kernel
theorem dX4_readSemicolon_17 : decode cX4_readSemicolon 17 = .ok (.iconst 1, 1) := by decide +kernel
theorem dX4_readSemicolon_18 : decode cX4_readSemicolon 18 = .ok (.iadd, 1) := by decide +kernel
theorem dX4_readSemicolon_19 : decode cX4_readSemicolon 19 = .ok (.putfield 25, 3) := by decide +kernel
theorem dX4_readSemicolon_22 : decode cX4_readSemicolon 22 = .ok (.iconst 1, 1) := by decide +kernel
theorem dX4_readSemicolon_23 : decode cX4_readSemicolon 23 = .ok (.ireturn, 1) := by decide +kernel
theorem dX4_readSemicolon_24 : decode cX4_readSemicolon 24 = .ok (.iload_n 2, 1) := by decide +kernel
theorem dX4_readSemicolon_25 : decode cX4_readSemicolon 25 = .ok (.iconst (-1), 1) := by decide +kernel
theorem dX4_readSemicolon_26 : decode cX4_readSemicolon 26 = .ok (.if_icmp .eq 11, 3) := by decide +kernel
theorem dX4_readSemicolon_29 : decode cX4_readSemicolon 29 = .ok (.aload_n 0, 1) := by decide +kernel
theorem dX4_readSemicolon_30 : decode cX4_readSemicolon 30 = .ok (.aload_n 0, 1) := by decide +kernel
theorem dX4_readSemicolon_31 : decode cX4_readSemicolon 31 = .ok (.getfield 25, 3) := by decide +kernel
theorem dX4_readSemicolon_34 : decode cX4_readSemicolon 34 = .ok (.putfield 17, 3) := by decide +kernel
theorem dX4_readSemicolon_37 : decode cX4_readSemicolon 37 = .ok (.iconst 0, 1) := by decide +kernel
theorem dX4_readSemicolon_38 : decode cX4_readSemicolon 38 = .ok (.ireturn, 1) := by decide +kernel
def f_X4_readSemicolon (V : Mem) : Option (Int32 × Mem) :=
  bd (f_X4_signAt V) fun r2 V2 =>
  if r2 = 59 then
    lt (stv V2 222 2 ((V2 222 2) + 1)) fun V19 =>
    some (1, V19)
  else
    if r2 = (-1) then
      some (0, V2)
    else
      lt (stv V2 222 1 (V2 222 2)) fun V34 =>
      some (0, V34)
theorem cv_X4_readSemicolon : CalV yX4_readSemicolon cX4_readSemicolon 3 (some .boolean) 1 := ⟨⟨⟨by decide +kernel, by decide +kernel⟩, tw_1_6, tw_7_93, by decide +kernel⟩, tw_7_92, tp_19⟩
set_option maxRecDepth 100000 in
set_option maxHeartbeats 4000000 in
theorem m_X4_readSemicolon (l : Launch) (E : En) (ad : Nat → Nat) (V : Mem) (hS : SF E) (hFr : Fr E) (r : Int32) (Vz : Mem) (hf : f_X4_readSemicolon V = some (r, Vz)) : MR l E ad yX4_readSemicolon cX4_readSemicolon 3 (some .boolean) 6 [.ref (ad 222), .ref (ad 249)] V (some (.int r)) Vz := by
  refine ent (E := E) (ad := ad) (V := V) "LetterRepository$Program" (by decide +kernel) rfl (Nat.le_of_ble_eq_true rfl) ?_
  intro p e s m below meth c ls hC hI hl
  have hx := hC.1
  have hb := hC.2.1
  have hl : lv_has ls 3 [(0, .ref (ad 222)), (1, .ref (ad 249))] := hl
  unfold f_X4_readSemicolon at hf
  refine lv_aload_n hx hb dX4_readSemicolon_0 rfl (lv_at hl 0 rfl) ?_
  refine lv_aload_n hx hb dX4_readSemicolon_1 rfl (lv_at hl 1 rfl) ?_
  obtain ⟨r2, V2, q2, hf⟩ := gbd hf
  refine k_X4_signAt hS hFr hC hI hl.1 q2 tw_7_66 ⟨Nat.le_of_ble_eq_true rfl, Nat.le_of_ble_eq_true rfl⟩ ⟨Nat.le_refl _, Nat.le_refl _⟩ (Nat.le_of_ble_eq_true rfl) dX4_readSemicolon_2 (fun H locs hI => ?_)
  refine lv_istore_n (lv' := [(2, .int r2), (0, .ref (ad 222)), (1, .ref (ad 249))]) hx hb dX4_readSemicolon_5 rfl hl (Nat.lt_of_lt_of_eq (by decide) rfl) rfl (fun ls hl => ?_)
  refine lv_iload_n hx hb dX4_readSemicolon_6 rfl (lv_at hl 0 rfl) ?_
  refine lv_bipush (v := 59) hx hb dX4_readSemicolon_7 rfl ?_
  refine lv_icmp_ne (tgt := 24) hx hb dX4_readSemicolon_9 (by decide) (fun c9 => ?_) (fun c9 => ?_)
  · have hf := gf hf c9
    refine lv_iload_n hx hb dX4_readSemicolon_24 rfl (lv_at hl 0 rfl) ?_
    refine lv_iconst (v := (-1)) hx hb dX4_readSemicolon_25 rfl ?_
    refine lv_icmp_eq (tgt := 37) hx hb dX4_readSemicolon_26 (by decide) (fun c26 => ?_) (fun c26 => ?_)
    · have hf := gt hf c26
      refine lv_iconst (v := 0) hx hb dX4_readSemicolon_37 rfl ?_
      exact r_zret2 hC hI (.inl rfl) hf dX4_readSemicolon_38
    · have hf := gf hf c26
      refine lv_aload_n hx hb dX4_readSemicolon_29 rfl (lv_at hl 1 rfl) ?_
      refine lv_aload_n hx hb dX4_readSemicolon_30 rfl (lv_at hl 1 rfl) ?_
      refine g_222_position hC hI tw_1_170 dX4_readSemicolon_31 ?_
      obtain ⟨V34, e34, hf⟩ := gl hf
      refine p_222_error hC hI  e34 tw_1_168 dX4_readSemicolon_34 (fun H locs hI => ?_)
      refine lv_iconst (v := 0) hx hb dX4_readSemicolon_37 rfl ?_
      exact r_zret2 hC hI (.inl rfl) hf dX4_readSemicolon_38
  · have hf := gt hf c9
    refine lv_aload_n hx hb dX4_readSemicolon_12 rfl (lv_at hl 1 rfl) ?_
    refine lv_dup hx hb dX4_readSemicolon_13 rfl ?_
    refine g_222_position hC hI tw_1_170 dX4_readSemicolon_14 ?_
    refine lv_iconst (v := 1) hx hb dX4_readSemicolon_17 rfl ?_
    refine lv_iadd hx hb dX4_readSemicolon_18 ?_
    obtain ⟨V19, e19, hf⟩ := gl hf
    refine p_222_position hC hI  e19 tw_1_170 dX4_readSemicolon_19 (fun H locs hI => ?_)
    refine lv_iconst (v := 1) hx hb dX4_readSemicolon_22 rfl ?_
    exact r_zret2 hC hI (.inr rfl) hf dX4_readSemicolon_23
theorem k_X4_readSemicolon {p : Program} {l : Launch} {e : Env} {R : Room} {cells slots : Nat} {s : State} {m : MethodId} {args : Array Value} {below : List Frame} {meth : Method} {c : Code} {H : Heap} {locs : List Loc} {Q : State → Prop} {E : En} {ad : Nat → Nat} {V : Mem} {ow : String} {b : ByteArray} {n : Nat} {ret : Option FieldType} {pc index : Nat} {ls : Array Slot} {rest : List Value} {r : Int32} {V1 : Mem} (hS : SF E) (hFr : Fr E) (hC : Cx p s m args c meth E ow b n ret) (hI : In E ad V s H locs) (hsz : ls.size = n) (hf : f_X4_readSemicolon V = some (r, V1)) (hl : Cond.methodLink ow index yX4_readSemicolon ∈ TB) (hR : 6 + 1 ≤ R.frames ∧ 8 + (3 + 11) + 40 * 6 ≤ R.locals) (hcs : cells ≤ R.cells ∧ slots ≤ R.slots) (hw : (rest.map fun v => v.category).sum ≤ 8) (hdg : decode b pc = .ok (.invokevirtual index, 3)) (kk : ∀ (H1 : Heap) (locs1 : List Loc), In E ad V1 s H1 locs1 → W p l e R s m args below meth c H1 locs1 cells slots Q (F0 m (pc + 3) ls ((.int r) :: rest))) : W p l e R s m args below meth c H locs cells slots Q (F0 m pc ls (.ref (ad 249) :: .ref (ad 222) :: rest)) :=
  r_calV (As := [.ref (ad 249)]) (rest := rest) hC hI hsz (m_X4_readSemicolon l E ad V hS hFr r _ hf) cv_X4_readSemicolon hl (by decide) (ce_222 _) rfl rfl rfl hR hcs hw hdg kk

theorem dX4_parse_0 : decode cX4_parse 0 = .ok (.aload_n 0, 1) := by decide +kernel
theorem dX4_parse_1 : decode cX4_parse 1 = .ok (.iconst 0, 1) := by decide +kernel
theorem dX4_parse_2 : decode cX4_parse 2 = .ok (.putfield 22, 3) := by decide +kernel
theorem dX4_parse_5 : decode cX4_parse 5 = .ok (.aload_n 0, 1) := by decide +kernel
theorem dX4_parse_6 : decode cX4_parse 6 = .ok (.iconst (-1), 1) := by decide +kernel
theorem dX4_parse_7 : decode cX4_parse 7 = .ok (.putfield 17, 3) := by decide +kernel
theorem dX4_parse_10 : decode cX4_parse 10 = .ok (.aload_n 0, 1) := by decide +kernel
theorem dX4_parse_11 : decode cX4_parse 11 = .ok (.iconst 0, 1) := by decide +kernel
theorem dX4_parse_12 : decode cX4_parse 12 = .ok (.putfield 25, 3) := by decide +kernel
theorem dX4_parse_15 : decode cX4_parse 15 = .ok (.iconst 1, 1) := by decide +kernel
theorem dX4_parse_16 : decode cX4_parse 16 = .ok (.istore_n 2, 1) := by decide +kernel
theorem dX4_parse_17 : decode cX4_parse 17 = .ok (.iconst 0, 1) := by decide +kernel
theorem dX4_parse_18 : decode cX4_parse 18 = .ok (.istore_n 3, 1) := by decide +kernel
theorem dX4_parse_19 : decode cX4_parse 19 = .ok (.iload_n 2, 1) := by decide +kernel
theorem dX4_parse_20 : decode cX4_parse 20 = .ok (.ifCond .eq 37, 3) := by decide +kernel
theorem dX4_parse_23 : decode cX4_parse 23 = .ok (.iload_n 3, 1) := by decide +kernel
theorem dX4_parse_24 : decode cX4_parse 24 = .ok (.bipush 8, 2) := by decide +kernel
theorem dX4_parse_26 : decode cX4_parse 26 = .ok (.if_icmp .ge 31, 3) := by decide +kernel
theorem dX4_parse_29 : decode cX4_parse 29 = .ok (.aload_n 0, 1) := by decide +kernel
theorem dX4_parse_30 : decode cX4_parse 30 = .ok (.aload_n 1, 1) := by decide +kernel
theorem dX4_parse_31 : decode cX4_parse 31 = .ok (.invokevirtual 28, 3) := by decide +kernel
theorem dX4_parse_34 : decode cX4_parse 34 = .ok (.ifCond .eq 15, 3) := by decide +kernel
theorem dX4_parse_37 : decode cX4_parse 37 = .ok (.aload_n 0, 1) := by decide +kernel
theorem dX4_parse_38 : decode cX4_parse 38 = .ok (.aload_n 1, 1) := by decide +kernel
theorem dX4_parse_39 : decode cX4_parse 39 = .ok (.invokevirtual 32, 3) := by decide +kernel
theorem dX4_parse_42 : decode cX4_parse 42 = .ok (.ifCond .eq 7, 3) := by decide +kernel
theorem dX4_parse_45 : decode cX4_parse 45 = .ok (.iconst 1, 1) := by decide +kernel
theorem dX4_parse_46 : decode cX4_parse 46 = .ok (.goto 4, 3) := by decide +kernel
theorem dX4_parse_49 : decode cX4_parse 49 = .ok (.iconst 0, 1) := by decide +kernel
theorem dX4_parse_50 : decode cX4_parse 50 = .ok (.istore_n 2, 1) := by decide +kernel
theorem dX4_parse_51 : decode cX4_parse 51 = .ok (.iinc 3 1, 3) := by decide +kernel
theorem dX4_parse_54 : decode cX4_parse 54 = .ok (.goto (-35), 3) := by decide +kernel
theorem dX4_parse_57 : decode cX4_parse 57 = .ok (.return_, 1) := by decide +kernel
def f_X4_parse_L19 : Nat → Mem → Int32 → Int32 → Option Mem
  | 0, _, _, _ => none
  | n19 + 1, V19, x2_19, x3_19 =>
    if x2_19 = 0 then
      some V19
    else
      if 8 ≤ x3_19 then
        some V19
      else
        bd (f_X4_readCommand V19) fun r31 V31 =>
        jn (α := Mem → Int32 → Option Mem) (fun j50 =>
          jn (α := Mem → Option Mem) (fun j49 =>
            if r31 = 0 then
              j49 V31
            else
              bd (f_X4_readSemicolon V31) fun r39 V39 =>
              if r39 = 0 then
                j49 V39
              else
                j50 V39 1
          ) (fun (V49 : Mem) =>
            j50 V49 0
          )
        ) (fun (V50 : Mem) (s0_50 : Int32) =>
          (f_X4_parse_L19 n19) V50 s0_50 (x3_19 + 1)
        )
def f_X4_parse (V : Mem) : Option Mem :=
  lt (stv V 222 0 0) fun V2 =>
  lt (stv V2 222 1 (-1)) fun V7 =>
  lt (stv V7 222 2 0) fun V12 =>
  f_X4_parse_L19 FU V12 1 0
theorem cv_X4_parse : CalV yX4_parse cX4_parse 4 none 1 := ⟨⟨⟨by decide +kernel, by decide +kernel⟩, tw_1_6, tw_7_27, by decide +kernel⟩, tw_7_25, tw_7_26⟩
set_option maxRecDepth 100000 in
set_option maxHeartbeats 4000000 in
theorem m_X4_parse (l : Launch) (E : En) (ad : Nat → Nat) (V : Mem) (hS : SF E) (hFr : Fr E) (Vz : Mem) (hf : f_X4_parse V = some Vz) : MR l E ad yX4_parse cX4_parse 4 none 10 [.ref (ad 222), .ref (ad 249)] V none Vz := by
  refine ent (E := E) (ad := ad) (V := V) "LetterRepository$Program" (by decide +kernel) rfl (Nat.le_of_ble_eq_true rfl) ?_
  intro p e s m below meth c ls hC hI hl
  have hx := hC.1
  have hb := hC.2.1
  have hl : lv_has ls 4 [(0, .ref (ad 222)), (1, .ref (ad 249))] := hl
  unfold f_X4_parse at hf
  refine lv_aload_n hx hb dX4_parse_0 rfl (lv_at hl 0 rfl) ?_
  refine lv_iconst (v := 0) hx hb dX4_parse_1 rfl ?_
  obtain ⟨V2, e2, hf⟩ := gl hf
  refine p_222_count hC hI  e2 tw_1_166 dX4_parse_2 (fun H locs hI => ?_)
  refine lv_aload_n hx hb dX4_parse_5 rfl (lv_at hl 0 rfl) ?_
  refine lv_iconst (v := (-1)) hx hb dX4_parse_6 rfl ?_
  obtain ⟨V7, e7, hf⟩ := gl hf
  refine p_222_error hC hI  e7 tw_1_168 dX4_parse_7 (fun H locs hI => ?_)
  refine lv_aload_n hx hb dX4_parse_10 rfl (lv_at hl 0 rfl) ?_
  refine lv_iconst (v := 0) hx hb dX4_parse_11 rfl ?_
  obtain ⟨V12, e12, hf⟩ := gl hf
  refine p_222_position hC hI  e12 tw_1_170 dX4_parse_12 (fun H locs hI => ?_)
  refine lv_iconst (v := 1) hx hb dX4_parse_15 rfl ?_
  refine lv_istore_n (lv' := [(2, .int 1), (0, .ref (ad 222)), (1, .ref (ad 249))]) hx hb dX4_parse_16 rfl hl (Nat.lt_of_lt_of_eq (by decide) rfl) rfl (fun ls hl => ?_)
  refine lv_iconst (v := 0) hx hb dX4_parse_17 rfl ?_
  refine lv_istore_n (lv' := [(3, .int 0), (2, .int 1), (0, .ref (ad 222)), (1, .ref (ad 249))]) hx hb dX4_parse_18 rfl hl (Nat.lt_of_lt_of_eq (by decide) rfl) rfl (fun ls hl => ?_)
  have L19 : ∀ (n19 : Nat) (V19 : Mem) (x2_19 : Int32) (x3_19 : Int32) (H : Heap) (locs : List Loc) (ls : Array Slot), f_X4_parse_L19 n19 V19 x2_19 x3_19 = some Vz → In E ad V19 s H locs → lv_has ls 4 [(0, .ref (ad 222)), (1, .ref (ad 249)), (2, .int x2_19), (3, .int x3_19)] → W p l e (rmd 10) s m ([.ref (ad 222), .ref (ad 249)] : List Value).toArray below meth c H locs 0 0 (MQ below (QR E ad none Vz) ([.ref (ad 222), .ref (ad 249)] : List Value).toArray s 0 0 (ours E)) (F0 m 19 ls []) := by
    intro n19
    induction n19 with
    | zero => intro V19 x2_19 x3_19 H locs ls hf hI hl; cases hf
    | succ n19 ih19 =>
      intro V19 x2_19 x3_19 H locs ls hf hI hl
      rw [f_X4_parse_L19.eq_2] at hf
      refine lv_iload_n hx hb dX4_parse_19 rfl (lv_at hl 2 rfl) ?_
      refine lv_if_eq (tgt := 57) hx hb dX4_parse_20 (by decide) (fun c20 => ?_) (fun c20 => ?_)
      · have hf := gt hf c20
        exact r_vret2 hC hI hf dX4_parse_57
      · have hf := gf hf c20
        refine lv_iload_n hx hb dX4_parse_23 rfl (lv_at hl 3 rfl) ?_
        refine lv_bipush (v := 8) hx hb dX4_parse_24 rfl ?_
        refine lv_icmp_ge (tgt := 57) hx hb dX4_parse_26 (by decide) (fun c26 => ?_) (fun c26 => ?_)
        · have hf := gt hf c26
          exact r_vret2 hC hI hf dX4_parse_57
        · have hf := gf hf c26
          refine lv_aload_n hx hb dX4_parse_29 rfl (lv_at hl 0 rfl) ?_
          refine lv_aload_n hx hb dX4_parse_30 rfl (lv_at hl 1 rfl) ?_
          obtain ⟨r31, V31, q31, hf⟩ := gbd hf
          refine k_X4_readCommand hS hFr hC hI hl.1 q31 tw_7_28 ⟨Nat.le_of_ble_eq_true rfl, Nat.le_of_ble_eq_true rfl⟩ ⟨Nat.le_refl _, Nat.le_refl _⟩ (Nat.le_of_ble_eq_true rfl) dX4_parse_31 (fun H locs hI => ?_)
          obtain ⟨j50, hj50, hf⟩ := gj hf
          have J50 : ∀ (V50 : Mem) (s0_50 : Int32) (H : Heap) (locs : List Loc) (ls : Array Slot), j50 V50 s0_50 = some Vz → In E ad V50 s H locs → lv_has ls 4 [(0, .ref (ad 222)), (1, .ref (ad 249)), (3, .int x3_19)] → W p l e (rmd 10) s m ([.ref (ad 222), .ref (ad 249)] : List Value).toArray below meth c H locs 0 0 (MQ below (QR E ad none Vz) ([.ref (ad 222), .ref (ad 249)] : List Value).toArray s 0 0 (ours E)) (F0 m 50 ls [.int s0_50]) := by
            intro V50 s0_50 H locs ls hf hI hl
            rw [hj50] at hf
            dsimp only at hf
            refine lv_istore_n (lv' := [(2, .int s0_50), (0, .ref (ad 222)), (1, .ref (ad 249)), (3, .int x3_19)]) hx hb dX4_parse_50 rfl hl (Nat.lt_of_lt_of_eq (by decide) rfl) rfl (fun ls hl => ?_)
            refine lv_iinc (v := (x3_19 + 1)) (lv' := [(3, .int (x3_19 + 1)), (2, .int s0_50), (0, .ref (ad 222)), (1, .ref (ad 249))]) hx hb dX4_parse_51 hl (k := 3) rfl rfl (Nat.lt_of_lt_of_eq (by decide) rfl) rfl (fun ls hl => ?_)
            refine lv_goto (tgt := 19) hx hb dX4_parse_54 (by decide) ?_
            exact ih19 _ _ _ _ _ _ hf hI (lv_sub hl [2, 3, 1, 0] rfl)
          obtain ⟨j49, hj49, hf⟩ := gj hf
          have J49 : ∀ (V49 : Mem) (H : Heap) (locs : List Loc) (ls : Array Slot), j49 V49 = some Vz → In E ad V49 s H locs → lv_has ls 4 [(0, .ref (ad 222)), (1, .ref (ad 249)), (3, .int x3_19)] → W p l e (rmd 10) s m ([.ref (ad 222), .ref (ad 249)] : List Value).toArray below meth c H locs 0 0 (MQ below (QR E ad none Vz) ([.ref (ad 222), .ref (ad 249)] : List Value).toArray s 0 0 (ours E)) (F0 m 49 ls []) := by
            intro V49 H locs ls hf hI hl
            rw [hj49] at hf
            dsimp only at hf
            refine lv_iconst (v := 0) hx hb dX4_parse_49 rfl ?_
            exact J50 _ _ _ _ _ hf hI (lv_sub hl [0, 1, 2] rfl)
          refine lv_if_eq (tgt := 49) hx hb dX4_parse_34 (by decide) (fun c34 => ?_) (fun c34 => ?_)
          · have hf := gt hf c34
            exact J49 _ _ _ _ hf hI (lv_sub hl [0, 1, 3] rfl)
          · have hf := gf hf c34
            refine lv_aload_n hx hb dX4_parse_37 rfl (lv_at hl 0 rfl) ?_
            refine lv_aload_n hx hb dX4_parse_38 rfl (lv_at hl 1 rfl) ?_
            obtain ⟨r39, V39, q39, hf⟩ := gbd hf
            refine k_X4_readSemicolon hS hFr hC hI hl.1 q39 tw_7_90 ⟨Nat.le_of_ble_eq_true rfl, Nat.le_of_ble_eq_true rfl⟩ ⟨Nat.le_refl _, Nat.le_refl _⟩ (Nat.le_of_ble_eq_true rfl) dX4_parse_39 (fun H locs hI => ?_)
            refine lv_if_eq (tgt := 49) hx hb dX4_parse_42 (by decide) (fun c42 => ?_) (fun c42 => ?_)
            · have hf := gt hf c42
              exact J49 _ _ _ _ hf hI (lv_sub hl [0, 1, 3] rfl)
            · have hf := gf hf c42
              refine lv_iconst (v := 1) hx hb dX4_parse_45 rfl ?_
              refine lv_goto (tgt := 50) hx hb dX4_parse_46 (by decide) ?_
              exact J50 _ _ _ _ _ hf hI (lv_sub hl [0, 1, 3] rfl)
  exact L19 _ _ _ _ _ _ _ hf hI (lv_sub hl [2, 3, 1, 0] rfl)
theorem k_X4_parse {p : Program} {l : Launch} {e : Env} {R : Room} {cells slots : Nat} {s : State} {m : MethodId} {args : Array Value} {below : List Frame} {meth : Method} {c : Code} {H : Heap} {locs : List Loc} {Q : State → Prop} {E : En} {ad : Nat → Nat} {V : Mem} {ow : String} {b : ByteArray} {n : Nat} {ret : Option FieldType} {pc index : Nat} {ls : Array Slot} {rest : List Value} {V1 : Mem} (hS : SF E) (hFr : Fr E) (hC : Cx p s m args c meth E ow b n ret) (hI : In E ad V s H locs) (hsz : ls.size = n) (hf : f_X4_parse V = some V1) (hl : Cond.methodLink ow index yX4_parse ∈ TB) (hR : 10 + 1 ≤ R.frames ∧ 8 + (4 + 11) + 40 * 10 ≤ R.locals) (hcs : cells ≤ R.cells ∧ slots ≤ R.slots) (hw : (rest.map fun v => v.category).sum ≤ 8) (hdg : decode b pc = .ok (.invokevirtual index, 3)) (kk : ∀ (H1 : Heap) (locs1 : List Loc), In E ad V1 s H1 locs1 → W p l e R s m args below meth c H1 locs1 cells slots Q (F0 m (pc + 3) ls (rest))) : W p l e R s m args below meth c H locs cells slots Q (F0 m pc ls (.ref (ad 249) :: .ref (ad 222) :: rest)) :=
  r_calVv (As := [.ref (ad 249)]) (rest := rest) hC hI hsz (m_X4_parse l E ad V hS hFr _ hf) cv_X4_parse hl (by decide) (ce_222 _) rfl rfl rfl hR hcs hw hdg kk
