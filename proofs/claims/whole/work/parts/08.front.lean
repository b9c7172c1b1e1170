theorem dX9_refuse_0 : decode cX9_refuse 0 = .ok (.aload_n 0, 1) := by decide +kernel
theorem dX9_refuse_1 : decode cX9_refuse 1 = .ok (.getstatic 387, 3) := by decide +kernel
theorem dX9_refuse_4 : decode cX9_refuse 4 = .ok (.if_acmp .ne 14, 3) := by decide +kernel
theorem dX9_refuse_7 : decode cX9_refuse 7 = .ok (.new 319, 3) := by decide +kernel
theorem dX9_refuse_10 : decode cX9_refuse 10 = .ok (.dup, 1) := by decide +kernel
theorem dX9_refuse_11 : decode cX9_refuse 11 = .ok (.ldc_w 390, 3) := by decide +kernel
theorem dX9_refuse_14 : decode cX9_refuse 14 = .ok (.invokespecial 323, 3) := by decide +kernel
theorem dX9_refuse_17 : decode cX9_refuse 17 = .ok (.athrow, 1) := by decide +kernel
theorem dX9_refuse_18 : decode cX9_refuse 18 = .ok (.aload_n 0, 1) := by decide +kernel
theorem dX9_refuse_19 : decode cX9_refuse 19 = .ok (.getstatic 392, 3) := by decide +kernel
theorem dX9_refuse_22 : decode cX9_refuse 22 = .ok (.if_acmp .ne 14, 3) := by decide +kernel
theorem dX9_refuse_25 : decode cX9_refuse 25 = .ok (.new 203, 3) := by decide +kernel
theorem dX9_refuse_28 : decode cX9_refuse 28 = .ok (.dup, 1) := by decide +kernel
theorem dX9_refuse_29 : decode cX9_refuse 29 = .ok (.ldc_w 395, 3) := by decide +kernel
theorem dX9_refuse_32 : decode cX9_refuse 32 = .ok (.invokespecial 207, 3) := by decide +kernel
theorem dX9_refuse_35 : decode cX9_refuse 35 = .ok (.athrow, 1) := by decide +kernel
theorem dX9_refuse_36 : decode cX9_refuse 36 = .ok (.aload_n 0, 1) := by decide +kernel
theorem dX9_refuse_37 : decode cX9_refuse 37 = .ok (.getstatic 397, 3) := by decide +kernel
theorem dX9_refuse_40 : decode cX9_refuse 40 = .ok (.if_acmp .ne 14, 3) := by decide +kernel
theorem dX9_refuse_43 : decode cX9_refuse 43 = .ok (.new 253, 3) := by decide +kernel
theorem dX9_refuse_46 : decode cX9_refuse 46 = .ok (.dup, 1) := by decide +kernel
theorem dX9_refuse_47 : decode cX9_refuse 47 = .ok (.ldc_w 400, 3) := by decide +kernel
theorem dX9_refuse_50 : decode cX9_refuse 50 = .ok (.invokespecial 257, 3) := by decide +kernel
theorem dX9_refuse_53 : decode cX9_refuse 53 = .ok (.athrow, 1) := by decide +kernel
theorem dX9_refuse_54 : decode cX9_refuse 54 = .ok (.aload_n 0, 1) := by decide +kernel
theorem dX9_refuse_55 : decode cX9_refuse 55 = .ok (.getstatic 402, 3) := by decide +kernel
theorem dX9_refuse_58 : decode cX9_refuse 58 = .ok (.if_acmp .ne 14, 3) := by decide +kernel
theorem dX9_refuse_61 : decode cX9_refuse 61 = .ok (.new 330, 3) := by decide +kernel
theorem dX9_refuse_64 : decode cX9_refuse 64 = .ok (.dup, 1) := by decide +kernel
theorem dX9_refuse_65 : decode cX9_refuse 65 = .ok (.ldc_w 405, 3) := by decide +kernel
theorem dX9_refuse_68 : decode cX9_refuse 68 = .ok (.invokespecial 334, 3) := by decide +kernel
theorem dX9_refuse_71 : decode cX9_refuse 71 = .ok (.athrow, 1) := by decide +kernel
theorem dX9_refuse_72 : decode cX9_refuse 72 = .ok (.return_, 1) := by decide +kernel
def f_X9_refuse (V : Mem) (z : Nat) : Option (Nat × Mem) :=
  if z < 5 then
    if z = 1 then
      some (1, V)
    else
      if z < 5 then
        if z = 2 then
          some (2, V)
        else
          if z < 5 then
            if z = 3 then
              some (3, V)
            else
              if z < 5 then
                if z = 4 then
                  some (4, V)
                else
                  some (0, V)
              else none
          else none
      else none
  else none
theorem cv_X9_refuse : CalS yX9_refuse cX9_refuse 1 none 1 := ⟨⟨⟨by decide +kernel, by decide +kernel⟩, tw_1_1, tw_3_1, by decide +kernel⟩, tw_3_0⟩
set_option maxRecDepth 100000 in
set_option maxHeartbeats 4000000 in
theorem m_X9_refuse (l : Launch) (hT : l.stackTraces = false) (E : En) (ad : Nat → Nat) (V : Mem) (z : Nat) (hS : SF E) (k : Nat) (Vz : Mem) (hf : f_X9_refuse V z = some (k, Vz)) : MX l E ad yX9_refuse cX9_refuse 1 none 6 1 6 [.ref (eR E z)] V k none Vz := by
  refine entX (E := E) (ad := ad) (V := V) "LetterRepository" hT (by decide +kernel) rfl (Nat.le_of_ble_eq_true rfl) ?_
  intro p e s m below meth c ls hC hY hI hl
  have hx := hC.1
  have hb := hC.2.1
  have hl : lv_has ls 1 [(0, .ref (eR E z))] := hl
  unfold f_X9_refuse at hf
  refine lv_aload_n hx hb dX9_refuse_0 rfl (lv_at hl 0 rfl) ?_
  refine r_gsR 1 hS hC hI (by decide) tw_3_2 dX9_refuse_1 ?_
  obtain ⟨b4, hf⟩ := gi hf
  refine r_acR_ne (tgt := 18) hS hC b4 (by decide) dX9_refuse_4 (by decide) (fun c4 => ?_) (fun c4 => ?_)
  · have hf := gf hf c4
    refine lv_aload_n hx hb dX9_refuse_18 rfl (lv_at hl 0 rfl) ?_
    refine r_gsR 2 hS hC hI (by decide) tw_3_73 dX9_refuse_19 ?_
    obtain ⟨b22, hf⟩ := gi hf
    refine r_acR_ne (tgt := 36) hS hC b22 (by decide) dX9_refuse_22 (by decide) (fun c22 => ?_) (fun c22 => ?_)
    · have hf := gf hf c22
      refine lv_aload_n hx hb dX9_refuse_36 rfl (lv_at hl 0 rfl) ?_
      refine r_gsR 3 hS hC hI (by decide) tw_3_90 dX9_refuse_37 ?_
      obtain ⟨b40, hf⟩ := gi hf
      refine r_acR_ne (tgt := 54) hS hC b40 (by decide) dX9_refuse_40 (by decide) (fun c40 => ?_) (fun c40 => ?_)
      · have hf := gf hf c40
        refine lv_aload_n hx hb dX9_refuse_54 rfl (lv_at hl 0 rfl) ?_
        refine r_gsR 4 hS hC hI (by decide) tw_3_108 dX9_refuse_55 ?_
        obtain ⟨b58, hf⟩ := gi hf
        refine r_acR_ne (tgt := 72) hS hC b58 (by decide) dX9_refuse_58 (by decide) (fun c58 => ?_) (fun c58 => ?_)
        · have hf := gf hf c58
          exact x_vret hC hI hf ⟨Nat.le_of_ble_eq_true rfl, Nat.le_of_ble_eq_true rfl⟩ dX9_refuse_72
        · have hf := gt hf c58
          exact x_thr4w hS hC hY hI hl.1 (List.Mem.tail _ (List.Mem.tail _ (List.Mem.tail _ (List.Mem.tail _ (List.Mem.tail _ (List.Mem.tail _ (List.Mem.tail _ (List.Mem.tail _ (List.Mem.tail _ (List.Mem.tail _ (List.Mem.tail _ (List.Mem.tail _ (List.Mem.head _))))))))))))) (hx2 hf) ⟨Nat.le_of_ble_eq_true rfl, Nat.le_of_ble_eq_true rfl, Nat.le_of_ble_eq_true rfl, Nat.le_of_ble_eq_true rfl⟩ ⟨Nat.le_of_ble_eq_true rfl, Nat.le_of_ble_eq_true rfl⟩ dX9_refuse_61 dX9_refuse_64 dX9_refuse_65 dX9_refuse_68 dX9_refuse_71
      · have hf := gt hf c40
        exact x_thr3w hS hC hY hI hl.1 (List.Mem.tail _ (List.Mem.tail _ (List.Mem.tail _ (List.Mem.tail _ (List.Mem.tail _ (List.Mem.tail _ (List.Mem.tail _ (List.Mem.tail _ (List.Mem.tail _ (List.Mem.tail _ (List.Mem.tail _ (List.Mem.head _)))))))))))) (hx2 hf) ⟨Nat.le_of_ble_eq_true rfl, Nat.le_of_ble_eq_true rfl, Nat.le_of_ble_eq_true rfl, Nat.le_of_ble_eq_true rfl⟩ ⟨Nat.le_of_ble_eq_true rfl, Nat.le_of_ble_eq_true rfl⟩ dX9_refuse_43 dX9_refuse_46 dX9_refuse_47 dX9_refuse_50 dX9_refuse_53
    · have hf := gt hf c22
      exact x_thr2w hS hC hY hI hl.1 (List.Mem.tail _ (List.Mem.tail _ (List.Mem.tail _ (List.Mem.tail _ (List.Mem.tail _ (List.Mem.tail _ (List.Mem.tail _ (List.Mem.tail _ (List.Mem.tail _ (List.Mem.tail _ (List.Mem.head _))))))))))) (hx2 hf) ⟨Nat.le_of_ble_eq_true rfl, Nat.le_of_ble_eq_true rfl, Nat.le_of_ble_eq_true rfl, Nat.le_of_ble_eq_true rfl⟩ ⟨Nat.le_of_ble_eq_true rfl, Nat.le_of_ble_eq_true rfl⟩ dX9_refuse_25 dX9_refuse_28 dX9_refuse_29 dX9_refuse_32 dX9_refuse_35
  · have hf := gt hf c4
    exact x_thr1w hS hC hY hI hl.1 (List.Mem.tail _ (List.Mem.tail _ (List.Mem.tail _ (List.Mem.tail _ (List.Mem.tail _ (List.Mem.tail _ (List.Mem.tail _ (List.Mem.tail _ (List.Mem.tail _ (List.Mem.head _)))))))))) (hx2 hf) ⟨Nat.le_of_ble_eq_true rfl, Nat.le_of_ble_eq_true rfl, Nat.le_of_ble_eq_true rfl, Nat.le_of_ble_eq_true rfl⟩ ⟨Nat.le_of_ble_eq_true rfl, Nat.le_of_ble_eq_true rfl⟩ dX9_refuse_7 dX9_refuse_10 dX9_refuse_11 dX9_refuse_14 dX9_refuse_17
theorem kx_X9_refuse {p : Program} {l : Launch} {e : Env} {R : Room} {cells slots mc ms : Nat} {s : State} {m : MethodId} {args : Array Value} {below : List Frame} {meth : Method} {c : Code} {H : Heap} {locs : List Loc} {Qc : Array Value → State → Outcome → State → Prop} {E : En} {ad : Nat → Nat} {V : Mem} {ow : String} {b : ByteArray} {n : Nat} {ret : Option FieldType} {pc index : Nat} {ls : Array Slot} {rest : List Value} {z : Nat} {k1 k : Nat} {V1 Vz : Mem} (hS : SF E) (hC : Cx p s m args c meth E ow b n ret) (hY : Cy l c) (hI : In E ad V s H locs) (hsz : ls.size = n) (hf : f_X9_refuse V z = some (k1, V1)) (hl : Cond.methodLink ow index yX9_refuse ∈ TB) (hR : 6 + 1 ≤ R.frames ∧ 8 + (1 + 11) + 40 * 6 ≤ R.locals) (hcs : cells + 1 ≤ R.cells ∧ slots + 6 ≤ R.slots) (hc : cells + 1 ≤ mc ∧ slots + 6 ≤ ms) (hw : (rest.map fun v => v.category).sum ≤ 8) (hdg : decode b pc = .ok (.invokestatic index, 3)) (hx : k1 ≠ 0 → k1 = k ∧ V1 = Vz) (kk : k1 = 0 → ∀ (H1 : Heap) (locs1 : List Loc), In E ad V1 s H1 locs1 → W p l e R s m args below meth c H1 locs1 (cells + 1) (slots + 6) (vx_MQ below Qc (QX E ad k Vz) args s mc ms (ours E)) (F0 m (pc + 3) ls (rest))) : W p l e R s m args below meth c H locs cells slots (vx_MQ below Qc (QX E ad k Vz) args s mc ms (ours E)) (F0 m pc ls (.ref (eR E z) :: rest)) :=
  after_callX hC hY hI (xrunS_tb (As := [.ref (eR E z)]) (rest := rest) hC hI hsz (m_X9_refuse l hY.2 E ad V z hS k1 V1 hf) cv_X9_refuse hl rfl rfl hR hcs hw hdg) hc hx kk

theorem dX9_remember_0 : decode cX9_remember 0 = .ok (.aload_n 0, 1) := by decide +kernel
theorem dX9_remember_1 : decode cX9_remember 1 = .ok (.getfield 22, 3) := by decide +kernel
theorem dX9_remember_4 : decode cX9_remember 4 = .ok (.aload_n 0, 1) := by decide +kernel
theorem dX9_remember_5 : decode cX9_remember 5 = .ok (.getfield 10, 3) := by decide +kernel
theorem dX9_remember_8 : decode cX9_remember 8 = .ok (.invokevirtual 344, 3) := by decide +kernel
theorem dX9_remember_11 : decode cX9_remember 11 = .ok (.aload_n 0, 1) := by decide +kernel
theorem dX9_remember_12 : decode cX9_remember 12 = .ok (.getfield 22, 3) := by decide +kernel
theorem dX9_remember_15 : decode cX9_remember 15 = .ok (.invokevirtual 366, 3) := by decide +kernel
theorem dX9_remember_18 : decode cX9_remember 18 = .ok (.return_, 1) := by decide +kernel
def f_X9_remember (V : Mem) : Option Mem :=
  bv (f_X2_note V) fun V8 =>
  bv (f_X2_keepNoted V8) fun V15 =>
  some V15
theorem cv_X9_remember : CalV yX9_remember cX9_remember 1 none 0 := ⟨⟨⟨by decide +kernel, by decide +kernel⟩, tw_1_1, tw_2_8, by decide +kernel⟩, tw_2_7, tp_0⟩
set_option maxRecDepth 100000 in
set_option maxHeartbeats 4000000 in
theorem m_X9_remember (l : Launch) (E : En) (ad : Nat → Nat) (V : Mem) (Vz : Mem) (hf : f_X9_remember V = some Vz) : MR l E ad yX9_remember cX9_remember 1 none 5 [.ref (ad 248)] V none Vz := by
  refine ent (E := E) (ad := ad) (V := V) "LetterRepository" (by decide +kernel) rfl (Nat.le_of_ble_eq_true rfl) ?_
  intro p e s m below meth c ls hC hI hl
  have hx := hC.1
  have hb := hC.2.1
  have hl : lv_has ls 1 [(0, .ref (ad 248))] := hl
  unfold f_X9_remember at hf
  refine lv_aload_n hx hb dX9_remember_0 rfl (lv_at hl 0 rfl) ?_
  refine g_248_history hC hI tw_1_215 dX9_remember_1 ?_
  refine lv_aload_n hx hb dX9_remember_4 rfl (lv_at hl 0 rfl) ?_
  refine g_248_store hC hI tw_1_213 dX9_remember_5 ?_
  obtain ⟨V8, q8, hf⟩ := gbv hf
  refine k_X2_note hC hI hl.1 q8 tw_2_9 ⟨Nat.le_of_ble_eq_true rfl, Nat.le_of_ble_eq_true rfl⟩ ⟨Nat.le_refl _, Nat.le_refl _⟩ (Nat.le_of_ble_eq_true rfl) dX9_remember_8 (fun H locs hI => ?_)
  refine lv_aload_n hx hb dX9_remember_11 rfl (lv_at hl 0 rfl) ?_
  refine g_248_history hC hI tw_1_215 dX9_remember_12 ?_
  obtain ⟨V15, q15, hf⟩ := gbv hf
  refine k_X2_keepNoted hC hI hl.1 q15 tw_2_36 ⟨Nat.le_of_ble_eq_true rfl, Nat.le_of_ble_eq_true rfl⟩ ⟨Nat.le_refl _, Nat.le_refl _⟩ (Nat.le_of_ble_eq_true rfl) dX9_remember_15 (fun H locs hI => ?_)
  exact r_vret2 hC hI hf dX9_remember_18
theorem k_X9_remember {p : Program} {l : Launch} {e : Env} {R : Room} {cells slots : Nat} {s : State} {m : MethodId} {args : Array Value} {below : List Frame} {meth : Method} {c : Code} {H : Heap} {locs : List Loc} {Q : State → Prop} {E : En} {ad : Nat → Nat} {V : Mem} {ow : String} {b : ByteArray} {n : Nat} {ret : Option FieldType} {pc index : Nat} {ls : Array Slot} {rest : List Value} {V1 : Mem} (hC : Cx p s m args c meth E ow b n ret) (hI : In E ad V s H locs) (hsz : ls.size = n) (hf : f_X9_remember V = some V1) (hl : Cond.methodLink ow index yX9_remember ∈ TB) (hR : 5 + 1 ≤ R.frames ∧ 8 + (1 + 11) + 40 * 5 ≤ R.locals) (hcs : cells ≤ R.cells ∧ slots ≤ R.slots) (hw : (rest.map fun v => v.category).sum ≤ 8) (hdg : decode b pc = .ok (.invokevirtual index, 3)) (kk : ∀ (H1 : Heap) (locs1 : List Loc), In E ad V1 s H1 locs1 → W p l e R s m args below meth c H1 locs1 cells slots Q (F0 m (pc + 3) ls (rest))) : W p l e R s m args below meth c H locs cells slots Q (F0 m pc ls (.ref (ad 248) :: rest)) :=
  r_calVv (As := []) (rest := rest) hC hI hsz (m_X9_remember l E ad V _ hf) cv_X9_remember hl (by decide) (ce_248 _) rfl rfl rfl hR hcs hw hdg kk

theorem dX9_edit_0 : decode cX9_edit 0 = .ok (.aload_n 0, 1) := by decide +kernel
theorem dX9_edit_1 : decode cX9_edit 1 = .ok (.getfield 10, 3) := by decide +kernel
theorem dX9_edit_4 : decode cX9_edit 4 = .ok (.iload_n 1, 1) := by decide +kernel
theorem dX9_edit_5 : decode cX9_edit 5 = .ok (.iload_n 2, 1) := by decide +kernel
theorem dX9_edit_6 : decode cX9_edit 6 = .ok (.iload_n 3, 1) := by decide +kernel
theorem dX9_edit_7 : decode cX9_edit 7 = .ok (.invokevirtual 50, 3) := by decide +kernel
theorem dX9_edit_10 : decode cX9_edit 10 = .ok (.invokestatic 54, 3) := by decide +kernel
theorem dX9_edit_13 : decode cX9_edit 13 = .ok (.aload_n 0, 1) := by decide +kernel
theorem dX9_edit_14 : decode cX9_edit 14 = .ok (.invokevirtual 58, 3) := by decide +kernel
theorem dX9_edit_17 : decode cX9_edit 17 = .ok (.aload_n 0, 1) := by decide +kernel
theorem dX9_edit_18 : decode cX9_edit 18 = .ok (.getfield 10, 3) := by decide +kernel
theorem dX9_edit_21 : decode cX9_edit 21 = .ok (.iload_n 1, 1) := by decide +kernel
theorem dX9_edit_22 : decode cX9_edit 22 = .ok (.iload_n 2, 1) := by decide +kernel
theorem dX9_edit_23 : decode cX9_edit 23 = .ok (.iload_n 3, 1) := by decide +kernel
theorem dX9_edit_24 : decode cX9_edit 24 = .ok (.invokevirtual 61, 3) := by decide +kernel
theorem dX9_edit_27 : decode cX9_edit 27 = .ok (.ireturn, 1) := by decide +kernel
def f_X9_edit (V : Mem) (a1 : Int32) (a2 : Int32) (a3 : Int32) : Option (Nat × Int32 × Mem) :=
  bd (f_X8_refusalOfEdit V a1 a2 a3) fun r7 V7 =>
  bw 0 (f_X9_refuse V7 r7) fun V10 =>
  bv (f_X9_remember V10) fun V14 =>
  bd (f_X8_putLetter V14 a1 a2 a3) fun r24 V24 =>
  some (0, r24, V24)
theorem cv_X9_edit : CalV yX9_edit cX9_edit 4 (some .int) 3 := ⟨⟨⟨by decide +kernel, by decide +kernel⟩, tw_1_1, tw_2_218, by decide +kernel⟩, tw_2_216, tw_2_217⟩
set_option maxRecDepth 100000 in
set_option maxHeartbeats 4000000 in
theorem m_X9_edit (l : Launch) (hT : l.stackTraces = false) (E : En) (ad : Nat → Nat) (V : Mem) (a1 : Int32) (a2 : Int32) (a3 : Int32) (hS : SF E) (k : Nat) (r : Int32) (Vz : Mem) (hf : f_X9_edit V a1 a2 a3 = some (k, r, Vz)) : MX l E ad yX9_edit cX9_edit 4 (some .int) 7 1 6 [.ref (ad 248), .int a1, .int a2, .int a3] V k (some (.int r)) Vz := by
  refine entX (E := E) (ad := ad) (V := V) "LetterRepository" hT (by decide +kernel) rfl (Nat.le_of_ble_eq_true rfl) ?_
  intro p e s m below meth c ls hC hY hI hl
  have hx := hC.1
  have hb := hC.2.1
  have hl : lv_has ls 4 [(0, .ref (ad 248)), (1, .int a1), (2, .int a2), (3, .int a3)] := hl
  unfold f_X9_edit at hf
  refine lv_aload_n hx hb dX9_edit_0 rfl (lv_at hl 0 rfl) ?_
  refine g_248_store hC hI tw_1_213 dX9_edit_1 ?_
  refine lv_iload_n hx hb dX9_edit_4 rfl (lv_at hl 1 rfl) ?_
  refine lv_iload_n hx hb dX9_edit_5 rfl (lv_at hl 2 rfl) ?_
  refine lv_iload_n hx hb dX9_edit_6 rfl (lv_at hl 3 rfl) ?_
  obtain ⟨r7, V7, q7, hf⟩ := gbd hf
  refine k_X8_refusalOfEdit hS hC hI hl.1 q7 tw_2_219 ⟨Nat.le_of_ble_eq_true rfl, Nat.le_of_ble_eq_true rfl⟩ ⟨Nat.le_of_ble_eq_true rfl, Nat.le_of_ble_eq_true rfl⟩ (Nat.le_of_ble_eq_true rfl) dX9_edit_7 (fun H locs hI => ?_)
  obtain ⟨q10, V10, e10, hf⟩ := gbw hf
  refine kx_X9_refuse hS hC hY hI hl.1 e10 tw_2_239 ⟨Nat.le_of_ble_eq_true rfl, Nat.le_of_ble_eq_true rfl⟩ ⟨Nat.le_of_ble_eq_true rfl, Nat.le_of_ble_eq_true rfl⟩ ⟨Nat.le_of_ble_eq_true rfl, Nat.le_of_ble_eq_true rfl⟩ (Nat.le_of_ble_eq_true rfl) dX9_edit_10 (fun h0 => hx3 ((if_neg h0).symm.trans hf)) (fun h0 H locs hI => ?_)
  have hf := (if_pos h0).symm.trans hf
  refine lv_aload_n hx hb dX9_edit_13 rfl (lv_at hl 0 rfl) ?_
  obtain ⟨V14, q14, hf⟩ := gbv hf
  refine k_X9_remember hC hI hl.1 q14 tw_2_5 ⟨Nat.le_of_ble_eq_true rfl, Nat.le_of_ble_eq_true rfl⟩ ⟨Nat.le_of_ble_eq_true rfl, Nat.le_of_ble_eq_true rfl⟩ (Nat.le_of_ble_eq_true rfl) dX9_edit_14 (fun H locs hI => ?_)
  refine lv_aload_n hx hb dX9_edit_17 rfl (lv_at hl 0 rfl) ?_
  refine g_248_store hC hI tw_1_213 dX9_edit_18 ?_
  refine lv_iload_n hx hb dX9_edit_21 rfl (lv_at hl 1 rfl) ?_
  refine lv_iload_n hx hb dX9_edit_22 rfl (lv_at hl 2 rfl) ?_
  refine lv_iload_n hx hb dX9_edit_23 rfl (lv_at hl 3 rfl) ?_
  obtain ⟨r24, V24, q24, hf⟩ := gbd hf
  refine k_X8_putLetter hC hI hl.1 q24 tw_3_126 ⟨Nat.le_of_ble_eq_true rfl, Nat.le_of_ble_eq_true rfl⟩ ⟨Nat.le_of_ble_eq_true rfl, Nat.le_of_ble_eq_true rfl⟩ (Nat.le_of_ble_eq_true rfl) dX9_edit_24 (fun H locs hI => ?_)
  exact x_iret hC hI hf ⟨Nat.le_of_ble_eq_true rfl, Nat.le_of_ble_eq_true rfl⟩ dX9_edit_27
theorem kx_X9_edit {p : Program} {l : Launch} {e : Env} {R : Room} {cells slots mc ms : Nat} {s : State} {m : MethodId} {args : Array Value} {below : List Frame} {meth : Method} {c : Code} {H : Heap} {locs : List Loc} {Qc : Array Value → State → Outcome → State → Prop} {E : En} {ad : Nat → Nat} {V : Mem} {ow : String} {b : ByteArray} {n : Nat} {ret : Option FieldType} {pc index : Nat} {ls : Array Slot} {rest : List Value} {a1 : Int32} {a2 : Int32} {a3 : Int32} {k1 k : Nat} {r : Int32} {V1 Vz : Mem} (hS : SF E) (hC : Cx p s m args c meth E ow b n ret) (hY : Cy l c) (hI : In E ad V s H locs) (hsz : ls.size = n) (hf : f_X9_edit V a1 a2 a3 = some (k1, r, V1)) (hl : Cond.methodLink ow index yX9_edit ∈ TB) (hR : 7 + 1 ≤ R.frames ∧ 8 + (4 + 11) + 40 * 7 ≤ R.locals) (hcs : cells + 1 ≤ R.cells ∧ slots + 6 ≤ R.slots) (hc : cells + 1 ≤ mc ∧ slots + 6 ≤ ms) (hw : (rest.map fun v => v.category).sum ≤ 8) (hdg : decode b pc = .ok (.invokevirtual index, 3)) (hx : k1 ≠ 0 → k1 = k ∧ V1 = Vz) (kk : k1 = 0 → ∀ (H1 : Heap) (locs1 : List Loc), In E ad V1 s H1 locs1 → W p l e R s m args below meth c H1 locs1 (cells + 1) (slots + 6) (vx_MQ below Qc (QX E ad k Vz) args s mc ms (ours E)) (F0 m (pc + 3) ls ((.int r) :: rest))) : W p l e R s m args below meth c H locs cells slots (vx_MQ below Qc (QX E ad k Vz) args s mc ms (ours E)) (F0 m pc ls (.int a3 :: .int a2 :: .int a1 :: .ref (ad 248) :: rest)) :=
  after_callX hC hY hI (xrunV_tb (As := [.int a1, .int a2, .int a3]) (rest := rest) hC hI hsz (m_X9_edit l hY.2 E ad V a1 a2 a3 hS k1 r V1 hf) cv_X9_edit hl (by decide) (ce_248 _) rfl rfl rfl hR hcs hw hdg) hc hx kk

theorem dX9_revert_0 : decode cX9_revert 0 = .ok (.aload_n 0, 1) := by decide +kernel
theorem dX9_revert_1 : decode cX9_revert 1 = .ok (.getfield 10, 3) := by decide +kernel
theorem dX9_revert_4 : decode cX9_revert 4 = .ok (.iload_n 1, 1) := by decide +kernel
theorem dX9_revert_5 : decode cX9_revert 5 = .ok (.invokevirtual 65, 3) := by decide +kernel
theorem dX9_revert_8 : decode cX9_revert 8 = .ok (.invokestatic 54, 3) := by decide +kernel
theorem dX9_revert_11 : decode cX9_revert 11 = .ok (.aload_n 0, 1) := by decide +kernel
theorem dX9_revert_12 : decode cX9_revert 12 = .ok (.invokevirtual 58, 3) := by decide +kernel
theorem dX9_revert_15 : decode cX9_revert 15 = .ok (.aload_n 0, 1) := by decide +kernel
theorem dX9_revert_16 : decode cX9_revert 16 = .ok (.getfield 10, 3) := by decide +kernel
theorem dX9_revert_19 : decode cX9_revert 19 = .ok (.iload_n 1, 1) := by decide +kernel
theorem dX9_revert_20 : decode cX9_revert 20 = .ok (.invokevirtual 69, 3) := by decide +kernel
theorem dX9_revert_23 : decode cX9_revert 23 = .ok (.ireturn, 1) := by decide +kernel
def f_X9_revert (V : Mem) (a1 : Int32) : Option (Nat × Int32 × Mem) :=
  bd (f_X8_refusalOfRevert V a1) fun r5 V5 =>
  bw 0 (f_X9_refuse V5 r5) fun V8 =>
  bv (f_X9_remember V8) fun V12 =>
  bd (f_X8_dropEdits V12 a1) fun r20 V20 =>
  some (0, r20, V20)
theorem cv_X9_revert : CalV yX9_revert cX9_revert 2 (some .int) 1 := ⟨⟨⟨by decide +kernel, by decide +kernel⟩, tw_1_1, tw_3_157, by decide +kernel⟩, tw_3_155, tw_3_156⟩
set_option maxRecDepth 100000 in
set_option maxHeartbeats 4000000 in
theorem m_X9_revert (l : Launch) (hT : l.stackTraces = false) (E : En) (ad : Nat → Nat) (V : Mem) (a1 : Int32) (hS : SF E) (k : Nat) (r : Int32) (Vz : Mem) (hf : f_X9_revert V a1 = some (k, r, Vz)) : MX l E ad yX9_revert cX9_revert 2 (some .int) 7 1 6 [.ref (ad 248), .int a1] V k (some (.int r)) Vz := by
  refine entX (E := E) (ad := ad) (V := V) "LetterRepository" hT (by decide +kernel) rfl (Nat.le_of_ble_eq_true rfl) ?_
  intro p e s m below meth c ls hC hY hI hl
  have hx := hC.1
  have hb := hC.2.1
  have hl : lv_has ls 2 [(0, .ref (ad 248)), (1, .int a1)] := hl
  unfold f_X9_revert at hf
  refine lv_aload_n hx hb dX9_revert_0 rfl (lv_at hl 0 rfl) ?_
  refine g_248_store hC hI tw_1_213 dX9_revert_1 ?_
  refine lv_iload_n hx hb dX9_revert_4 rfl (lv_at hl 1 rfl) ?_
  obtain ⟨r5, V5, q5, hf⟩ := gbd hf
  refine k_X8_refusalOfRevert hS hC hI hl.1 q5 tw_3_158 ⟨Nat.le_of_ble_eq_true rfl, Nat.le_of_ble_eq_true rfl⟩ ⟨Nat.le_of_ble_eq_true rfl, Nat.le_of_ble_eq_true rfl⟩ (Nat.le_of_ble_eq_true rfl) dX9_revert_5 (fun H locs hI => ?_)
  obtain ⟨q8, V8, e8, hf⟩ := gbw hf
  refine kx_X9_refuse hS hC hY hI hl.1 e8 tw_2_239 ⟨Nat.le_of_ble_eq_true rfl, Nat.le_of_ble_eq_true rfl⟩ ⟨Nat.le_of_ble_eq_true rfl, Nat.le_of_ble_eq_true rfl⟩ ⟨Nat.le_of_ble_eq_true rfl, Nat.le_of_ble_eq_true rfl⟩ (Nat.le_of_ble_eq_true rfl) dX9_revert_8 (fun h0 => hx3 ((if_neg h0).symm.trans hf)) (fun h0 H locs hI => ?_)
  have hf := (if_pos h0).symm.trans hf
  refine lv_aload_n hx hb dX9_revert_11 rfl (lv_at hl 0 rfl) ?_
  obtain ⟨V12, q12, hf⟩ := gbv hf
  refine k_X9_remember hC hI hl.1 q12 tw_2_5 ⟨Nat.le_of_ble_eq_true rfl, Nat.le_of_ble_eq_true rfl⟩ ⟨Nat.le_of_ble_eq_true rfl, Nat.le_of_ble_eq_true rfl⟩ (Nat.le_of_ble_eq_true rfl) dX9_revert_12 (fun H locs hI => ?_)
  refine lv_aload_n hx hb dX9_revert_15 rfl (lv_at hl 0 rfl) ?_
  refine g_248_store hC hI tw_1_213 dX9_revert_16 ?_
  refine lv_iload_n hx hb dX9_revert_19 rfl (lv_at hl 1 rfl) ?_
  obtain ⟨r20, V20, q20, hf⟩ := gbd hf
  refine k_X8_dropEdits hC hI hl.1 q20 tw_3_162 ⟨Nat.le_of_ble_eq_true rfl, Nat.le_of_ble_eq_true rfl⟩ ⟨Nat.le_of_ble_eq_true rfl, Nat.le_of_ble_eq_true rfl⟩ (Nat.le_of_ble_eq_true rfl) dX9_revert_20 (fun H locs hI => ?_)
  exact x_iret hC hI hf ⟨Nat.le_of_ble_eq_true rfl, Nat.le_of_ble_eq_true rfl⟩ dX9_revert_23
theorem kx_X9_revert {p : Program} {l : Launch} {e : Env} {R : Room} {cells slots mc ms : Nat} {s : State} {m : MethodId} {args : Array Value} {below : List Frame} {meth : Method} {c : Code} {H : Heap} {locs : List Loc} {Qc : Array Value → State → Outcome → State → Prop} {E : En} {ad : Nat → Nat} {V : Mem} {ow : String} {b : ByteArray} {n : Nat} {ret : Option FieldType} {pc index : Nat} {ls : Array Slot} {rest : List Value} {a1 : Int32} {k1 k : Nat} {r : Int32} {V1 Vz : Mem} (hS : SF E) (hC : Cx p s m args c meth E ow b n ret) (hY : Cy l c) (hI : In E ad V s H locs) (hsz : ls.size = n) (hf : f_X9_revert V a1 = some (k1, r, V1)) (hl : Cond.methodLink ow index yX9_revert ∈ TB) (hR : 7 + 1 ≤ R.frames ∧ 8 + (2 + 11) + 40 * 7 ≤ R.locals) (hcs : cells + 1 ≤ R.cells ∧ slots + 6 ≤ R.slots) (hc : cells + 1 ≤ mc ∧ slots + 6 ≤ ms) (hw : (rest.map fun v => v.category).sum ≤ 8) (hdg : decode b pc = .ok (.invokevirtual index, 3)) (hx : k1 ≠ 0 → k1 = k ∧ V1 = Vz) (kk : k1 = 0 → ∀ (H1 : Heap) (locs1 : List Loc), In E ad V1 s H1 locs1 → W p l e R s m args below meth c H1 locs1 (cells + 1) (slots + 6) (vx_MQ below Qc (QX E ad k Vz) args s mc ms (ours E)) (F0 m (pc + 3) ls ((.int r) :: rest))) : W p l e R s m args below meth c H locs cells slots (vx_MQ below Qc (QX E ad k Vz) args s mc ms (ours E)) (F0 m pc ls (.int a1 :: .ref (ad 248) :: rest)) :=
  after_callX hC hY hI (xrunV_tb (As := [.int a1]) (rest := rest) hC hI hsz (m_X9_revert l hY.2 E ad V a1 hS k1 r V1 hf) cv_X9_revert hl (by decide) (ce_248 _) rfl rfl rfl hR hcs hw hdg) hc hx kk

theorem dX9_commit_0 : decode cX9_commit 0 = .ok (.aload_n 0, 1) := by decide +kernel
theorem dX9_commit_1 : decode cX9_commit 1 = .ok (.getfield 10, 3) := by decide +kernel
theorem dX9_commit_4 : decode cX9_commit 4 = .ok (.iload_n 1, 1) := by decide +kernel
theorem dX9_commit_5 : decode cX9_commit 5 = .ok (.iload_n 2, 1) := by decide +kernel
theorem dX9_commit_6 : decode cX9_commit 6 = .ok (.invokevirtual 73, 3) := by decide +kernel
theorem dX9_commit_9 : decode cX9_commit 9 = .ok (.invokestatic 54, 3) := by decide +kernel
theorem dX9_commit_12 : decode cX9_commit 12 = .ok (.aload_n 0, 1) := by decide +kernel
theorem dX9_commit_13 : decode cX9_commit 13 = .ok (.invokevirtual 58, 3) := by decide +kernel
theorem dX9_commit_16 : decode cX9_commit 16 = .ok (.aload_n 0, 1) := by decide +kernel
theorem dX9_commit_17 : decode cX9_commit 17 = .ok (.getfield 10, 3) := by decide +kernel
theorem dX9_commit_20 : decode cX9_commit 20 = .ok (.iload_n 1, 1) := by decide +kernel
theorem dX9_commit_21 : decode cX9_commit 21 = .ok (.iload_n 2, 1) := by decide +kernel
theorem dX9_commit_22 : decode cX9_commit 22 = .ok (.invokevirtual 77, 3) := by decide +kernel
theorem dX9_commit_25 : decode cX9_commit 25 = .ok (.ireturn, 1) := by decide +kernel
def f_X9_commit (V : Mem) (a1 : Int32) (a2 : Int32) : Option (Nat × Int32 × Mem) :=
  bd (f_X8_refusalOfCommit V a1 a2) fun r6 V6 =>
  bw 0 (f_X9_refuse V6 r6) fun V9 =>
  bv (f_X9_remember V9) fun V13 =>
  bd (f_X8_commitWorking V13 a1 a2) fun r22 V22 =>
  some (0, r22, V22)
theorem cv_X9_commit : CalV yX9_commit cX9_commit 3 (some .int) 2 := ⟨⟨⟨by decide +kernel, by decide +kernel⟩, tw_1_1, tw_3_177, by decide +kernel⟩, tw_3_175, tw_3_176⟩
set_option maxRecDepth 100000 in
set_option maxHeartbeats 4000000 in
theorem m_X9_commit (l : Launch) (hT : l.stackTraces = false) (E : En) (ad : Nat → Nat) (V : Mem) (a1 : Int32) (a2 : Int32) (hS : SF E) (k : Nat) (r : Int32) (Vz : Mem) (hf : f_X9_commit V a1 a2 = some (k, r, Vz)) : MX l E ad yX9_commit cX9_commit 3 (some .int) 7 1 6 [.ref (ad 248), .int a1, .int a2] V k (some (.int r)) Vz := by
  refine entX (E := E) (ad := ad) (V := V) "LetterRepository" hT (by decide +kernel) rfl (Nat.le_of_ble_eq_true rfl) ?_
  intro p e s m below meth c ls hC hY hI hl
  have hx := hC.1
  have hb := hC.2.1
  have hl : lv_has ls 3 [(0, .ref (ad 248)), (1, .int a1), (2, .int a2)] := hl
  unfold f_X9_commit at hf
  refine lv_aload_n hx hb dX9_commit_0 rfl (lv_at hl 0 rfl) ?_
  refine g_248_store hC hI tw_1_213 dX9_commit_1 ?_
  refine lv_iload_n hx hb dX9_commit_4 rfl (lv_at hl 1 rfl) ?_
  refine lv_iload_n hx hb dX9_commit_5 rfl (lv_at hl 2 rfl) ?_
  obtain ⟨r6, V6, q6, hf⟩ := gbd hf
  refine k_X8_refusalOfCommit hS hC hI hl.1 q6 tw_3_178 ⟨Nat.le_of_ble_eq_true rfl, Nat.le_of_ble_eq_true rfl⟩ ⟨Nat.le_of_ble_eq_true rfl, Nat.le_of_ble_eq_true rfl⟩ (Nat.le_of_ble_eq_true rfl) dX9_commit_6 (fun H locs hI => ?_)
  obtain ⟨q9, V9, e9, hf⟩ := gbw hf
  refine kx_X9_refuse hS hC hY hI hl.1 e9 tw_2_239 ⟨Nat.le_of_ble_eq_true rfl, Nat.le_of_ble_eq_true rfl⟩ ⟨Nat.le_of_ble_eq_true rfl, Nat.le_of_ble_eq_true rfl⟩ ⟨Nat.le_of_ble_eq_true rfl, Nat.le_of_ble_eq_true rfl⟩ (Nat.le_of_ble_eq_true rfl) dX9_commit_9 (fun h0 => hx3 ((if_neg h0).symm.trans hf)) (fun h0 H locs hI => ?_)
  have hf := (if_pos h0).symm.trans hf
  refine lv_aload_n hx hb dX9_commit_12 rfl (lv_at hl 0 rfl) ?_
  obtain ⟨V13, q13, hf⟩ := gbv hf
  refine k_X9_remember hC hI hl.1 q13 tw_2_5 ⟨Nat.le_of_ble_eq_true rfl, Nat.le_of_ble_eq_true rfl⟩ ⟨Nat.le_of_ble_eq_true rfl, Nat.le_of_ble_eq_true rfl⟩ (Nat.le_of_ble_eq_true rfl) dX9_commit_13 (fun H locs hI => ?_)
  refine lv_aload_n hx hb dX9_commit_16 rfl (lv_at hl 0 rfl) ?_
  refine g_248_store hC hI tw_1_213 dX9_commit_17 ?_
  refine lv_iload_n hx hb dX9_commit_20 rfl (lv_at hl 1 rfl) ?_
  refine lv_iload_n hx hb dX9_commit_21 rfl (lv_at hl 2 rfl) ?_
  obtain ⟨r22, V22, q22, hf⟩ := gbd hf
  refine k_X8_commitWorking hC hI hl.1 q22 tw_3_190 ⟨Nat.le_of_ble_eq_true rfl, Nat.le_of_ble_eq_true rfl⟩ ⟨Nat.le_of_ble_eq_true rfl, Nat.le_of_ble_eq_true rfl⟩ (Nat.le_of_ble_eq_true rfl) dX9_commit_22 (fun H locs hI => ?_)
  exact x_iret hC hI hf ⟨Nat.le_of_ble_eq_true rfl, Nat.le_of_ble_eq_true rfl⟩ dX9_commit_25
theorem kx_X9_commit {p : Program} {l : Launch} {e : Env} {R : Room} {cells slots mc ms : Nat} {s : State} {m : MethodId} {args : Array Value} {below : List Frame} {meth : Method} {c : Code} {H : Heap} {locs : List Loc} {Qc : Array Value → State → Outcome → State → Prop} {E : En} {ad : Nat → Nat} {V : Mem} {ow : String} {b : ByteArray} {n : Nat} {ret : Option FieldType} {pc index : Nat} {ls : Array Slot} {rest : List Value} {a1 : Int32} {a2 : Int32} {k1 k : Nat} {r : Int32} {V1 Vz : Mem} (hS : SF E) (hC : Cx p s m args c meth E ow b n ret) (hY : Cy l c) (hI : In E ad V s H locs) (hsz : ls.size = n) (hf : f_X9_commit V a1 a2 = some (k1, r, V1)) (hl : Cond.methodLink ow index yX9_commit ∈ TB) (hR : 7 + 1 ≤ R.frames ∧ 8 + (3 + 11) + 40 * 7 ≤ R.locals) (hcs : cells + 1 ≤ R.cells ∧ slots + 6 ≤ R.slots) (hc : cells + 1 ≤ mc ∧ slots + 6 ≤ ms) (hw : (rest.map fun v => v.category).sum ≤ 8) (hdg : decode b pc = .ok (.invokevirtual index, 3)) (hx : k1 ≠ 0 → k1 = k ∧ V1 = Vz) (kk : k1 = 0 → ∀ (H1 : Heap) (locs1 : List Loc), In E ad V1 s H1 locs1 → W p l e R s m args below meth c H1 locs1 (cells + 1) (slots + 6) (vx_MQ below Qc (QX E ad k Vz) args s mc ms (ours E)) (F0 m (pc + 3) ls ((.int r) :: rest))) : W p l e R s m args below meth c H locs cells slots (vx_MQ below Qc (QX E ad k Vz) args s mc ms (ours E)) (F0 m pc ls (.int a2 :: .int a1 :: .ref (ad 248) :: rest)) :=
  after_callX hC hY hI (xrunV_tb (As := [.int a1, .int a2]) (rest := rest) hC hI hsz (m_X9_commit l hY.2 E ad V a1 a2 hS k1 r V1 hf) cv_X9_commit hl (by decide) (ce_248 _) rfl rfl rfl hR hcs hw hdg) hc hx kk

theorem dX9_createBranch_0 : decode cX9_createBranch 0 = .ok (.aload_n 0, 1) := by decide +kernel
theorem dX9_createBranch_1 : decode cX9_createBranch 1 = .ok (.getfield 10, 3) := by decide +kernel
theorem dX9_createBranch_4 : decode cX9_createBranch 4 = .ok (.iload_n 1, 1) := by decide +kernel
theorem dX9_createBranch_5 : decode cX9_createBranch 5 = .ok (.invokevirtual 81, 3) := by decide +kernel
theorem dX9_createBranch_8 : decode cX9_createBranch 8 = .ok (.invokestatic 54, 3) := by decide +kernel
theorem dX9_createBranch_11 : decode cX9_createBranch 11 = .ok (.aload_n 0, 1) := by decide +kernel
theorem dX9_createBranch_12 : decode cX9_createBranch 12 = .ok (.invokevirtual 58, 3) := by decide +kernel
theorem dX9_createBranch_15 : decode cX9_createBranch 15 = .ok (.aload_n 0, 1) := by decide +kernel
theorem dX9_createBranch_16 : decode cX9_createBranch 16 = .ok (.getfield 10, 3) := by decide +kernel
theorem dX9_createBranch_19 : decode cX9_createBranch 19 = .ok (.iload_n 1, 1) := by decide +kernel
theorem dX9_createBranch_20 : decode cX9_createBranch 20 = .ok (.invokevirtual 84, 3) := by decide +kernel
theorem dX9_createBranch_23 : decode cX9_createBranch 23 = .ok (.ireturn, 1) := by decide +kernel
def f_X9_createBranch (V : Mem) (a1 : Int32) : Option (Nat × Int32 × Mem) :=
  bd (f_X8_refusalOfBranching V a1) fun r5 V5 =>
  bw 0 (f_X9_refuse V5 r5) fun V8 =>
  bv (f_X9_remember V8) fun V12 =>
  bd (f_X8_openBranch V12 a1) fun r20 V20 =>
  some (0, r20, V20)
theorem cv_X9_createBranch : CalV yX9_createBranch cX9_createBranch 2 (some .int) 1 := ⟨⟨⟨by decide +kernel, by decide +kernel⟩, tw_1_1, tw_3_213, by decide +kernel⟩, tw_3_211, tw_3_212⟩
set_option maxRecDepth 100000 in
set_option maxHeartbeats 4000000 in
theorem m_X9_createBranch (l : Launch) (hT : l.stackTraces = false) (E : En) (ad : Nat → Nat) (V : Mem) (a1 : Int32) (hS : SF E) (k : Nat) (r : Int32) (Vz : Mem) (hf : f_X9_createBranch V a1 = some (k, r, Vz)) : MX l E ad yX9_createBranch cX9_createBranch 2 (some .int) 7 1 6 [.ref (ad 248), .int a1] V k (some (.int r)) Vz := by
  refine entX (E := E) (ad := ad) (V := V) "LetterRepository" hT (by decide +kernel) rfl (Nat.le_of_ble_eq_true rfl) ?_
  intro p e s m below meth c ls hC hY hI hl
  have hx := hC.1
  have hb := hC.2.1
  have hl : lv_has ls 2 [(0, .ref (ad 248)), (1, .int a1)] := hl
  unfold f_X9_createBranch at hf
  refine lv_aload_n hx hb dX9_createBranch_0 rfl (lv_at hl 0 rfl) ?_
  refine g_248_store hC hI tw_1_213 dX9_createBranch_1 ?_
  refine lv_iload_n hx hb dX9_createBranch_4 rfl (lv_at hl 1 rfl) ?_
  obtain ⟨r5, V5, q5, hf⟩ := gbd hf
  refine k_X8_refusalOfBranching hS hC hI hl.1 q5 tw_3_214 ⟨Nat.le_of_ble_eq_true rfl, Nat.le_of_ble_eq_true rfl⟩ ⟨Nat.le_of_ble_eq_true rfl, Nat.le_of_ble_eq_true rfl⟩ (Nat.le_of_ble_eq_true rfl) dX9_createBranch_5 (fun H locs hI => ?_)
  obtain ⟨q8, V8, e8, hf⟩ := gbw hf
  refine kx_X9_refuse hS hC hY hI hl.1 e8 tw_2_239 ⟨Nat.le_of_ble_eq_true rfl, Nat.le_of_ble_eq_true rfl⟩ ⟨Nat.le_of_ble_eq_true rfl, Nat.le_of_ble_eq_true rfl⟩ ⟨Nat.le_of_ble_eq_true rfl, Nat.le_of_ble_eq_true rfl⟩ (Nat.le_of_ble_eq_true rfl) dX9_createBranch_8 (fun h0 => hx3 ((if_neg h0).symm.trans hf)) (fun h0 H locs hI => ?_)
  have hf := (if_pos h0).symm.trans hf
  refine lv_aload_n hx hb dX9_createBranch_11 rfl (lv_at hl 0 rfl) ?_
  obtain ⟨V12, q12, hf⟩ := gbv hf
  refine k_X9_remember hC hI hl.1 q12 tw_2_5 ⟨Nat.le_of_ble_eq_true rfl, Nat.le_of_ble_eq_true rfl⟩ ⟨Nat.le_of_ble_eq_true rfl, Nat.le_of_ble_eq_true rfl⟩ (Nat.le_of_ble_eq_true rfl) dX9_createBranch_12 (fun H locs hI => ?_)
  refine lv_aload_n hx hb dX9_createBranch_15 rfl (lv_at hl 0 rfl) ?_
  refine g_248_store hC hI tw_1_213 dX9_createBranch_16 ?_
  refine lv_iload_n hx hb dX9_createBranch_19 rfl (lv_at hl 1 rfl) ?_
  obtain ⟨r20, V20, q20, hf⟩ := gbd hf
  refine k_X8_openBranch hC hI hl.1 q20 tw_3_227 ⟨Nat.le_of_ble_eq_true rfl, Nat.le_of_ble_eq_true rfl⟩ ⟨Nat.le_of_ble_eq_true rfl, Nat.le_of_ble_eq_true rfl⟩ (Nat.le_of_ble_eq_true rfl) dX9_createBranch_20 (fun H locs hI => ?_)
  exact x_iret hC hI hf ⟨Nat.le_of_ble_eq_true rfl, Nat.le_of_ble_eq_true rfl⟩ dX9_createBranch_23
theorem kx_X9_createBranch {p : Program} {l : Launch} {e : Env} {R : Room} {cells slots mc ms : Nat} {s : State} {m : MethodId} {args : Array Value} {below : List Frame} {meth : Method} {c : Code} {H : Heap} {locs : List Loc} {Qc : Array Value → State → Outcome → State → Prop} {E : En} {ad : Nat → Nat} {V : Mem} {ow : String} {b : ByteArray} {n : Nat} {ret : Option FieldType} {pc index : Nat} {ls : Array Slot} {rest : List Value} {a1 : Int32} {k1 k : Nat} {r : Int32} {V1 Vz : Mem} (hS : SF E) (hC : Cx p s m args c meth E ow b n ret) (hY : Cy l c) (hI : In E ad V s H locs) (hsz : ls.size = n) (hf : f_X9_createBranch V a1 = some (k1, r, V1)) (hl : Cond.methodLink ow index yX9_createBranch ∈ TB) (hR : 7 + 1 ≤ R.frames ∧ 8 + (2 + 11) + 40 * 7 ≤ R.locals) (hcs : cells + 1 ≤ R.cells ∧ slots + 6 ≤ R.slots) (hc : cells + 1 ≤ mc ∧ slots + 6 ≤ ms) (hw : (rest.map fun v => v.category).sum ≤ 8) (hdg : decode b pc = .ok (.invokevirtual index, 3)) (hx : k1 ≠ 0 → k1 = k ∧ V1 = Vz) (kk : k1 = 0 → ∀ (H1 : Heap) (locs1 : List Loc), In E ad V1 s H1 locs1 → W p l e R s m args below meth c H1 locs1 (cells + 1) (slots + 6) (vx_MQ below Qc (QX E ad k Vz) args s mc ms (ours E)) (F0 m (pc + 3) ls ((.int r) :: rest))) : W p l e R s m args below meth c H locs cells slots (vx_MQ below Qc (QX E ad k Vz) args s mc ms (ours E)) (F0 m pc ls (.int a1 :: .ref (ad 248) :: rest)) :=
  after_callX hC hY hI (xrunV_tb (As := [.int a1]) (rest := rest) hC hI hsz (m_X9_createBranch l hY.2 E ad V a1 hS k1 r V1 hf) cv_X9_createBranch hl (by decide) (ce_248 _) rfl rfl rfl hR hcs hw hdg) hc hx kk

theorem dX9_closeBranch_0 : decode cX9_closeBranch 0 = .ok (.aload_n 0, 1) := by decide +kernel
theorem dX9_closeBranch_1 : decode cX9_closeBranch 1 = .ok (.getfield 10, 3) := by decide +kernel
theorem dX9_closeBranch_4 : decode cX9_closeBranch 4 = .ok (.iload_n 1, 1) := by decide +kernel
theorem dX9_closeBranch_5 : decode cX9_closeBranch 5 = .ok (.invokevirtual 87, 3) := by decide +kernel
theorem dX9_closeBranch_8 : decode cX9_closeBranch 8 = .ok (.invokestatic 54, 3) := by decide +kernel
theorem dX9_closeBranch_11 : decode cX9_closeBranch 11 = .ok (.aload_n 0, 1) := by decide +kernel
theorem dX9_closeBranch_12 : decode cX9_closeBranch 12 = .ok (.invokevirtual 58, 3) := by decide +kernel
theorem dX9_closeBranch_15 : decode cX9_closeBranch 15 = .ok (.aload_n 0, 1) := by decide +kernel
theorem dX9_closeBranch_16 : decode cX9_closeBranch 16 = .ok (.getfield 10, 3) := by decide +kernel
theorem dX9_closeBranch_19 : decode cX9_closeBranch 19 = .ok (.iload_n 1, 1) := by decide +kernel
theorem dX9_closeBranch_20 : decode cX9_closeBranch 20 = .ok (.invokevirtual 90, 3) := by decide +kernel
theorem dX9_closeBranch_23 : decode cX9_closeBranch 23 = .ok (.ireturn, 1) := by decide +kernel
def f_X9_closeBranch (V : Mem) (a1 : Int32) : Option (Nat × Int32 × Mem) :=
  bd (f_X8_refusalOfClosing V a1) fun r5 V5 =>
  bw 0 (f_X9_refuse V5 r5) fun V8 =>
  bv (f_X9_remember V8) fun V12 =>
  bd (f_X8_dropBranch V12 a1) fun r20 V20 =>
  some (0, r20, V20)
theorem cv_X9_closeBranch : CalV yX9_closeBranch cX9_closeBranch 2 (some .int) 1 := ⟨⟨⟨by decide +kernel, by decide +kernel⟩, tw_1_1, tw_3_237, by decide +kernel⟩, tw_3_235, tw_3_236⟩
set_option maxRecDepth 100000 in
set_option maxHeartbeats 4000000 in
theorem m_X9_closeBranch (l : Launch) (hT : l.stackTraces = false) (E : En) (ad : Nat → Nat) (V : Mem) (a1 : Int32) (hS : SF E) (k : Nat) (r : Int32) (Vz : Mem) (hf : f_X9_closeBranch V a1 = some (k, r, Vz)) : MX l E ad yX9_closeBranch cX9_closeBranch 2 (some .int) 7 1 6 [.ref (ad 248), .int a1] V k (some (.int r)) Vz := by
  refine entX (E := E) (ad := ad) (V := V) "LetterRepository" hT (by decide +kernel) rfl (Nat.le_of_ble_eq_true rfl) ?_
  intro p e s m below meth c ls hC hY hI hl
  have hx := hC.1
  have hb := hC.2.1
  have hl : lv_has ls 2 [(0, .ref (ad 248)), (1, .int a1)] := hl
  unfold f_X9_closeBranch at hf
  refine lv_aload_n hx hb dX9_closeBranch_0 rfl (lv_at hl 0 rfl) ?_
  refine g_248_store hC hI tw_1_213 dX9_closeBranch_1 ?_
  refine lv_iload_n hx hb dX9_closeBranch_4 rfl (lv_at hl 1 rfl) ?_
  obtain ⟨r5, V5, q5, hf⟩ := gbd hf
  refine k_X8_refusalOfClosing hS hC hI hl.1 q5 tw_3_238 ⟨Nat.le_of_ble_eq_true rfl, Nat.le_of_ble_eq_true rfl⟩ ⟨Nat.le_of_ble_eq_true rfl, Nat.le_of_ble_eq_true rfl⟩ (Nat.le_of_ble_eq_true rfl) dX9_closeBranch_5 (fun H locs hI => ?_)
  obtain ⟨q8, V8, e8, hf⟩ := gbw hf
  refine kx_X9_refuse hS hC hY hI hl.1 e8 tw_2_239 ⟨Nat.le_of_ble_eq_true rfl, Nat.le_of_ble_eq_true rfl⟩ ⟨Nat.le_of_ble_eq_true rfl, Nat.le_of_ble_eq_true rfl⟩ ⟨Nat.le_of_ble_eq_true rfl, Nat.le_of_ble_eq_true rfl⟩ (Nat.le_of_ble_eq_true rfl) dX9_closeBranch_8 (fun h0 => hx3 ((if_neg h0).symm.trans hf)) (fun h0 H locs hI => ?_)
  have hf := (if_pos h0).symm.trans hf
  refine lv_aload_n hx hb dX9_closeBranch_11 rfl (lv_at hl 0 rfl) ?_
  obtain ⟨V12, q12, hf⟩ := gbv hf
  refine k_X9_remember hC hI hl.1 q12 tw_2_5 ⟨Nat.le_of_ble_eq_true rfl, Nat.le_of_ble_eq_true rfl⟩ ⟨Nat.le_of_ble_eq_true rfl, Nat.le_of_ble_eq_true rfl⟩ (Nat.le_of_ble_eq_true rfl) dX9_closeBranch_12 (fun H locs hI => ?_)
  refine lv_aload_n hx hb dX9_closeBranch_15 rfl (lv_at hl 0 rfl) ?_
  refine g_248_store hC hI tw_1_213 dX9_closeBranch_16 ?_
  refine lv_iload_n hx hb dX9_closeBranch_19 rfl (lv_at hl 1 rfl) ?_
  obtain ⟨r20, V20, q20, hf⟩ := gbd hf
  refine k_X8_dropBranch hC hI hl.1 q20 tw_4_2 ⟨Nat.le_of_ble_eq_true rfl, Nat.le_of_ble_eq_true rfl⟩ ⟨Nat.le_of_ble_eq_true rfl, Nat.le_of_ble_eq_true rfl⟩ (Nat.le_of_ble_eq_true rfl) dX9_closeBranch_20 (fun H locs hI => ?_)
  exact x_iret hC hI hf ⟨Nat.le_of_ble_eq_true rfl, Nat.le_of_ble_eq_true rfl⟩ dX9_closeBranch_23
theorem kx_X9_closeBranch {p : Program} {l : Launch} {e : Env} {R : Room} {cells slots mc ms : Nat} {s : State} {m : MethodId} {args : Array Value} {below : List Frame} {meth : Method} {c : Code} {H : Heap} {locs : List Loc} {Qc : Array Value → State → Outcome → State → Prop} {E : En} {ad : Nat → Nat} {V : Mem} {ow : String} {b : ByteArray} {n : Nat} {ret : Option FieldType} {pc index : Nat} {ls : Array Slot} {rest : List Value} {a1 : Int32} {k1 k : Nat} {r : Int32} {V1 Vz : Mem} (hS : SF E) (hC : Cx p s m args c meth E ow b n ret) (hY : Cy l c) (hI : In E ad V s H locs) (hsz : ls.size = n) (hf : f_X9_closeBranch V a1 = some (k1, r, V1)) (hl : Cond.methodLink ow index yX9_closeBranch ∈ TB) (hR : 7 + 1 ≤ R.frames ∧ 8 + (2 + 11) + 40 * 7 ≤ R.locals) (hcs : cells + 1 ≤ R.cells ∧ slots + 6 ≤ R.slots) (hc : cells + 1 ≤ mc ∧ slots + 6 ≤ ms) (hw : (rest.map fun v => v.category).sum ≤ 8) (hdg : decode b pc = .ok (.invokevirtual index, 3)) (hx : k1 ≠ 0 → k1 = k ∧ V1 = Vz) (kk : k1 = 0 → ∀ (H1 : Heap) (locs1 : List Loc), In E ad V1 s H1 locs1 → W p l e R s m args below meth c H1 locs1 (cells + 1) (slots + 6) (vx_MQ below Qc (QX E ad k Vz) args s mc ms (ours E)) (F0 m (pc + 3) ls ((.int r) :: rest))) : W p l e R s m args below meth c H locs cells slots (vx_MQ below Qc (QX E ad k Vz) args s mc ms (ours E)) (F0 m pc ls (.int a1 :: .ref (ad 248) :: rest)) :=
  after_callX hC hY hI (xrunV_tb (As := [.int a1]) (rest := rest) hC hI hsz (m_X9_closeBranch l hY.2 E ad V a1 hS k1 r V1 hf) cv_X9_closeBranch hl (by decide) (ce_248 _) rfl rfl rfl hR hcs hw hdg) hc hx kk

theorem dX9_merge_0 : decode cX9_merge 0 = .ok (.aload_n 0, 1) := by decide +kernel
theorem dX9_merge_1 : decode cX9_merge 1 = .ok (.getfield 10, 3) := by decide +kernel
theorem dX9_merge_4 : decode cX9_merge 4 = .ok (.iload_n 1, 1) := by decide +kernel
theorem dX9_merge_5 : decode cX9_merge 5 = .ok (.iload_n 2, 1) := by decide +kernel
theorem dX9_merge_6 : decode cX9_merge 6 = .ok (.invokevirtual 93, 3) := by decide +kernel
theorem dX9_merge_9 : decode cX9_merge 9 = .ok (.invokestatic 54, 3) := by decide +kernel
theorem dX9_merge_12 : decode cX9_merge 12 = .ok (.aload_n 0, 1) := by decide +kernel
theorem dX9_merge_13 : decode cX9_merge 13 = .ok (.invokevirtual 58, 3) := by decide +kernel
theorem dX9_merge_16 : decode cX9_merge 16 = .ok (.aload_n 0, 1) := by decide +kernel
theorem dX9_merge_17 : decode cX9_merge 17 = .ok (.getfield 10, 3) := by decide +kernel
theorem dX9_merge_20 : decode cX9_merge 20 = .ok (.iload_n 1, 1) := by decide +kernel
theorem dX9_merge_21 : decode cX9_merge 21 = .ok (.iload_n 2, 1) := by decide +kernel
theorem dX9_merge_22 : decode cX9_merge 22 = .ok (.iconst 1, 1) := by decide +kernel
theorem dX9_merge_23 : decode cX9_merge 23 = .ok (.invokevirtual 96, 3) := by decide +kernel
theorem dX9_merge_26 : decode cX9_merge 26 = .ok (.ireturn, 1) := by decide +kernel
def f_X9_merge (V : Mem) (a1 : Int32) (a2 : Int32) : Option (Nat × Int32 × Mem) :=
  bd (f_X8_refusalOfMerge V a1 a2) fun r6 V6 =>
  bw 0 (f_X9_refuse V6 r6) fun V9 =>
  bv (f_X9_remember V9) fun V13 =>
  bd (f_X8_mergeHeads V13 a1 a2 1) fun r23 V23 =>
  some (0, r23, V23)
theorem cv_X9_merge : CalV yX9_merge cX9_merge 3 (some .int) 2 := ⟨⟨⟨by decide +kernel, by decide +kernel⟩, tw_1_1, tw_4_12, by decide +kernel⟩, tw_4_10, tw_4_11⟩
set_option maxRecDepth 100000 in
set_option maxHeartbeats 4000000 in
theorem m_X9_merge (l : Launch) (hT : l.stackTraces = false) (E : En) (ad : Nat → Nat) (V : Mem) (a1 : Int32) (a2 : Int32) (hS : SF E) (k : Nat) (r : Int32) (Vz : Mem) (hf : f_X9_merge V a1 a2 = some (k, r, Vz)) : MX l E ad yX9_merge cX9_merge 3 (some .int) 7 1 6 [.ref (ad 248), .int a1, .int a2] V k (some (.int r)) Vz := by
  refine entX (E := E) (ad := ad) (V := V) "LetterRepository" hT (by decide +kernel) rfl (Nat.le_of_ble_eq_true rfl) ?_
  intro p e s m below meth c ls hC hY hI hl
  have hx := hC.1
  have hb := hC.2.1
  have hl : lv_has ls 3 [(0, .ref (ad 248)), (1, .int a1), (2, .int a2)] := hl
  unfold f_X9_merge at hf
  refine lv_aload_n hx hb dX9_merge_0 rfl (lv_at hl 0 rfl) ?_
  refine g_248_store hC hI tw_1_213 dX9_merge_1 ?_
  refine lv_iload_n hx hb dX9_merge_4 rfl (lv_at hl 1 rfl) ?_
  refine lv_iload_n hx hb dX9_merge_5 rfl (lv_at hl 2 rfl) ?_
  obtain ⟨r6, V6, q6, hf⟩ := gbd hf
  refine k_X8_refusalOfMerge hS hC hI hl.1 q6 tw_4_13 ⟨Nat.le_of_ble_eq_true rfl, Nat.le_of_ble_eq_true rfl⟩ ⟨Nat.le_of_ble_eq_true rfl, Nat.le_of_ble_eq_true rfl⟩ (Nat.le_of_ble_eq_true rfl) dX9_merge_6 (fun H locs hI => ?_)
  obtain ⟨q9, V9, e9, hf⟩ := gbw hf
  refine kx_X9_refuse hS hC hY hI hl.1 e9 tw_2_239 ⟨Nat.le_of_ble_eq_true rfl, Nat.le_of_ble_eq_true rfl⟩ ⟨Nat.le_of_ble_eq_true rfl, Nat.le_of_ble_eq_true rfl⟩ ⟨Nat.le_of_ble_eq_true rfl, Nat.le_of_ble_eq_true rfl⟩ (Nat.le_of_ble_eq_true rfl) dX9_merge_9 (fun h0 => hx3 ((if_neg h0).symm.trans hf)) (fun h0 H locs hI => ?_)
  have hf := (if_pos h0).symm.trans hf
  refine lv_aload_n hx hb dX9_merge_12 rfl (lv_at hl 0 rfl) ?_
  obtain ⟨V13, q13, hf⟩ := gbv hf
  refine k_X9_remember hC hI hl.1 q13 tw_2_5 ⟨Nat.le_of_ble_eq_true rfl, Nat.le_of_ble_eq_true rfl⟩ ⟨Nat.le_of_ble_eq_true rfl, Nat.le_of_ble_eq_true rfl⟩ (Nat.le_of_ble_eq_true rfl) dX9_merge_13 (fun H locs hI => ?_)
  refine lv_aload_n hx hb dX9_merge_16 rfl (lv_at hl 0 rfl) ?_
  refine g_248_store hC hI tw_1_213 dX9_merge_17 ?_
  refine lv_iload_n hx hb dX9_merge_20 rfl (lv_at hl 1 rfl) ?_
  refine lv_iload_n hx hb dX9_merge_21 rfl (lv_at hl 2 rfl) ?_
  refine lv_iconst (v := 1) hx hb dX9_merge_22 rfl ?_
  obtain ⟨r23, V23, q23, hf⟩ := gbd hf
  refine k_X8_mergeHeads hC hI hl.1 q23 tw_4_34 ⟨Nat.le_of_ble_eq_true rfl, Nat.le_of_ble_eq_true rfl⟩ ⟨Nat.le_of_ble_eq_true rfl, Nat.le_of_ble_eq_true rfl⟩ (Nat.le_of_ble_eq_true rfl) dX9_merge_23 (fun H locs hI => ?_)
  exact x_iret hC hI hf ⟨Nat.le_of_ble_eq_true rfl, Nat.le_of_ble_eq_true rfl⟩ dX9_merge_26
theorem kx_X9_merge {p : Program} {l : Launch} {e : Env} {R : Room} {cells slots mc ms : Nat} {s : State} {m : MethodId} {args : Array Value} {below : List Frame} {meth : Method} {c : Code} {H : Heap} {locs : List Loc} {Qc : Array Value → State → Outcome → State → Prop} {E : En} {ad : Nat → Nat} {V : Mem} {ow : String} {b : ByteArray} {n : Nat} {ret : Option FieldType} {pc index : Nat} {ls : Array Slot} {rest : List Value} {a1 : Int32} {a2 : Int32} {k1 k : Nat} {r : Int32} {V1 Vz : Mem} (hS : SF E) (hC : Cx p s m args c meth E ow b n ret) (hY : Cy l c) (hI : In E ad V s H locs) (hsz : ls.size = n) (hf : f_X9_merge V a1 a2 = some (k1, r, V1)) (hl : Cond.methodLink ow index yX9_merge ∈ TB) (hR : 7 + 1 ≤ R.frames ∧ 8 + (3 + 11) + 40 * 7 ≤ R.locals) (hcs : cells + 1 ≤ R.cells ∧ slots + 6 ≤ R.slots) (hc : cells + 1 ≤ mc ∧ slots + 6 ≤ ms) (hw : (rest.map fun v => v.category).sum ≤ 8) (hdg : decode b pc = .ok (.invokevirtual index, 3)) (hx : k1 ≠ 0 → k1 = k ∧ V1 = Vz) (kk : k1 = 0 → ∀ (H1 : Heap) (locs1 : List Loc), In E ad V1 s H1 locs1 → W p l e R s m args below meth c H1 locs1 (cells + 1) (slots + 6) (vx_MQ below Qc (QX E ad k Vz) args s mc ms (ours E)) (F0 m (pc + 3) ls ((.int r) :: rest))) : W p l e R s m args below meth c H locs cells slots (vx_MQ below Qc (QX E ad k Vz) args s mc ms (ours E)) (F0 m pc ls (.int a2 :: .int a1 :: .ref (ad 248) :: rest)) :=
  after_callX hC hY hI (xrunV_tb (As := [.int a1, .int a2]) (rest := rest) hC hI hsz (m_X9_merge l hY.2 E ad V a1 a2 hS k1 r V1 hf) cv_X9_merge hl (by decide) (ce_248 _) rfl rfl rfl hR hcs hw hdg) hc hx kk

theorem dX9_mergeKeeping_0 : decode cX9_mergeKeeping 0 = .ok (.aload_n 0, 1) := by decide +kernel
theorem dX9_mergeKeeping_1 : decode cX9_mergeKeeping 1 = .ok (.getfield 10, 3) := by decide +kernel
theorem dX9_mergeKeeping_4 : decode cX9_mergeKeeping 4 = .ok (.iload_n 1, 1) := by decide +kernel
theorem dX9_mergeKeeping_5 : decode cX9_mergeKeeping 5 = .ok (.iload_n 2, 1) := by decide +kernel
theorem dX9_mergeKeeping_6 : decode cX9_mergeKeeping 6 = .ok (.invokevirtual 100, 3) := by decide +kernel
theorem dX9_mergeKeeping_9 : decode cX9_mergeKeeping 9 = .ok (.invokestatic 54, 3) := by decide +kernel
theorem dX9_mergeKeeping_12 : decode cX9_mergeKeeping 12 = .ok (.aload_n 0, 1) := by decide +kernel
theorem dX9_mergeKeeping_13 : decode cX9_mergeKeeping 13 = .ok (.invokevirtual 58, 3) := by decide +kernel
theorem dX9_mergeKeeping_16 : decode cX9_mergeKeeping 16 = .ok (.aload_n 0, 1) := by decide +kernel
theorem dX9_mergeKeeping_17 : decode cX9_mergeKeeping 17 = .ok (.getfield 10, 3) := by decide +kernel
theorem dX9_mergeKeeping_20 : decode cX9_mergeKeeping 20 = .ok (.iload_n 1, 1) := by decide +kernel
theorem dX9_mergeKeeping_21 : decode cX9_mergeKeeping 21 = .ok (.iload_n 2, 1) := by decide +kernel
theorem dX9_mergeKeeping_22 : decode cX9_mergeKeeping 22 = .ok (.iload_n 3, 1) := by decide +kernel
theorem dX9_mergeKeeping_23 : decode cX9_mergeKeeping 23 = .ok (.invokevirtual 96, 3) := by decide +kernel
theorem dX9_mergeKeeping_26 : decode cX9_mergeKeeping 26 = .ok (.ireturn, 1) := by decide +kernel
def f_X9_mergeKeeping (V : Mem) (a1 : Int32) (a2 : Int32) (a3 : Int32) : Option (Nat × Int32 × Mem) :=
  bd (f_X8_refusalOfKeeping V a1 a2) fun r6 V6 =>
  bw 0 (f_X9_refuse V6 r6) fun V9 =>
  bv (f_X9_remember V9) fun V13 =>
  bd (f_X8_mergeHeads V13 a1 a2 a3) fun r23 V23 =>
  some (0, r23, V23)
theorem cv_X9_mergeKeeping : CalV yX9_mergeKeeping cX9_mergeKeeping 4 (some .int) 3 := ⟨⟨⟨by decide +kernel, by decide +kernel⟩, tw_1_1, tw_4_45, by decide +kernel⟩, tw_4_43, tw_4_44⟩
set_option maxRecDepth 100000 in
set_option maxHeartbeats 4000000 in
theorem m_X9_mergeKeeping (l : Launch) (hT : l.stackTraces = false) (E : En) (ad : Nat → Nat) (V : Mem) (a1 : Int32) (a2 : Int32) (a3 : Int32) (hS : SF E) (k : Nat) (r : Int32) (Vz : Mem) (hf : f_X9_mergeKeeping V a1 a2 a3 = some (k, r, Vz)) : MX l E ad yX9_mergeKeeping cX9_mergeKeeping 4 (some .int) 7 1 6 [.ref (ad 248), .int a1, .int a2, .int a3] V k (some (.int r)) Vz := by
  refine entX (E := E) (ad := ad) (V := V) "LetterRepository" hT (by decide +kernel) rfl (Nat.le_of_ble_eq_true rfl) ?_
  intro p e s m below meth c ls hC hY hI hl
  have hx := hC.1
  have hb := hC.2.1
  have hl : lv_has ls 4 [(0, .ref (ad 248)), (1, .int a1), (2, .int a2), (3, .int a3)] := hl
  unfold f_X9_mergeKeeping at hf
  refine lv_aload_n hx hb dX9_mergeKeeping_0 rfl (lv_at hl 0 rfl) ?_
  refine g_248_store hC hI tw_1_213 dX9_mergeKeeping_1 ?_
  refine lv_iload_n hx hb dX9_mergeKeeping_4 rfl (lv_at hl 1 rfl) ?_
  refine lv_iload_n hx hb dX9_mergeKeeping_5 rfl (lv_at hl 2 rfl) ?_
  obtain ⟨r6, V6, q6, hf⟩ := gbd hf
  refine k_X8_refusalOfKeeping hS hC hI hl.1 q6 tw_4_46 ⟨Nat.le_of_ble_eq_true rfl, Nat.le_of_ble_eq_true rfl⟩ ⟨Nat.le_of_ble_eq_true rfl, Nat.le_of_ble_eq_true rfl⟩ (Nat.le_of_ble_eq_true rfl) dX9_mergeKeeping_6 (fun H locs hI => ?_)
  obtain ⟨q9, V9, e9, hf⟩ := gbw hf
  refine kx_X9_refuse hS hC hY hI hl.1 e9 tw_2_239 ⟨Nat.le_of_ble_eq_true rfl, Nat.le_of_ble_eq_true rfl⟩ ⟨Nat.le_of_ble_eq_true rfl, Nat.le_of_ble_eq_true rfl⟩ ⟨Nat.le_of_ble_eq_true rfl, Nat.le_of_ble_eq_true rfl⟩ (Nat.le_of_ble_eq_true rfl) dX9_mergeKeeping_9 (fun h0 => hx3 ((if_neg h0).symm.trans hf)) (fun h0 H locs hI => ?_)
  have hf := (if_pos h0).symm.trans hf
  refine lv_aload_n hx hb dX9_mergeKeeping_12 rfl (lv_at hl 0 rfl) ?_
  obtain ⟨V13, q13, hf⟩ := gbv hf
  refine k_X9_remember hC hI hl.1 q13 tw_2_5 ⟨Nat.le_of_ble_eq_true rfl, Nat.le_of_ble_eq_true rfl⟩ ⟨Nat.le_of_ble_eq_true rfl, Nat.le_of_ble_eq_true rfl⟩ (Nat.le_of_ble_eq_true rfl) dX9_mergeKeeping_13 (fun H locs hI => ?_)
  refine lv_aload_n hx hb dX9_mergeKeeping_16 rfl (lv_at hl 0 rfl) ?_
  refine g_248_store hC hI tw_1_213 dX9_mergeKeeping_17 ?_
  refine lv_iload_n hx hb dX9_mergeKeeping_20 rfl (lv_at hl 1 rfl) ?_
  refine lv_iload_n hx hb dX9_mergeKeeping_21 rfl (lv_at hl 2 rfl) ?_
  refine lv_iload_n hx hb dX9_mergeKeeping_22 rfl (lv_at hl 3 rfl) ?_
  obtain ⟨r23, V23, q23, hf⟩ := gbd hf
  refine k_X8_mergeHeads hC hI hl.1 q23 tw_4_34 ⟨Nat.le_of_ble_eq_true rfl, Nat.le_of_ble_eq_true rfl⟩ ⟨Nat.le_of_ble_eq_true rfl, Nat.le_of_ble_eq_true rfl⟩ (Nat.le_of_ble_eq_true rfl) dX9_mergeKeeping_23 (fun H locs hI => ?_)
  exact x_iret hC hI hf ⟨Nat.le_of_ble_eq_true rfl, Nat.le_of_ble_eq_true rfl⟩ dX9_mergeKeeping_26
theorem kx_X9_mergeKeeping {p : Program} {l : Launch} {e : Env} {R : Room} {cells slots mc ms : Nat} {s : State} {m : MethodId} {args : Array Value} {below : List Frame} {meth : Method} {c : Code} {H : Heap} {locs : List Loc} {Qc : Array Value → State → Outcome → State → Prop} {E : En} {ad : Nat → Nat} {V : Mem} {ow : String} {b : ByteArray} {n : Nat} {ret : Option FieldType} {pc index : Nat} {ls : Array Slot} {rest : List Value} {a1 : Int32} {a2 : Int32} {a3 : Int32} {k1 k : Nat} {r : Int32} {V1 Vz : Mem} (hS : SF E) (hC : Cx p s m args c meth E ow b n ret) (hY : Cy l c) (hI : In E ad V s H locs) (hsz : ls.size = n) (hf : f_X9_mergeKeeping V a1 a2 a3 = some (k1, r, V1)) (hl : Cond.methodLink ow index yX9_mergeKeeping ∈ TB) (hR : 7 + 1 ≤ R.frames ∧ 8 + (4 + 11) + 40 * 7 ≤ R.locals) (hcs : cells + 1 ≤ R.cells ∧ slots + 6 ≤ R.slots) (hc : cells + 1 ≤ mc ∧ slots + 6 ≤ ms) (hw : (rest.map fun v => v.category).sum ≤ 8) (hdg : decode b pc = .ok (.invokevirtual index, 3)) (hx : k1 ≠ 0 → k1 = k ∧ V1 = Vz) (kk : k1 = 0 → ∀ (H1 : Heap) (locs1 : List Loc), In E ad V1 s H1 locs1 → W p l e R s m args below meth c H1 locs1 (cells + 1) (slots + 6) (vx_MQ below Qc (QX E ad k Vz) args s mc ms (ours E)) (F0 m (pc + 3) ls ((.int r) :: rest))) : W p l e R s m args below meth c H locs cells slots (vx_MQ below Qc (QX E ad k Vz) args s mc ms (ours E)) (F0 m pc ls (.int a3 :: .int a2 :: .int a1 :: .ref (ad 248) :: rest)) :=
  after_callX hC hY hI (xrunV_tb (As := [.int a1, .int a2, .int a3]) (rest := rest) hC hI hsz (m_X9_mergeKeeping l hY.2 E ad V a1 a2 a3 hS k1 r V1 hf) cv_X9_mergeKeeping hl (by decide) (ce_248 _) rfl rfl rfl hR hcs hw hdg) hc hx kk

theorem dX9_pick_0 : decode cX9_pick 0 = .ok (.aload_n 0, 1) := by decide +kernel
theorem dX9_pick_1 : decode cX9_pick 1 = .ok (.getfield 10, 3) := by decide +kernel
theorem dX9_pick_4 : decode cX9_pick 4 = .ok (.iload_n 1, 1) := by decide +kernel
theorem dX9_pick_5 : decode cX9_pick 5 = .ok (.iload_n 2, 1) := by decide +kernel
theorem dX9_pick_6 : decode cX9_pick 6 = .ok (.invokevirtual 103, 3) := by decide +kernel
theorem dX9_pick_9 : decode cX9_pick 9 = .ok (.invokestatic 54, 3) := by decide +kernel
theorem dX9_pick_12 : decode cX9_pick 12 = .ok (.aload_n 0, 1) := by decide +kernel
theorem dX9_pick_13 : decode cX9_pick 13 = .ok (.invokevirtual 58, 3) := by decide +kernel
theorem dX9_pick_16 : decode cX9_pick 16 = .ok (.aload_n 0, 1) := by decide +kernel
theorem dX9_pick_17 : decode cX9_pick 17 = .ok (.getfield 10, 3) := by decide +kernel
theorem dX9_pick_20 : decode cX9_pick 20 = .ok (.iload_n 1, 1) := by decide +kernel
theorem dX9_pick_21 : decode cX9_pick 21 = .ok (.iload_n 2, 1) := by decide +kernel
theorem dX9_pick_22 : decode cX9_pick 22 = .ok (.invokevirtual 106, 3) := by decide +kernel
theorem dX9_pick_25 : decode cX9_pick 25 = .ok (.ireturn, 1) := by decide +kernel
def f_X9_pick (V : Mem) (a1 : Int32) (a2 : Int32) : Option (Nat × Int32 × Mem) :=
  bd (f_X8_refusalOfPick V a1 a2) fun r6 V6 =>
  bw 0 (f_X9_refuse V6 r6) fun V9 =>
  bv (f_X9_remember V9) fun V13 =>
  bd (f_X8_pickChange V13 a1 a2) fun r22 V22 =>
  some (0, r22, V22)
theorem cv_X9_pick : CalV yX9_pick cX9_pick 3 (some .int) 2 := ⟨⟨⟨by decide +kernel, by decide +kernel⟩, tw_1_1, tw_4_53, by decide +kernel⟩, tw_4_51, tw_4_52⟩
set_option maxRecDepth 100000 in
set_option maxHeartbeats 4000000 in
theorem m_X9_pick (l : Launch) (hT : l.stackTraces = false) (E : En) (ad : Nat → Nat) (V : Mem) (a1 : Int32) (a2 : Int32) (hS : SF E) (k : Nat) (r : Int32) (Vz : Mem) (hf : f_X9_pick V a1 a2 = some (k, r, Vz)) : MX l E ad yX9_pick cX9_pick 3 (some .int) 7 1 6 [.ref (ad 248), .int a1, .int a2] V k (some (.int r)) Vz := by
  refine entX (E := E) (ad := ad) (V := V) "LetterRepository" hT (by decide +kernel) rfl (Nat.le_of_ble_eq_true rfl) ?_
  intro p e s m below meth c ls hC hY hI hl
  have hx := hC.1
  have hb := hC.2.1
  have hl : lv_has ls 3 [(0, .ref (ad 248)), (1, .int a1), (2, .int a2)] := hl
  unfold f_X9_pick at hf
  refine lv_aload_n hx hb dX9_pick_0 rfl (lv_at hl 0 rfl) ?_
  refine g_248_store hC hI tw_1_213 dX9_pick_1 ?_
  refine lv_iload_n hx hb dX9_pick_4 rfl (lv_at hl 1 rfl) ?_
  refine lv_iload_n hx hb dX9_pick_5 rfl (lv_at hl 2 rfl) ?_
  obtain ⟨r6, V6, q6, hf⟩ := gbd hf
  refine k_X8_refusalOfPick hS hC hI hl.1 q6 tw_4_54 ⟨Nat.le_of_ble_eq_true rfl, Nat.le_of_ble_eq_true rfl⟩ ⟨Nat.le_of_ble_eq_true rfl, Nat.le_of_ble_eq_true rfl⟩ (Nat.le_of_ble_eq_true rfl) dX9_pick_6 (fun H locs hI => ?_)
  obtain ⟨q9, V9, e9, hf⟩ := gbw hf
  refine kx_X9_refuse hS hC hY hI hl.1 e9 tw_2_239 ⟨Nat.le_of_ble_eq_true rfl, Nat.le_of_ble_eq_true rfl⟩ ⟨Nat.le_of_ble_eq_true rfl, Nat.le_of_ble_eq_true rfl⟩ ⟨Nat.le_of_ble_eq_true rfl, Nat.le_of_ble_eq_true rfl⟩ (Nat.le_of_ble_eq_true rfl) dX9_pick_9 (fun h0 => hx3 ((if_neg h0).symm.trans hf)) (fun h0 H locs hI => ?_)
  have hf := (if_pos h0).symm.trans hf
  refine lv_aload_n hx hb dX9_pick_12 rfl (lv_at hl 0 rfl) ?_
  obtain ⟨V13, q13, hf⟩ := gbv hf
  refine k_X9_remember hC hI hl.1 q13 tw_2_5 ⟨Nat.le_of_ble_eq_true rfl, Nat.le_of_ble_eq_true rfl⟩ ⟨Nat.le_of_ble_eq_true rfl, Nat.le_of_ble_eq_true rfl⟩ (Nat.le_of_ble_eq_true rfl) dX9_pick_13 (fun H locs hI => ?_)
  refine lv_aload_n hx hb dX9_pick_16 rfl (lv_at hl 0 rfl) ?_
  refine g_248_store hC hI tw_1_213 dX9_pick_17 ?_
  refine lv_iload_n hx hb dX9_pick_20 rfl (lv_at hl 1 rfl) ?_
  refine lv_iload_n hx hb dX9_pick_21 rfl (lv_at hl 2 rfl) ?_
  obtain ⟨r22, V22, q22, hf⟩ := gbd hf
  refine k_X8_pickChange hC hI hl.1 q22 tw_4_67 ⟨Nat.le_of_ble_eq_true rfl, Nat.le_of_ble_eq_true rfl⟩ ⟨Nat.le_of_ble_eq_true rfl, Nat.le_of_ble_eq_true rfl⟩ (Nat.le_of_ble_eq_true rfl) dX9_pick_22 (fun H locs hI => ?_)
  exact x_iret hC hI hf ⟨Nat.le_of_ble_eq_true rfl, Nat.le_of_ble_eq_true rfl⟩ dX9_pick_25
theorem kx_X9_pick {p : Program} {l : Launch} {e : Env} {R : Room} {cells slots mc ms : Nat} {s : State} {m : MethodId} {args : Array Value} {below : List Frame} {meth : Method} {c : Code} {H : Heap} {locs : List Loc} {Qc : Array Value → State → Outcome → State → Prop} {E : En} {ad : Nat → Nat} {V : Mem} {ow : String} {b : ByteArray} {n : Nat} {ret : Option FieldType} {pc index : Nat} {ls : Array Slot} {rest : List Value} {a1 : Int32} {a2 : Int32} {k1 k : Nat} {r : Int32} {V1 Vz : Mem} (hS : SF E) (hC : Cx p s m args c meth E ow b n ret) (hY : Cy l c) (hI : In E ad V s H locs) (hsz : ls.size = n) (hf : f_X9_pick V a1 a2 = some (k1, r, V1)) (hl : Cond.methodLink ow index yX9_pick ∈ TB) (hR : 7 + 1 ≤ R.frames ∧ 8 + (3 + 11) + 40 * 7 ≤ R.locals) (hcs : cells + 1 ≤ R.cells ∧ slots + 6 ≤ R.slots) (hc : cells + 1 ≤ mc ∧ slots + 6 ≤ ms) (hw : (rest.map fun v => v.category).sum ≤ 8) (hdg : decode b pc = .ok (.invokevirtual index, 3)) (hx : k1 ≠ 0 → k1 = k ∧ V1 = Vz) (kk : k1 = 0 → ∀ (H1 : Heap) (locs1 : List Loc), In E ad V1 s H1 locs1 → W p l e R s m args below meth c H1 locs1 (cells + 1) (slots + 6) (vx_MQ below Qc (QX E ad k Vz) args s mc ms (ours E)) (F0 m (pc + 3) ls ((.int r) :: rest))) : W p l e R s m args below meth c H locs cells slots (vx_MQ below Qc (QX E ad k Vz) args s mc ms (ours E)) (F0 m pc ls (.int a2 :: .int a1 :: .ref (ad 248) :: rest)) :=
  after_callX hC hY hI (xrunV_tb (As := [.int a1, .int a2]) (rest := rest) hC hI hsz (m_X9_pick l hY.2 E ad V a1 a2 hS k1 r V1 hf) cv_X9_pick hl (by decide) (ce_248 _) rfl rfl rfl hR hcs hw hdg) hc hx kk

theorem dX9_reset_0 : decode cX9_reset 0 = .ok (.aload_n 0, 1) := by decide +kernel
theorem dX9_reset_1 : decode cX9_reset 1 = .ok (.getfield 10, 3) := by decide +kernel
theorem dX9_reset_4 : decode cX9_reset 4 = .ok (.iload_n 1, 1) := by decide +kernel
theorem dX9_reset_5 : decode cX9_reset 5 = .ok (.iload_n 2, 1) := by decide +kernel
theorem dX9_reset_6 : decode cX9_reset 6 = .ok (.invokevirtual 109, 3) := by decide +kernel
theorem dX9_reset_9 : decode cX9_reset 9 = .ok (.invokestatic 54, 3) := by decide +kernel
theorem dX9_reset_12 : decode cX9_reset 12 = .ok (.aload_n 0, 1) := by decide +kernel
theorem dX9_reset_13 : decode cX9_reset 13 = .ok (.invokevirtual 58, 3) := by decide +kernel
theorem dX9_reset_16 : decode cX9_reset 16 = .ok (.aload_n 0, 1) := by decide +kernel
theorem dX9_reset_17 : decode cX9_reset 17 = .ok (.getfield 10, 3) := by decide +kernel
theorem dX9_reset_20 : decode cX9_reset 20 = .ok (.iload_n 1, 1) := by decide +kernel
theorem dX9_reset_21 : decode cX9_reset 21 = .ok (.iload_n 2, 1) := by decide +kernel
theorem dX9_reset_22 : decode cX9_reset 22 = .ok (.invokevirtual 112, 3) := by decide +kernel
theorem dX9_reset_25 : decode cX9_reset 25 = .ok (.ireturn, 1) := by decide +kernel
def f_X9_reset (V : Mem) (a1 : Int32) (a2 : Int32) : Option (Nat × Int32 × Mem) :=
  bd (f_X8_refusalOfReset V a1 a2) fun r6 V6 =>
  bw 0 (f_X9_refuse V6 r6) fun V9 =>
  bv (f_X9_remember V9) fun V13 =>
  bd (f_X8_moveHead V13 a1 a2) fun r22 V22 =>
  some (0, r22, V22)
theorem cv_X9_reset : CalV yX9_reset cX9_reset 3 (some .int) 2 := ⟨⟨⟨by decide +kernel, by decide +kernel⟩, tw_1_1, tw_4_77, by decide +kernel⟩, tw_4_75, tw_4_76⟩
set_option maxRecDepth 100000 in
set_option maxHeartbeats 4000000 in
theorem m_X9_reset (l : Launch) (hT : l.stackTraces = false) (E : En) (ad : Nat → Nat) (V : Mem) (a1 : Int32) (a2 : Int32) (hS : SF E) (k : Nat) (r : Int32) (Vz : Mem) (hf : f_X9_reset V a1 a2 = some (k, r, Vz)) : MX l E ad yX9_reset cX9_reset 3 (some .int) 7 1 6 [.ref (ad 248), .int a1, .int a2] V k (some (.int r)) Vz := by
  refine entX (E := E) (ad := ad) (V := V) "LetterRepository" hT (by decide +kernel) rfl (Nat.le_of_ble_eq_true rfl) ?_
  intro p e s m below meth c ls hC hY hI hl
  have hx := hC.1
  have hb := hC.2.1
  have hl : lv_has ls 3 [(0, .ref (ad 248)), (1, .int a1), (2, .int a2)] := hl
  unfold f_X9_reset at hf
  refine lv_aload_n hx hb dX9_reset_0 rfl (lv_at hl 0 rfl) ?_
  refine g_248_store hC hI tw_1_213 dX9_reset_1 ?_
  refine lv_iload_n hx hb dX9_reset_4 rfl (lv_at hl 1 rfl) ?_
  refine lv_iload_n hx hb dX9_reset_5 rfl (lv_at hl 2 rfl) ?_
  obtain ⟨r6, V6, q6, hf⟩ := gbd hf
  refine k_X8_refusalOfReset hS hC hI hl.1 q6 tw_4_78 ⟨Nat.le_of_ble_eq_true rfl, Nat.le_of_ble_eq_true rfl⟩ ⟨Nat.le_of_ble_eq_true rfl, Nat.le_of_ble_eq_true rfl⟩ (Nat.le_of_ble_eq_true rfl) dX9_reset_6 (fun H locs hI => ?_)
  obtain ⟨q9, V9, e9, hf⟩ := gbw hf
  refine kx_X9_refuse hS hC hY hI hl.1 e9 tw_2_239 ⟨Nat.le_of_ble_eq_true rfl, Nat.le_of_ble_eq_true rfl⟩ ⟨Nat.le_of_ble_eq_true rfl, Nat.le_of_ble_eq_true rfl⟩ ⟨Nat.le_of_ble_eq_true rfl, Nat.le_of_ble_eq_true rfl⟩ (Nat.le_of_ble_eq_true rfl) dX9_reset_9 (fun h0 => hx3 ((if_neg h0).symm.trans hf)) (fun h0 H locs hI => ?_)
  have hf := (if_pos h0).symm.trans hf
  refine lv_aload_n hx hb dX9_reset_12 rfl (lv_at hl 0 rfl) ?_
  obtain ⟨V13, q13, hf⟩ := gbv hf
  refine k_X9_remember hC hI hl.1 q13 tw_2_5 ⟨Nat.le_of_ble_eq_true rfl, Nat.le_of_ble_eq_true rfl⟩ ⟨Nat.le_of_ble_eq_true rfl, Nat.le_of_ble_eq_true rfl⟩ (Nat.le_of_ble_eq_true rfl) dX9_reset_13 (fun H locs hI => ?_)
  refine lv_aload_n hx hb dX9_reset_16 rfl (lv_at hl 0 rfl) ?_
  refine g_248_store hC hI tw_1_213 dX9_reset_17 ?_
  refine lv_iload_n hx hb dX9_reset_20 rfl (lv_at hl 1 rfl) ?_
  refine lv_iload_n hx hb dX9_reset_21 rfl (lv_at hl 2 rfl) ?_
  obtain ⟨r22, V22, q22, hf⟩ := gbd hf
  refine k_X8_moveHead hC hI hl.1 q22 tw_4_82 ⟨Nat.le_of_ble_eq_true rfl, Nat.le_of_ble_eq_true rfl⟩ ⟨Nat.le_of_ble_eq_true rfl, Nat.le_of_ble_eq_true rfl⟩ (Nat.le_of_ble_eq_true rfl) dX9_reset_22 (fun H locs hI => ?_)
  exact x_iret hC hI hf ⟨Nat.le_of_ble_eq_true rfl, Nat.le_of_ble_eq_true rfl⟩ dX9_reset_25
theorem kx_X9_reset {p : Program} {l : Launch} {e : Env} {R : Room} {cells slots mc ms : Nat} {s : State} {m : MethodId} {args : Array Value} {below : List Frame} {meth : Method} {c : Code} {H : Heap} {locs : List Loc} {Qc : Array Value → State → Outcome → State → Prop} {E : En} {ad : Nat → Nat} {V : Mem} {ow : String} {b : ByteArray} {n : Nat} {ret : Option FieldType} {pc index : Nat} {ls : Array Slot} {rest : List Value} {a1 : Int32} {a2 : Int32} {k1 k : Nat} {r : Int32} {V1 Vz : Mem} (hS : SF E) (hC : Cx p s m args c meth E ow b n ret) (hY : Cy l c) (hI : In E ad V s H locs) (hsz : ls.size = n) (hf : f_X9_reset V a1 a2 = some (k1, r, V1)) (hl : Cond.methodLink ow index yX9_reset ∈ TB) (hR : 7 + 1 ≤ R.frames ∧ 8 + (3 + 11) + 40 * 7 ≤ R.locals) (hcs : cells + 1 ≤ R.cells ∧ slots + 6 ≤ R.slots) (hc : cells + 1 ≤ mc ∧ slots + 6 ≤ ms) (hw : (rest.map fun v => v.category).sum ≤ 8) (hdg : decode b pc = .ok (.invokevirtual index, 3)) (hx : k1 ≠ 0 → k1 = k ∧ V1 = Vz) (kk : k1 = 0 → ∀ (H1 : Heap) (locs1 : List Loc), In E ad V1 s H1 locs1 → W p l e R s m args below meth c H1 locs1 (cells + 1) (slots + 6) (vx_MQ below Qc (QX E ad k Vz) args s mc ms (ours E)) (F0 m (pc + 3) ls ((.int r) :: rest))) : W p l e R s m args below meth c H locs cells slots (vx_MQ below Qc (QX E ad k Vz) args s mc ms (ours E)) (F0 m pc ls (.int a2 :: .int a1 :: .ref (ad 248) :: rest)) :=
  after_callX hC hY hI (xrunV_tb (As := [.int a1, .int a2]) (rest := rest) hC hI hsz (m_X9_reset l hY.2 E ad V a1 a2 hS k1 r V1 hf) cv_X9_reset hl (by decide) (ce_248 _) rfl rfl rfl hR hcs hw hdg) hc hx kk

theorem dX9_addTag_0 : decode cX9_addTag 0 = .ok (.aload_n 0, 1) := by decide +kernel
theorem dX9_addTag_1 : decode cX9_addTag 1 = .ok (.getfield 10, 3) := by decide +kernel
theorem dX9_addTag_4 : decode cX9_addTag 4 = .ok (.iload_n 1, 1) := by decide +kernel
theorem dX9_addTag_5 : decode cX9_addTag 5 = .ok (.iload_n 2, 1) := by decide +kernel
theorem dX9_addTag_6 : decode cX9_addTag 6 = .ok (.invokevirtual 115, 3) := by decide +kernel
theorem dX9_addTag_9 : decode cX9_addTag 9 = .ok (.invokestatic 54, 3) := by decide +kernel
theorem dX9_addTag_12 : decode cX9_addTag 12 = .ok (.aload_n 0, 1) := by decide +kernel
theorem dX9_addTag_13 : decode cX9_addTag 13 = .ok (.invokevirtual 58, 3) := by decide +kernel
theorem dX9_addTag_16 : decode cX9_addTag 16 = .ok (.aload_n 0, 1) := by decide +kernel
theorem dX9_addTag_17 : decode cX9_addTag 17 = .ok (.getfield 10, 3) := by decide +kernel
theorem dX9_addTag_20 : decode cX9_addTag 20 = .ok (.iload_n 1, 1) := by decide +kernel
theorem dX9_addTag_21 : decode cX9_addTag 21 = .ok (.iload_n 2, 1) := by decide +kernel
theorem dX9_addTag_22 : decode cX9_addTag 22 = .ok (.invokevirtual 118, 3) := by decide +kernel
theorem dX9_addTag_25 : decode cX9_addTag 25 = .ok (.ireturn, 1) := by decide +kernel
def f_X9_addTag (V : Mem) (a1 : Int32) (a2 : Int32) : Option (Nat × Int32 × Mem) :=
  bd (f_X8_refusalOfTag V a1 a2) fun r6 V6 =>
  bw 0 (f_X9_refuse V6 r6) fun V9 =>
  bv (f_X9_remember V9) fun V13 =>
  bd (f_X8_putTag V13 a1 a2) fun r22 V22 =>
  some (0, r22, V22)
theorem cv_X9_addTag : CalV yX9_addTag cX9_addTag 3 (some .int) 2 := ⟨⟨⟨by decide +kernel, by decide +kernel⟩, tw_1_1, tw_4_92, by decide +kernel⟩, tw_4_90, tw_4_91⟩
set_option maxRecDepth 100000 in
set_option maxHeartbeats 4000000 in
theorem m_X9_addTag (l : Launch) (hT : l.stackTraces = false) (E : En) (ad : Nat → Nat) (V : Mem) (a1 : Int32) (a2 : Int32) (hS : SF E) (k : Nat) (r : Int32) (Vz : Mem) (hf : f_X9_addTag V a1 a2 = some (k, r, Vz)) : MX l E ad yX9_addTag cX9_addTag 3 (some .int) 7 1 6 [.ref (ad 248), .int a1, .int a2] V k (some (.int r)) Vz := by
  refine entX (E := E) (ad := ad) (V := V) "LetterRepository" hT (by decide +kernel) rfl (Nat.le_of_ble_eq_true rfl) ?_
  intro p e s m below meth c ls hC hY hI hl
  have hx := hC.1
  have hb := hC.2.1
  have hl : lv_has ls 3 [(0, .ref (ad 248)), (1, .int a1), (2, .int a2)] := hl
  unfold f_X9_addTag at hf
  refine lv_aload_n hx hb dX9_addTag_0 rfl (lv_at hl 0 rfl) ?_
  refine g_248_store hC hI tw_1_213 dX9_addTag_1 ?_
  refine lv_iload_n hx hb dX9_addTag_4 rfl (lv_at hl 1 rfl) ?_
  refine lv_iload_n hx hb dX9_addTag_5 rfl (lv_at hl 2 rfl) ?_
  obtain ⟨r6, V6, q6, hf⟩ := gbd hf
  refine k_X8_refusalOfTag hS hC hI hl.1 q6 tw_4_93 ⟨Nat.le_of_ble_eq_true rfl, Nat.le_of_ble_eq_true rfl⟩ ⟨Nat.le_of_ble_eq_true rfl, Nat.le_of_ble_eq_true rfl⟩ (Nat.le_of_ble_eq_true rfl) dX9_addTag_6 (fun H locs hI => ?_)
  obtain ⟨q9, V9, e9, hf⟩ := gbw hf
  refine kx_X9_refuse hS hC hY hI hl.1 e9 tw_2_239 ⟨Nat.le_of_ble_eq_true rfl, Nat.le_of_ble_eq_true rfl⟩ ⟨Nat.le_of_ble_eq_true rfl, Nat.le_of_ble_eq_true rfl⟩ ⟨Nat.le_of_ble_eq_true rfl, Nat.le_of_ble_eq_true rfl⟩ (Nat.le_of_ble_eq_true rfl) dX9_addTag_9 (fun h0 => hx3 ((if_neg h0).symm.trans hf)) (fun h0 H locs hI => ?_)
  have hf := (if_pos h0).symm.trans hf
  refine lv_aload_n hx hb dX9_addTag_12 rfl (lv_at hl 0 rfl) ?_
  obtain ⟨V13, q13, hf⟩ := gbv hf
  refine k_X9_remember hC hI hl.1 q13 tw_2_5 ⟨Nat.le_of_ble_eq_true rfl, Nat.le_of_ble_eq_true rfl⟩ ⟨Nat.le_of_ble_eq_true rfl, Nat.le_of_ble_eq_true rfl⟩ (Nat.le_of_ble_eq_true rfl) dX9_addTag_13 (fun H locs hI => ?_)
  refine lv_aload_n hx hb dX9_addTag_16 rfl (lv_at hl 0 rfl) ?_
  refine g_248_store hC hI tw_1_213 dX9_addTag_17 ?_
  refine lv_iload_n hx hb dX9_addTag_20 rfl (lv_at hl 1 rfl) ?_
  refine lv_iload_n hx hb dX9_addTag_21 rfl (lv_at hl 2 rfl) ?_
  obtain ⟨r22, V22, q22, hf⟩ := gbd hf
  refine k_X8_putTag hC hI hl.1 q22 tw_4_100 ⟨Nat.le_of_ble_eq_true rfl, Nat.le_of_ble_eq_true rfl⟩ ⟨Nat.le_of_ble_eq_true rfl, Nat.le_of_ble_eq_true rfl⟩ (Nat.le_of_ble_eq_true rfl) dX9_addTag_22 (fun H locs hI => ?_)
  exact x_iret hC hI hf ⟨Nat.le_of_ble_eq_true rfl, Nat.le_of_ble_eq_true rfl⟩ dX9_addTag_25
theorem kx_X9_addTag {p : Program} {l : Launch} {e : Env} {R : Room} {cells slots mc ms : Nat} {s : State} {m : MethodId} {args : Array Value} {below : List Frame} {meth : Method} {c : Code} {H : Heap} {locs : List Loc} {Qc : Array Value → State → Outcome → State → Prop} {E : En} {ad : Nat → Nat} {V : Mem} {ow : String} {b : ByteArray} {n : Nat} {ret : Option FieldType} {pc index : Nat} {ls : Array Slot} {rest : List Value} {a1 : Int32} {a2 : Int32} {k1 k : Nat} {r : Int32} {V1 Vz : Mem} (hS : SF E) (hC : Cx p s m args c meth E ow b n ret) (hY : Cy l c) (hI : In E ad V s H locs) (hsz : ls.size = n) (hf : f_X9_addTag V a1 a2 = some (k1, r, V1)) (hl : Cond.methodLink ow index yX9_addTag ∈ TB) (hR : 7 + 1 ≤ R.frames ∧ 8 + (3 + 11) + 40 * 7 ≤ R.locals) (hcs : cells + 1 ≤ R.cells ∧ slots + 6 ≤ R.slots) (hc : cells + 1 ≤ mc ∧ slots + 6 ≤ ms) (hw : (rest.map fun v => v.category).sum ≤ 8) (hdg : decode b pc = .ok (.invokevirtual index, 3)) (hx : k1 ≠ 0 → k1 = k ∧ V1 = Vz) (kk : k1 = 0 → ∀ (H1 : Heap) (locs1 : List Loc), In E ad V1 s H1 locs1 → W p l e R s m args below meth c H1 locs1 (cells + 1) (slots + 6) (vx_MQ below Qc (QX E ad k Vz) args s mc ms (ours E)) (F0 m (pc + 3) ls ((.int r) :: rest))) : W p l e R s m args below meth c H locs cells slots (vx_MQ below Qc (QX E ad k Vz) args s mc ms (ours E)) (F0 m pc ls (.int a2 :: .int a1 :: .ref (ad 248) :: rest)) :=
  after_callX hC hY hI (xrunV_tb (As := [.int a1, .int a2]) (rest := rest) hC hI hsz (m_X9_addTag l hY.2 E ad V a1 a2 hS k1 r V1 hf) cv_X9_addTag hl (by decide) (ce_248 _) rfl rfl rfl hR hcs hw hdg) hc hx kk

theorem dX9_removeTag_0 : decode cX9_removeTag 0 = .ok (.aload_n 0, 1) := by decide +kernel
theorem dX9_removeTag_1 : decode cX9_removeTag 1 = .ok (.getfield 10, 3) := by decide +kernel
theorem dX9_removeTag_4 : decode cX9_removeTag 4 = .ok (.iload_n 1, 1) := by decide +kernel
theorem dX9_removeTag_5 : decode cX9_removeTag 5 = .ok (.invokevirtual 121, 3) := by decide +kernel
theorem dX9_removeTag_8 : decode cX9_removeTag 8 = .ok (.invokestatic 54, 3) := by decide +kernel
theorem dX9_removeTag_11 : decode cX9_removeTag 11 = .ok (.aload_n 0, 1) := by decide +kernel
theorem dX9_removeTag_12 : decode cX9_removeTag 12 = .ok (.invokevirtual 58, 3) := by decide +kernel
theorem dX9_removeTag_15 : decode cX9_removeTag 15 = .ok (.aload_n 0, 1) := by decide +kernel
theorem dX9_removeTag_16 : decode cX9_removeTag 16 = .ok (.getfield 10, 3) := by decide +kernel
theorem dX9_removeTag_19 : decode cX9_removeTag 19 = .ok (.iload_n 1, 1) := by decide +kernel
theorem dX9_removeTag_20 : decode cX9_removeTag 20 = .ok (.invokevirtual 124, 3) := by decide +kernel
theorem dX9_removeTag_23 : decode cX9_removeTag 23 = .ok (.ireturn, 1) := by decide +kernel
def f_X9_removeTag (V : Mem) (a1 : Int32) : Option (Nat × Int32 × Mem) :=
  bd (f_X8_refusalOfUntag V a1) fun r5 V5 =>
  bw 0 (f_X9_refuse V5 r5) fun V8 =>
  bv (f_X9_remember V8) fun V12 =>
  bd (f_X8_takeTag V12 a1) fun r20 V20 =>
  some (0, r20, V20)
theorem cv_X9_removeTag : CalV yX9_removeTag cX9_removeTag 2 (some .int) 1 := ⟨⟨⟨by decide +kernel, by decide +kernel⟩, tw_1_1, tw_4_111, by decide +kernel⟩, tw_4_109, tw_4_110⟩
set_option maxRecDepth 100000 in
set_option maxHeartbeats 4000000 in
theorem m_X9_removeTag (l : Launch) (hT : l.stackTraces = false) (E : En) (ad : Nat → Nat) (V : Mem) (a1 : Int32) (hS : SF E) (k : Nat) (r : Int32) (Vz : Mem) (hf : f_X9_removeTag V a1 = some (k, r, Vz)) : MX l E ad yX9_removeTag cX9_removeTag 2 (some .int) 7 1 6 [.ref (ad 248), .int a1] V k (some (.int r)) Vz := by
  refine entX (E := E) (ad := ad) (V := V) "LetterRepository" hT (by decide +kernel) rfl (Nat.le_of_ble_eq_true rfl) ?_
  intro p e s m below meth c ls hC hY hI hl
  have hx := hC.1
  have hb := hC.2.1
  have hl : lv_has ls 2 [(0, .ref (ad 248)), (1, .int a1)] := hl
  unfold f_X9_removeTag at hf
  refine lv_aload_n hx hb dX9_removeTag_0 rfl (lv_at hl 0 rfl) ?_
  refine g_248_store hC hI tw_1_213 dX9_removeTag_1 ?_
  refine lv_iload_n hx hb dX9_removeTag_4 rfl (lv_at hl 1 rfl) ?_
  obtain ⟨r5, V5, q5, hf⟩ := gbd hf
  refine k_X8_refusalOfUntag hS hC hI hl.1 q5 tw_4_112 ⟨Nat.le_of_ble_eq_true rfl, Nat.le_of_ble_eq_true rfl⟩ ⟨Nat.le_of_ble_eq_true rfl, Nat.le_of_ble_eq_true rfl⟩ (Nat.le_of_ble_eq_true rfl) dX9_removeTag_5 (fun H locs hI => ?_)
  obtain ⟨q8, V8, e8, hf⟩ := gbw hf
  refine kx_X9_refuse hS hC hY hI hl.1 e8 tw_2_239 ⟨Nat.le_of_ble_eq_true rfl, Nat.le_of_ble_eq_true rfl⟩ ⟨Nat.le_of_ble_eq_true rfl, Nat.le_of_ble_eq_true rfl⟩ ⟨Nat.le_of_ble_eq_true rfl, Nat.le_of_ble_eq_true rfl⟩ (Nat.le_of_ble_eq_true rfl) dX9_removeTag_8 (fun h0 => hx3 ((if_neg h0).symm.trans hf)) (fun h0 H locs hI => ?_)
  have hf := (if_pos h0).symm.trans hf
  refine lv_aload_n hx hb dX9_removeTag_11 rfl (lv_at hl 0 rfl) ?_
  obtain ⟨V12, q12, hf⟩ := gbv hf
  refine k_X9_remember hC hI hl.1 q12 tw_2_5 ⟨Nat.le_of_ble_eq_true rfl, Nat.le_of_ble_eq_true rfl⟩ ⟨Nat.le_of_ble_eq_true rfl, Nat.le_of_ble_eq_true rfl⟩ (Nat.le_of_ble_eq_true rfl) dX9_removeTag_12 (fun H locs hI => ?_)
  refine lv_aload_n hx hb dX9_removeTag_15 rfl (lv_at hl 0 rfl) ?_
  refine g_248_store hC hI tw_1_213 dX9_removeTag_16 ?_
  refine lv_iload_n hx hb dX9_removeTag_19 rfl (lv_at hl 1 rfl) ?_
  obtain ⟨r20, V20, q20, hf⟩ := gbd hf
  refine k_X8_takeTag hC hI hl.1 q20 tw_4_116 ⟨Nat.le_of_ble_eq_true rfl, Nat.le_of_ble_eq_true rfl⟩ ⟨Nat.le_of_ble_eq_true rfl, Nat.le_of_ble_eq_true rfl⟩ (Nat.le_of_ble_eq_true rfl) dX9_removeTag_20 (fun H locs hI => ?_)
  exact x_iret hC hI hf ⟨Nat.le_of_ble_eq_true rfl, Nat.le_of_ble_eq_true rfl⟩ dX9_removeTag_23
theorem kx_X9_removeTag {p : Program} {l : Launch} {e : Env} {R : Room} {cells slots mc ms : Nat} {s : State} {m : MethodId} {args : Array Value} {below : List Frame} {meth : Method} {c : Code} {H : Heap} {locs : List Loc} {Qc : Array Value → State → Outcome → State → Prop} {E : En} {ad : Nat → Nat} {V : Mem} {ow : String} {b : ByteArray} {n : Nat} {ret : Option FieldType} {pc index : Nat} {ls : Array Slot} {rest : List Value} {a1 : Int32} {k1 k : Nat} {r : Int32} {V1 Vz : Mem} (hS : SF E) (hC : Cx p s m args c meth E ow b n ret) (hY : Cy l c) (hI : In E ad V s H locs) (hsz : ls.size = n) (hf : f_X9_removeTag V a1 = some (k1, r, V1)) (hl : Cond.methodLink ow index yX9_removeTag ∈ TB) (hR : 7 + 1 ≤ R.frames ∧ 8 + (2 + 11) + 40 * 7 ≤ R.locals) (hcs : cells + 1 ≤ R.cells ∧ slots + 6 ≤ R.slots) (hc : cells + 1 ≤ mc ∧ slots + 6 ≤ ms) (hw : (rest.map fun v => v.category).sum ≤ 8) (hdg : decode b pc = .ok (.invokevirtual index, 3)) (hx : k1 ≠ 0 → k1 = k ∧ V1 = Vz) (kk : k1 = 0 → ∀ (H1 : Heap) (locs1 : List Loc), In E ad V1 s H1 locs1 → W p l e R s m args below meth c H1 locs1 (cells + 1) (slots + 6) (vx_MQ below Qc (QX E ad k Vz) args s mc ms (ours E)) (F0 m (pc + 3) ls ((.int r) :: rest))) : W p l e R s m args below meth c H locs cells slots (vx_MQ below Qc (QX E ad k Vz) args s mc ms (ours E)) (F0 m pc ls (.int a1 :: .ref (ad 248) :: rest)) :=
  after_callX hC hY hI (xrunV_tb (As := [.int a1]) (rest := rest) hC hI hsz (m_X9_removeTag l hY.2 E ad V a1 hS k1 r V1 hf) cv_X9_removeTag hl (by decide) (ce_248 _) rfl rfl rfl hR hcs hw hdg) hc hx kk

theorem dX9_archive_0 : decode cX9_archive 0 = .ok (.aload_n 0, 1) := by decide +kernel
theorem dX9_archive_1 : decode cX9_archive 1 = .ok (.invokevirtual 58, 3) := by decide +kernel
theorem dX9_archive_4 : decode cX9_archive 4 = .ok (.aload_n 0, 1) := by decide +kernel
theorem dX9_archive_5 : decode cX9_archive 5 = .ok (.getfield 10, 3) := by decide +kernel
theorem dX9_archive_8 : decode cX9_archive 8 = .ok (.invokevirtual 127, 3) := by decide +kernel
theorem dX9_archive_11 : decode cX9_archive 11 = .ok (.ireturn, 1) := by decide +kernel
def f_X9_archive (V : Mem) : Option (Int32 × Mem) :=
  bv (f_X9_remember V) fun V1 =>
  bd (f_X8_archiveUnused V1) fun r8 V8 =>
  some (r8, V8)
theorem cv_X9_archive : CalV yX9_archive cX9_archive 1 (some .int) 0 := ⟨⟨⟨by decide +kernel, by decide +kernel⟩, tw_1_1, tw_2_4, by decide +kernel⟩, tw_2_2, tw_2_3⟩
set_option maxRecDepth 100000 in
set_option maxHeartbeats 4000000 in
theorem m_X9_archive (l : Launch) (E : En) (ad : Nat → Nat) (V : Mem) (r : Int32) (Vz : Mem) (hf : f_X9_archive V = some (r, Vz)) : MR l E ad yX9_archive cX9_archive 1 (some .int) 32 [.ref (ad 248)] V (some (.int r)) Vz := by
  refine ent (E := E) (ad := ad) (V := V) "LetterRepository" (by decide +kernel) rfl (Nat.le_of_ble_eq_true rfl) ?_
  intro p e s m below meth c ls hC hI hl
  have hx := hC.1
  have hb := hC.2.1
  have hl : lv_has ls 1 [(0, .ref (ad 248))] := hl
  unfold f_X9_archive at hf
  refine lv_aload_n hx hb dX9_archive_0 rfl (lv_at hl 0 rfl) ?_
  obtain ⟨V1, q1, hf⟩ := gbv hf
  refine k_X9_remember hC hI hl.1 q1 tw_2_5 ⟨Nat.le_of_ble_eq_true rfl, Nat.le_of_ble_eq_true rfl⟩ ⟨Nat.le_refl _, Nat.le_refl _⟩ (Nat.le_of_ble_eq_true rfl) dX9_archive_1 (fun H locs hI => ?_)
  refine lv_aload_n hx hb dX9_archive_4 rfl (lv_at hl 0 rfl) ?_
  refine g_248_store hC hI tw_1_213 dX9_archive_5 ?_
  obtain ⟨r8, V8, q8, hf⟩ := gbd hf
  refine k_X8_archiveUnused hC hI hl.1 q8 tw_2_41 ⟨Nat.le_of_ble_eq_true rfl, Nat.le_of_ble_eq_true rfl⟩ ⟨Nat.le_refl _, Nat.le_refl _⟩ (Nat.le_of_ble_eq_true rfl) dX9_archive_8 (fun H locs hI => ?_)
  exact r_iret2 hC hI hf dX9_archive_11
theorem k_X9_archive {p : Program} {l : Launch} {e : Env} {R : Room} {cells slots : Nat} {s : State} {m : MethodId} {args : Array Value} {below : List Frame} {meth : Method} {c : Code} {H : Heap} {locs : List Loc} {Q : State → Prop} {E : En} {ad : Nat → Nat} {V : Mem} {ow : String} {b : ByteArray} {n : Nat} {ret : Option FieldType} {pc index : Nat} {ls : Array Slot} {rest : List Value} {r : Int32} {V1 : Mem} (hC : Cx p s m args c meth E ow b n ret) (hI : In E ad V s H locs) (hsz : ls.size = n) (hf : f_X9_archive V = some (r, V1)) (hl : Cond.methodLink ow index yX9_archive ∈ TB) (hR : 32 + 1 ≤ R.frames ∧ 8 + (1 + 11) + 40 * 32 ≤ R.locals) (hcs : cells ≤ R.cells ∧ slots ≤ R.slots) (hw : (rest.map fun v => v.category).sum ≤ 8) (hdg : decode b pc = .ok (.invokevirtual index, 3)) (kk : ∀ (H1 : Heap) (locs1 : List Loc), In E ad V1 s H1 locs1 → W p l e R s m args below meth c H1 locs1 cells slots Q (F0 m (pc + 3) ls ((.int r) :: rest))) : W p l e R s m args below meth c H locs cells slots Q (F0 m pc ls (.ref (ad 248) :: rest)) :=
  r_calV (As := []) (rest := rest) hC hI hsz (m_X9_archive l E ad V r _ hf) cv_X9_archive hl (by decide) (ce_248 _) rfl rfl rfl hR hcs hw hdg kk

theorem dX9_revisionCount_0 : decode cX9_revisionCount 0 = .ok (.aload_n 0, 1) := by decide +kernel
theorem dX9_revisionCount_1 : decode cX9_revisionCount 1 = .ok (.getfield 10, 3) := by decide +kernel
theorem dX9_revisionCount_4 : decode cX9_revisionCount 4 = .ok (.getfield 131, 3) := by decide +kernel
theorem dX9_revisionCount_7 : decode cX9_revisionCount 7 = .ok (.getfield 135, 3) := by decide +kernel
theorem dX9_revisionCount_10 : decode cX9_revisionCount 10 = .ok (.ireturn, 1) := by decide +kernel
def f_X9_revisionCount (V : Mem) : Option (Int32 × Mem) :=
  some ((V 1 1), V)
theorem cv_X9_revisionCount : CalV yX9_revisionCount cX9_revisionCount 1 (some .int) 0 := ⟨⟨⟨by decide +kernel, by decide +kernel⟩, tw_1_1, tw_2_93, by decide +kernel⟩, tw_2_91, tw_2_92⟩
set_option maxRecDepth 100000 in
set_option maxHeartbeats 4000000 in
theorem m_X9_revisionCount (l : Launch) (E : En) (ad : Nat → Nat) (V : Mem) (r : Int32) (Vz : Mem) (hf : f_X9_revisionCount V = some (r, Vz)) : MR l E ad yX9_revisionCount cX9_revisionCount 1 (some .int) 1 [.ref (ad 248)] V (some (.int r)) Vz := by
  refine ent (E := E) (ad := ad) (V := V) "LetterRepository" (by decide +kernel) rfl (Nat.le_of_ble_eq_true rfl) ?_
  intro p e s m below meth c ls hC hI hl
  have hx := hC.1
  have hb := hC.2.1
  have hl : lv_has ls 1 [(0, .ref (ad 248))] := hl
  unfold f_X9_revisionCount at hf
  refine lv_aload_n hx hb dX9_revisionCount_0 rfl (lv_at hl 0 rfl) ?_
  refine g_248_store hC hI tw_1_213 dX9_revisionCount_1 ?_
  refine gN_0_revisions hC hI tw_1_100 dX9_revisionCount_4 ?_
  refine gN_1_count hC hI tw_1_78 dX9_revisionCount_7 ?_
  exact r_iret2 hC hI hf dX9_revisionCount_10
theorem k_X9_revisionCount {p : Program} {l : Launch} {e : Env} {R : Room} {cells slots : Nat} {s : State} {m : MethodId} {args : Array Value} {below : List Frame} {meth : Method} {c : Code} {H : Heap} {locs : List Loc} {Q : State → Prop} {E : En} {ad : Nat → Nat} {V : Mem} {ow : String} {b : ByteArray} {n : Nat} {ret : Option FieldType} {pc index : Nat} {ls : Array Slot} {rest : List Value} {r : Int32} {V1 : Mem} (hC : Cx p s m args c meth E ow b n ret) (hI : In E ad V s H locs) (hsz : ls.size = n) (hf : f_X9_revisionCount V = some (r, V1)) (hl : Cond.methodLink ow index yX9_revisionCount ∈ TB) (hR : 1 + 1 ≤ R.frames ∧ 8 + (1 + 11) + 40 * 1 ≤ R.locals) (hcs : cells ≤ R.cells ∧ slots ≤ R.slots) (hw : (rest.map fun v => v.category).sum ≤ 8) (hdg : decode b pc = .ok (.invokevirtual index, 3)) (kk : ∀ (H1 : Heap) (locs1 : List Loc), In E ad V1 s H1 locs1 → W p l e R s m args below meth c H1 locs1 cells slots Q (F0 m (pc + 3) ls ((.int r) :: rest))) : W p l e R s m args below meth c H locs cells slots Q (F0 m pc ls (.ref (ad 248) :: rest)) :=
  r_calV (As := []) (rest := rest) hC hI hsz (m_X9_revisionCount l E ad V r _ hf) cv_X9_revisionCount hl (by decide) (ce_248 _) rfl rfl rfl hR hcs hw hdg kk

theorem dX9_requireRevision_0 : decode cX9_requireRevision 0 = .ok (.aload_n 0, 1) := by decide +kernel
theorem dX9_requireRevision_1 : decode cX9_requireRevision 1 = .ok (.getfield 10, 3) := by decide +kernel
theorem dX9_requireRevision_4 : decode cX9_requireRevision 4 = .ok (.getfield 131, 3) := by decide +kernel
theorem dX9_requireRevision_7 : decode cX9_requireRevision 7 = .ok (.iload_n 1, 1) := by decide +kernel
theorem dX9_requireRevision_8 : decode cX9_requireRevision 8 = .ok (.invokevirtual 420, 3) := by decide +kernel
theorem dX9_requireRevision_11 : decode cX9_requireRevision 11 = .ok (.ifCond .ne 14, 3) := by decide +kernel
theorem dX9_requireRevision_14 : decode cX9_requireRevision 14 = .ok (.new 253, 3) := by decide +kernel
theorem dX9_requireRevision_17 : decode cX9_requireRevision 17 = .ok (.dup, 1) := by decide +kernel
theorem dX9_requireRevision_18 : decode cX9_requireRevision 18 = .ok (.ldc_w 423, 3) := by decide +kernel
theorem dX9_requireRevision_21 : decode cX9_requireRevision 21 = .ok (.invokespecial 257, 3) := by decide +kernel
theorem dX9_requireRevision_24 : decode cX9_requireRevision 24 = .ok (.athrow, 1) := by decide +kernel
theorem dX9_requireRevision_25 : decode cX9_requireRevision 25 = .ok (.return_, 1) := by decide +kernel
def f_X9_requireRevision (V : Mem) (a1 : Int32) : Option (Nat × Mem) :=
  bd (f_X6_has V a1) fun r8 V8 =>
  if r8 = 0 then
    some (3, V8)
  else
    some (0, V8)
theorem cv_X9_requireRevision : CalV yX9_requireRevision cX9_requireRevision 2 none 1 := ⟨⟨⟨by decide +kernel, by decide +kernel⟩, tw_1_1, tw_4_130, by decide +kernel⟩, tw_4_129, tp_8⟩
set_option maxRecDepth 100000 in
set_option maxHeartbeats 4000000 in
theorem m_X9_requireRevision (l : Launch) (hT : l.stackTraces = false) (E : En) (ad : Nat → Nat) (V : Mem) (a1 : Int32) (hS : SF E) (k : Nat) (Vz : Mem) (hf : f_X9_requireRevision V a1 = some (k, Vz)) : MX l E ad yX9_requireRevision cX9_requireRevision 2 none 6 1 6 [.ref (ad 248), .int a1] V k none Vz := by
  refine entX (E := E) (ad := ad) (V := V) "LetterRepository" hT (by decide +kernel) rfl (Nat.le_of_ble_eq_true rfl) ?_
  intro p e s m below meth c ls hC hY hI hl
  have hx := hC.1
  have hb := hC.2.1
  have hl : lv_has ls 2 [(0, .ref (ad 248)), (1, .int a1)] := hl
  unfold f_X9_requireRevision at hf
  refine lv_aload_n hx hb dX9_requireRevision_0 rfl (lv_at hl 0 rfl) ?_
  refine g_248_store hC hI tw_1_213 dX9_requireRevision_1 ?_
  refine gN_0_revisions hC hI tw_1_100 dX9_requireRevision_4 ?_
  refine lv_iload_n hx hb dX9_requireRevision_7 rfl (lv_at hl 1 rfl) ?_
  obtain ⟨r8, V8, q8, hf⟩ := gbd hf
  refine k_X6_has hC hI hl.1 q8 tw_4_131 ⟨Nat.le_of_ble_eq_true rfl, Nat.le_of_ble_eq_true rfl⟩ ⟨Nat.le_of_ble_eq_true rfl, Nat.le_of_ble_eq_true rfl⟩ (Nat.le_of_ble_eq_true rfl) dX9_requireRevision_8 (fun H locs hI => ?_)
  refine lv_if_ne (tgt := 25) hx hb dX9_requireRevision_11 (by decide) (fun c11 => ?_) (fun c11 => ?_)
  · have hf := gf hf c11
    exact x_vret hC hI hf ⟨Nat.le_of_ble_eq_true rfl, Nat.le_of_ble_eq_true rfl⟩ dX9_requireRevision_25
  · have hf := gt hf c11
    exact x_thr3w hS hC hY hI hl.1 (List.Mem.tail _ (List.Mem.tail _ (List.Mem.tail _ (List.Mem.tail _ (List.Mem.tail _ (List.Mem.tail _ (List.Mem.tail _ (List.Mem.tail _ (List.Mem.tail _ (List.Mem.tail _ (List.Mem.tail _ (List.Mem.tail _ (List.Mem.tail _ (List.Mem.tail _ (List.Mem.tail _ (List.Mem.head _)))))))))))))))) (hx2 hf) ⟨Nat.le_of_ble_eq_true rfl, Nat.le_of_ble_eq_true rfl, Nat.le_of_ble_eq_true rfl, Nat.le_of_ble_eq_true rfl⟩ ⟨Nat.le_of_ble_eq_true rfl, Nat.le_of_ble_eq_true rfl⟩ dX9_requireRevision_14 dX9_requireRevision_17 dX9_requireRevision_18 dX9_requireRevision_21 dX9_requireRevision_24
theorem kx_X9_requireRevision {p : Program} {l : Launch} {e : Env} {R : Room} {cells slots mc ms : Nat} {s : State} {m : MethodId} {args : Array Value} {below : List Frame} {meth : Method} {c : Code} {H : Heap} {locs : List Loc} {Qc : Array Value → State → Outcome → State → Prop} {E : En} {ad : Nat → Nat} {V : Mem} {ow : String} {b : ByteArray} {n : Nat} {ret : Option FieldType} {pc index : Nat} {ls : Array Slot} {rest : List Value} {a1 : Int32} {k1 k : Nat} {V1 Vz : Mem} (hS : SF E) (hC : Cx p s m args c meth E ow b n ret) (hY : Cy l c) (hI : In E ad V s H locs) (hsz : ls.size = n) (hf : f_X9_requireRevision V a1 = some (k1, V1)) (hl : Cond.methodLink ow index yX9_requireRevision ∈ TB) (hR : 6 + 1 ≤ R.frames ∧ 8 + (2 + 11) + 40 * 6 ≤ R.locals) (hcs : cells + 1 ≤ R.cells ∧ slots + 6 ≤ R.slots) (hc : cells + 1 ≤ mc ∧ slots + 6 ≤ ms) (hw : (rest.map fun v => v.category).sum ≤ 8) (hdg : decode b pc = .ok (.invokevirtual index, 3)) (hx : k1 ≠ 0 → k1 = k ∧ V1 = Vz) (kk : k1 = 0 → ∀ (H1 : Heap) (locs1 : List Loc), In E ad V1 s H1 locs1 → W p l e R s m args below meth c H1 locs1 (cells + 1) (slots + 6) (vx_MQ below Qc (QX E ad k Vz) args s mc ms (ours E)) (F0 m (pc + 3) ls (rest))) : W p l e R s m args below meth c H locs cells slots (vx_MQ below Qc (QX E ad k Vz) args s mc ms (ours E)) (F0 m pc ls (.int a1 :: .ref (ad 248) :: rest)) :=
  after_callX hC hY hI (xrunV_tb (As := [.int a1]) (rest := rest) hC hI hsz (m_X9_requireRevision l hY.2 E ad V a1 hS k1 V1 hf) cv_X9_requireRevision hl (by decide) (ce_248 _) rfl rfl rfl hR hcs hw hdg) hc hx kk

theorem dX9_isArchived_0 : decode cX9_isArchived 0 = .ok (.aload_n 0, 1) := by decide +kernel
theorem dX9_isArchived_1 : decode cX9_isArchived 1 = .ok (.iload_n 1, 1) := by decide +kernel
theorem dX9_isArchived_2 : decode cX9_isArchived 2 = .ok (.invokevirtual 140, 3) := by decide +kernel
theorem dX9_isArchived_5 : decode cX9_isArchived 5 = .ok (.aload_n 0, 1) := by decide +kernel
theorem dX9_isArchived_6 : decode cX9_isArchived 6 = .ok (.getfield 10, 3) := by decide +kernel
theorem dX9_isArchived_9 : decode cX9_isArchived 9 = .ok (.getfield 131, 3) := by decide +kernel
theorem dX9_isArchived_12 : decode cX9_isArchived 12 = .ok (.iload_n 1, 1) := by decide +kernel
theorem dX9_isArchived_13 : decode cX9_isArchived 13 = .ok (.invokevirtual 144, 3) := by decide +kernel
theorem dX9_isArchived_16 : decode cX9_isArchived 16 = .ok (.ireturn, 1) := by decide +kernel
def f_X9_isArchived (V : Mem) (a1 : Int32) : Option (Nat × Int32 × Mem) :=
  bw 0 (f_X9_requireRevision V a1) fun V2 =>
  bd (f_X6_inArchive V2 a1) fun r13 V13 =>
  if r13 = 0 ∨ r13 = 1 then
    some (0, r13, V13)
  else none
theorem cv_X9_isArchived : CalV yX9_isArchived cX9_isArchived 2 (some .boolean) 1 := ⟨⟨⟨by decide +kernel, by decide +kernel⟩, tw_1_1, tw_4_126, by decide +kernel⟩, tw_4_124, tw_4_125⟩
set_option maxRecDepth 100000 in
set_option maxHeartbeats 4000000 in
theorem m_X9_isArchived (l : Launch) (hT : l.stackTraces = false) (E : En) (ad : Nat → Nat) (V : Mem) (a1 : Int32) (hS : SF E) (k : Nat) (r : Int32) (Vz : Mem) (hf : f_X9_isArchived V a1 = some (k, r, Vz)) : MX l E ad yX9_isArchived cX9_isArchived 2 (some .boolean) 7 1 6 [.ref (ad 248), .int a1] V k (some (.int r)) Vz := by
  refine entX (E := E) (ad := ad) (V := V) "LetterRepository" hT (by decide +kernel) rfl (Nat.le_of_ble_eq_true rfl) ?_
  intro p e s m below meth c ls hC hY hI hl
  have hx := hC.1
  have hb := hC.2.1
  have hl : lv_has ls 2 [(0, .ref (ad 248)), (1, .int a1)] := hl
  unfold f_X9_isArchived at hf
  refine lv_aload_n hx hb dX9_isArchived_0 rfl (lv_at hl 0 rfl) ?_
  refine lv_iload_n hx hb dX9_isArchived_1 rfl (lv_at hl 1 rfl) ?_
  obtain ⟨q2, V2, e2, hf⟩ := gbw hf
  refine kx_X9_requireRevision hS hC hY hI hl.1 e2 tw_4_127 ⟨Nat.le_of_ble_eq_true rfl, Nat.le_of_ble_eq_true rfl⟩ ⟨Nat.le_of_ble_eq_true rfl, Nat.le_of_ble_eq_true rfl⟩ ⟨Nat.le_of_ble_eq_true rfl, Nat.le_of_ble_eq_true rfl⟩ (Nat.le_of_ble_eq_true rfl) dX9_isArchived_2 (fun h0 => hx3 ((if_neg h0).symm.trans hf)) (fun h0 H locs hI => ?_)
  have hf := (if_pos h0).symm.trans hf
  refine lv_aload_n hx hb dX9_isArchived_5 rfl (lv_at hl 0 rfl) ?_
  refine g_248_store hC hI tw_1_213 dX9_isArchived_6 ?_
  refine gN_0_revisions hC hI tw_1_100 dX9_isArchived_9 ?_
  refine lv_iload_n hx hb dX9_isArchived_12 rfl (lv_at hl 1 rfl) ?_
  obtain ⟨r13, V13, q13, hf⟩ := gbd hf
  refine k_X6_inArchive hC hI hl.1 q13 tw_4_133 ⟨Nat.le_of_ble_eq_true rfl, Nat.le_of_ble_eq_true rfl⟩ ⟨Nat.le_of_ble_eq_true rfl, Nat.le_of_ble_eq_true rfl⟩ (Nat.le_of_ble_eq_true rfl) dX9_isArchived_13 (fun H locs hI => ?_)
  obtain ⟨h16, hf⟩ := gi hf
  exact x_zret hC hI h16 hf ⟨Nat.le_of_ble_eq_true rfl, Nat.le_of_ble_eq_true rfl⟩ dX9_isArchived_16
theorem kx_X9_isArchived {p : Program} {l : Launch} {e : Env} {R : Room} {cells slots mc ms : Nat} {s : State} {m : MethodId} {args : Array Value} {below : List Frame} {meth : Method} {c : Code} {H : Heap} {locs : List Loc} {Qc : Array Value → State → Outcome → State → Prop} {E : En} {ad : Nat → Nat} {V : Mem} {ow : String} {b : ByteArray} {n : Nat} {ret : Option FieldType} {pc index : Nat} {ls : Array Slot} {rest : List Value} {a1 : Int32} {k1 k : Nat} {r : Int32} {V1 Vz : Mem} (hS : SF E) (hC : Cx p s m args c meth E ow b n ret) (hY : Cy l c) (hI : In E ad V s H locs) (hsz : ls.size = n) (hf : f_X9_isArchived V a1 = some (k1, r, V1)) (hl : Cond.methodLink ow index yX9_isArchived ∈ TB) (hR : 7 + 1 ≤ R.frames ∧ 8 + (2 + 11) + 40 * 7 ≤ R.locals) (hcs : cells + 1 ≤ R.cells ∧ slots + 6 ≤ R.slots) (hc : cells + 1 ≤ mc ∧ slots + 6 ≤ ms) (hw : (rest.map fun v => v.category).sum ≤ 8) (hdg : decode b pc = .ok (.invokevirtual index, 3)) (hx : k1 ≠ 0 → k1 = k ∧ V1 = Vz) (kk : k1 = 0 → ∀ (H1 : Heap) (locs1 : List Loc), In E ad V1 s H1 locs1 → W p l e R s m args below meth c H1 locs1 (cells + 1) (slots + 6) (vx_MQ below Qc (QX E ad k Vz) args s mc ms (ours E)) (F0 m (pc + 3) ls ((.int r) :: rest))) : W p l e R s m args below meth c H locs cells slots (vx_MQ below Qc (QX E ad k Vz) args s mc ms (ours E)) (F0 m pc ls (.int a1 :: .ref (ad 248) :: rest)) :=
  after_callX hC hY hI (xrunV_tb (As := [.int a1]) (rest := rest) hC hI hsz (m_X9_isArchived l hY.2 E ad V a1 hS k1 r V1 hf) cv_X9_isArchived hl (by decide) (ce_248 _) rfl rfl rfl hR hcs hw hdg) hc hx kk

theorem dX9_requirePresent_0 : decode cX9_requirePresent 0 = .ok (.iload_n 0, 1) := by decide +kernel
theorem dX9_requirePresent_1 : decode cX9_requirePresent 1 = .ok (.iconst (-1), 1) := by decide +kernel
theorem dX9_requirePresent_2 : decode cX9_requirePresent 2 = .ok (.if_icmp .ne 14, 3) := by decide +kernel
theorem dX9_requirePresent_5 : decode cX9_requirePresent 5 = .ok (.new 253, 3) := by decide +kernel
theorem dX9_requirePresent_8 : decode cX9_requirePresent 8 = .ok (.dup, 1) := by decide +kernel
theorem dX9_requirePresent_9 : decode cX9_requirePresent 9 = .ok (.ldc_w 425, 3) := by decide +kernel
theorem dX9_requirePresent_12 : decode cX9_requirePresent 12 = .ok (.invokespecial 257, 3) := by decide +kernel
theorem dX9_requirePresent_15 : decode cX9_requirePresent 15 = .ok (.athrow, 1) := by decide +kernel
theorem dX9_requirePresent_16 : decode cX9_requirePresent 16 = .ok (.iload_n 0, 1) := by decide +kernel
theorem dX9_requirePresent_17 : decode cX9_requirePresent 17 = .ok (.ireturn, 1) := by decide +kernel
def f_X9_requirePresent (V : Mem) (a0 : Int32) : Option (Nat × Int32 × Mem) :=
  if a0 = (-1) then
    some (3, 0, V)
  else
    some (0, a0, V)
theorem cv_X9_requirePresent : CalS yX9_requirePresent cX9_requirePresent 1 (some .int) 1 := ⟨⟨⟨by decide +kernel, by decide +kernel⟩, tw_1_1, tw_4_144, by decide +kernel⟩, tw_4_143⟩
set_option maxRecDepth 100000 in
set_option maxHeartbeats 4000000 in
theorem m_X9_requirePresent (l : Launch) (hT : l.stackTraces = false) (E : En) (ad : Nat → Nat) (V : Mem) (a0 : Int32) (hS : SF E) (k : Nat) (r : Int32) (Vz : Mem) (hf : f_X9_requirePresent V a0 = some (k, r, Vz)) : MX l E ad yX9_requirePresent cX9_requirePresent 1 (some .int) 6 1 6 [.int a0] V k (some (.int r)) Vz := by
  refine entX (E := E) (ad := ad) (V := V) "LetterRepository" hT (by decide +kernel) rfl (Nat.le_of_ble_eq_true rfl) ?_
  intro p e s m below meth c ls hC hY hI hl
  have hx := hC.1
  have hb := hC.2.1
  have hl : lv_has ls 1 [(0, .int a0)] := hl
  unfold f_X9_requirePresent at hf
  refine lv_iload_n hx hb dX9_requirePresent_0 rfl (lv_at hl 0 rfl) ?_
  refine lv_iconst (v := (-1)) hx hb dX9_requirePresent_1 rfl ?_
  refine lv_icmp_ne (tgt := 16) hx hb dX9_requirePresent_2 (by decide) (fun c2 => ?_) (fun c2 => ?_)
  · have hf := gf hf c2
    refine lv_iload_n hx hb dX9_requirePresent_16 rfl (lv_at hl 0 rfl) ?_
    exact x_iret hC hI hf ⟨Nat.le_of_ble_eq_true rfl, Nat.le_of_ble_eq_true rfl⟩ dX9_requirePresent_17
  · have hf := gt hf c2
    exact x_thr3w hS hC hY hI hl.1 (List.Mem.tail _ (List.Mem.tail _ (List.Mem.tail _ (List.Mem.tail _ (List.Mem.tail _ (List.Mem.tail _ (List.Mem.tail _ (List.Mem.tail _ (List.Mem.tail _ (List.Mem.tail _ (List.Mem.tail _ (List.Mem.tail _ (List.Mem.tail _ (List.Mem.tail _ (List.Mem.tail _ (List.Mem.tail _ (List.Mem.head _))))))))))))))))) (hx3 hf) ⟨Nat.le_of_ble_eq_true rfl, Nat.le_of_ble_eq_true rfl, Nat.le_of_ble_eq_true rfl, Nat.le_of_ble_eq_true rfl⟩ ⟨Nat.le_of_ble_eq_true rfl, Nat.le_of_ble_eq_true rfl⟩ dX9_requirePresent_5 dX9_requirePresent_8 dX9_requirePresent_9 dX9_requirePresent_12 dX9_requirePresent_15
theorem kx_X9_requirePresent {p : Program} {l : Launch} {e : Env} {R : Room} {cells slots mc ms : Nat} {s : State} {m : MethodId} {args : Array Value} {below : List Frame} {meth : Method} {c : Code} {H : Heap} {locs : List Loc} {Qc : Array Value → State → Outcome → State → Prop} {E : En} {ad : Nat → Nat} {V : Mem} {ow : String} {b : ByteArray} {n : Nat} {ret : Option FieldType} {pc index : Nat} {ls : Array Slot} {rest : List Value} {a0 : Int32} {k1 k : Nat} {r : Int32} {V1 Vz : Mem} (hS : SF E) (hC : Cx p s m args c meth E ow b n ret) (hY : Cy l c) (hI : In E ad V s H locs) (hsz : ls.size = n) (hf : f_X9_requirePresent V a0 = some (k1, r, V1)) (hl : Cond.methodLink ow index yX9_requirePresent ∈ TB) (hR : 6 + 1 ≤ R.frames ∧ 8 + (1 + 11) + 40 * 6 ≤ R.locals) (hcs : cells + 1 ≤ R.cells ∧ slots + 6 ≤ R.slots) (hc : cells + 1 ≤ mc ∧ slots + 6 ≤ ms) (hw : (rest.map fun v => v.category).sum ≤ 8) (hdg : decode b pc = .ok (.invokestatic index, 3)) (hx : k1 ≠ 0 → k1 = k ∧ V1 = Vz) (kk : k1 = 0 → ∀ (H1 : Heap) (locs1 : List Loc), In E ad V1 s H1 locs1 → W p l e R s m args below meth c H1 locs1 (cells + 1) (slots + 6) (vx_MQ below Qc (QX E ad k Vz) args s mc ms (ours E)) (F0 m (pc + 3) ls ((.int r) :: rest))) : W p l e R s m args below meth c H locs cells slots (vx_MQ below Qc (QX E ad k Vz) args s mc ms (ours E)) (F0 m pc ls (.int a0 :: rest)) :=
  after_callX hC hY hI (xrunS_tb (As := [.int a0]) (rest := rest) hC hI hsz (m_X9_requirePresent l hY.2 E ad V a0 hS k1 r V1 hf) cv_X9_requirePresent hl rfl rfl hR hcs hw hdg) hc hx kk

theorem dX9_firstParent_0 : decode cX9_firstParent 0 = .ok (.aload_n 0, 1) := by decide +kernel
theorem dX9_firstParent_1 : decode cX9_firstParent 1 = .ok (.iload_n 1, 1) := by decide +kernel
theorem dX9_firstParent_2 : decode cX9_firstParent 2 = .ok (.invokevirtual 140, 3) := by decide +kernel
theorem dX9_firstParent_5 : decode cX9_firstParent 5 = .ok (.aload_n 0, 1) := by decide +kernel
theorem dX9_firstParent_6 : decode cX9_firstParent 6 = .ok (.getfield 10, 3) := by decide +kernel
theorem dX9_firstParent_9 : decode cX9_firstParent 9 = .ok (.getfield 131, 3) := by decide +kernel
theorem dX9_firstParent_12 : decode cX9_firstParent 12 = .ok (.iload_n 1, 1) := by decide +kernel
theorem dX9_firstParent_13 : decode cX9_firstParent 13 = .ok (.invokevirtual 148, 3) := by decide +kernel
theorem dX9_firstParent_16 : decode cX9_firstParent 16 = .ok (.invokestatic 151, 3) := by decide +kernel
theorem dX9_firstParent_19 : decode cX9_firstParent 19 = .ok (.ireturn, 1) := by decide +kernel
def f_X9_firstParent (V : Mem) (a1 : Int32) : Option (Nat × Int32 × Mem) :=
  bw 0 (f_X9_requireRevision V a1) fun V2 =>
  bd (f_X6_firstParentOf V2 a1) fun r13 V13 =>
  bx 0 (f_X9_requirePresent V13 r13) fun r16 V16 =>
  some (0, r16, V16)
theorem cv_X9_firstParent : CalV yX9_firstParent cX9_firstParent 2 (some .int) 1 := ⟨⟨⟨by decide +kernel, by decide +kernel⟩, tw_1_1, tw_4_140, by decide +kernel⟩, tw_4_138, tw_4_139⟩
set_option maxRecDepth 100000 in
set_option maxHeartbeats 4000000 in
theorem m_X9_firstParent (l : Launch) (hT : l.stackTraces = false) (E : En) (ad : Nat → Nat) (V : Mem) (a1 : Int32) (hS : SF E) (k : Nat) (r : Int32) (Vz : Mem) (hf : f_X9_firstParent V a1 = some (k, r, Vz)) : MX l E ad yX9_firstParent cX9_firstParent 2 (some .int) 7 2 12 [.ref (ad 248), .int a1] V k (some (.int r)) Vz := by
  refine entX (E := E) (ad := ad) (V := V) "LetterRepository" hT (by decide +kernel) rfl (Nat.le_of_ble_eq_true rfl) ?_
  intro p e s m below meth c ls hC hY hI hl
  have hx := hC.1
  have hb := hC.2.1
  have hl : lv_has ls 2 [(0, .ref (ad 248)), (1, .int a1)] := hl
  unfold f_X9_firstParent at hf
  refine lv_aload_n hx hb dX9_firstParent_0 rfl (lv_at hl 0 rfl) ?_
  refine lv_iload_n hx hb dX9_firstParent_1 rfl (lv_at hl 1 rfl) ?_
  obtain ⟨q2, V2, e2, hf⟩ := gbw hf
  refine kx_X9_requireRevision hS hC hY hI hl.1 e2 tw_4_127 ⟨Nat.le_of_ble_eq_true rfl, Nat.le_of_ble_eq_true rfl⟩ ⟨Nat.le_of_ble_eq_true rfl, Nat.le_of_ble_eq_true rfl⟩ ⟨Nat.le_of_ble_eq_true rfl, Nat.le_of_ble_eq_true rfl⟩ (Nat.le_of_ble_eq_true rfl) dX9_firstParent_2 (fun h0 => hx3 ((if_neg h0).symm.trans hf)) (fun h0 H locs hI => ?_)
  have hf := (if_pos h0).symm.trans hf
  refine lv_aload_n hx hb dX9_firstParent_5 rfl (lv_at hl 0 rfl) ?_
  refine g_248_store hC hI tw_1_213 dX9_firstParent_6 ?_
  refine gN_0_revisions hC hI tw_1_100 dX9_firstParent_9 ?_
  refine lv_iload_n hx hb dX9_firstParent_12 rfl (lv_at hl 1 rfl) ?_
  obtain ⟨r13, V13, q13, hf⟩ := gbd hf
  refine k_X6_firstParentOf hC hI hl.1 q13 tw_4_141 ⟨Nat.le_of_ble_eq_true rfl, Nat.le_of_ble_eq_true rfl⟩ ⟨Nat.le_of_ble_eq_true rfl, Nat.le_of_ble_eq_true rfl⟩ (Nat.le_of_ble_eq_true rfl) dX9_firstParent_13 (fun H locs hI => ?_)
  obtain ⟨q16, r16, V16, e16, hf⟩ := gbx hf
  refine kx_X9_requirePresent hS hC hY hI hl.1 e16 tw_4_142 ⟨Nat.le_of_ble_eq_true rfl, Nat.le_of_ble_eq_true rfl⟩ ⟨Nat.le_of_ble_eq_true rfl, Nat.le_of_ble_eq_true rfl⟩ ⟨Nat.le_of_ble_eq_true rfl, Nat.le_of_ble_eq_true rfl⟩ (Nat.le_of_ble_eq_true rfl) dX9_firstParent_16 (fun h0 => hx3 ((if_neg h0).symm.trans hf)) (fun h0 H locs hI => ?_)
  have hf := (if_pos h0).symm.trans hf
  exact x_iret hC hI hf ⟨Nat.le_of_ble_eq_true rfl, Nat.le_of_ble_eq_true rfl⟩ dX9_firstParent_19
theorem kx_X9_firstParent {p : Program} {l : Launch} {e : Env} {R : Room} {cells slots mc ms : Nat} {s : State} {m : MethodId} {args : Array Value} {below : List Frame} {meth : Method} {c : Code} {H : Heap} {locs : List Loc} {Qc : Array Value → State → Outcome → State → Prop} {E : En} {ad : Nat → Nat} {V : Mem} {ow : String} {b : ByteArray} {n : Nat} {ret : Option FieldType} {pc index : Nat} {ls : Array Slot} {rest : List Value} {a1 : Int32} {k1 k : Nat} {r : Int32} {V1 Vz : Mem} (hS : SF E) (hC : Cx p s m args c meth E ow b n ret) (hY : Cy l c) (hI : In E ad V s H locs) (hsz : ls.size = n) (hf : f_X9_firstParent V a1 = some (k1, r, V1)) (hl : Cond.methodLink ow index yX9_firstParent ∈ TB) (hR : 7 + 1 ≤ R.frames ∧ 8 + (2 + 11) + 40 * 7 ≤ R.locals) (hcs : cells + 2 ≤ R.cells ∧ slots + 12 ≤ R.slots) (hc : cells + 2 ≤ mc ∧ slots + 12 ≤ ms) (hw : (rest.map fun v => v.category).sum ≤ 8) (hdg : decode b pc = .ok (.invokevirtual index, 3)) (hx : k1 ≠ 0 → k1 = k ∧ V1 = Vz) (kk : k1 = 0 → ∀ (H1 : Heap) (locs1 : List Loc), In E ad V1 s H1 locs1 → W p l e R s m args below meth c H1 locs1 (cells + 2) (slots + 12) (vx_MQ below Qc (QX E ad k Vz) args s mc ms (ours E)) (F0 m (pc + 3) ls ((.int r) :: rest))) : W p l e R s m args below meth c H locs cells slots (vx_MQ below Qc (QX E ad k Vz) args s mc ms (ours E)) (F0 m pc ls (.int a1 :: .ref (ad 248) :: rest)) :=
  after_callX hC hY hI (xrunV_tb (As := [.int a1]) (rest := rest) hC hI hsz (m_X9_firstParent l hY.2 E ad V a1 hS k1 r V1 hf) cv_X9_firstParent hl (by decide) (ce_248 _) rfl rfl rfl hR hcs hw hdg) hc hx kk

theorem dX9_secondParent_0 : decode cX9_secondParent 0 = .ok (.aload_n 0, 1) := by decide +kernel
theorem dX9_secondParent_1 : decode cX9_secondParent 1 = .ok (.iload_n 1, 1) := by decide +kernel
theorem dX9_secondParent_2 : decode cX9_secondParent 2 = .ok (.invokevirtual 140, 3) := by decide +kernel
theorem dX9_secondParent_5 : decode cX9_secondParent 5 = .ok (.aload_n 0, 1) := by decide +kernel
theorem dX9_secondParent_6 : decode cX9_secondParent 6 = .ok (.getfield 10, 3) := by decide +kernel
theorem dX9_secondParent_9 : decode cX9_secondParent 9 = .ok (.getfield 131, 3) := by decide +kernel
theorem dX9_secondParent_12 : decode cX9_secondParent 12 = .ok (.iload_n 1, 1) := by decide +kernel
theorem dX9_secondParent_13 : decode cX9_secondParent 13 = .ok (.invokevirtual 154, 3) := by decide +kernel
theorem dX9_secondParent_16 : decode cX9_secondParent 16 = .ok (.invokestatic 151, 3) := by decide +kernel
theorem dX9_secondParent_19 : decode cX9_secondParent 19 = .ok (.ireturn, 1) := by decide +kernel
def f_X9_secondParent (V : Mem) (a1 : Int32) : Option (Nat × Int32 × Mem) :=
  bw 0 (f_X9_requireRevision V a1) fun V2 =>
  bd (f_X6_secondParentOf V2 a1) fun r13 V13 =>
  bx 0 (f_X9_requirePresent V13 r13) fun r16 V16 =>
  some (0, r16, V16)
theorem cv_X9_secondParent : CalV yX9_secondParent cX9_secondParent 2 (some .int) 1 := ⟨⟨⟨by decide +kernel, by decide +kernel⟩, tw_1_1, tw_4_152, by decide +kernel⟩, tw_4_150, tw_4_151⟩
set_option maxRecDepth 100000 in
set_option maxHeartbeats 4000000 in
theorem m_X9_secondParent (l : Launch) (hT : l.stackTraces = false) (E : En) (ad : Nat → Nat) (V : Mem) (a1 : Int32) (hS : SF E) (k : Nat) (r : Int32) (Vz : Mem) (hf : f_X9_secondParent V a1 = some (k, r, Vz)) : MX l E ad yX9_secondParent cX9_secondParent 2 (some .int) 7 2 12 [.ref (ad 248), .int a1] V k (some (.int r)) Vz := by
  refine entX (E := E) (ad := ad) (V := V) "LetterRepository" hT (by decide +kernel) rfl (Nat.le_of_ble_eq_true rfl) ?_
  intro p e s m below meth c ls hC hY hI hl
  have hx := hC.1
  have hb := hC.2.1
  have hl : lv_has ls 2 [(0, .ref (ad 248)), (1, .int a1)] := hl
  unfold f_X9_secondParent at hf
  refine lv_aload_n hx hb dX9_secondParent_0 rfl (lv_at hl 0 rfl) ?_
  refine lv_iload_n hx hb dX9_secondParent_1 rfl (lv_at hl 1 rfl) ?_
  obtain ⟨q2, V2, e2, hf⟩ := gbw hf
  refine kx_X9_requireRevision hS hC hY hI hl.1 e2 tw_4_127 ⟨Nat.le_of_ble_eq_true rfl, Nat.le_of_ble_eq_true rfl⟩ ⟨Nat.le_of_ble_eq_true rfl, Nat.le_of_ble_eq_true rfl⟩ ⟨Nat.le_of_ble_eq_true rfl, Nat.le_of_ble_eq_true rfl⟩ (Nat.le_of_ble_eq_true rfl) dX9_secondParent_2 (fun h0 => hx3 ((if_neg h0).symm.trans hf)) (fun h0 H locs hI => ?_)
  have hf := (if_pos h0).symm.trans hf
  refine lv_aload_n hx hb dX9_secondParent_5 rfl (lv_at hl 0 rfl) ?_
  refine g_248_store hC hI tw_1_213 dX9_secondParent_6 ?_
  refine gN_0_revisions hC hI tw_1_100 dX9_secondParent_9 ?_
  refine lv_iload_n hx hb dX9_secondParent_12 rfl (lv_at hl 1 rfl) ?_
  obtain ⟨r13, V13, q13, hf⟩ := gbd hf
  refine k_X6_secondParentOf hC hI hl.1 q13 tw_4_153 ⟨Nat.le_of_ble_eq_true rfl, Nat.le_of_ble_eq_true rfl⟩ ⟨Nat.le_of_ble_eq_true rfl, Nat.le_of_ble_eq_true rfl⟩ (Nat.le_of_ble_eq_true rfl) dX9_secondParent_13 (fun H locs hI => ?_)
  obtain ⟨q16, r16, V16, e16, hf⟩ := gbx hf
  refine kx_X9_requirePresent hS hC hY hI hl.1 e16 tw_4_142 ⟨Nat.le_of_ble_eq_true rfl, Nat.le_of_ble_eq_true rfl⟩ ⟨Nat.le_of_ble_eq_true rfl, Nat.le_of_ble_eq_true rfl⟩ ⟨Nat.le_of_ble_eq_true rfl, Nat.le_of_ble_eq_true rfl⟩ (Nat.le_of_ble_eq_true rfl) dX9_secondParent_16 (fun h0 => hx3 ((if_neg h0).symm.trans hf)) (fun h0 H locs hI => ?_)
  have hf := (if_pos h0).symm.trans hf
  exact x_iret hC hI hf ⟨Nat.le_of_ble_eq_true rfl, Nat.le_of_ble_eq_true rfl⟩ dX9_secondParent_19
theorem kx_X9_secondParent {p : Program} {l : Launch} {e : Env} {R : Room} {cells slots mc ms : Nat} {s : State} {m : MethodId} {args : Array Value} {below : List Frame} {meth : Method} {c : Code} {H : Heap} {locs : List Loc} {Qc : Array Value → State → Outcome → State → Prop} {E : En} {ad : Nat → Nat} {V : Mem} {ow : String} {b : ByteArray} {n : Nat} {ret : Option FieldType} {pc index : Nat} {ls : Array Slot} {rest : List Value} {a1 : Int32} {k1 k : Nat} {r : Int32} {V1 Vz : Mem} (hS : SF E) (hC : Cx p s m args c meth E ow b n ret) (hY : Cy l c) (hI : In E ad V s H locs) (hsz : ls.size = n) (hf : f_X9_secondParent V a1 = some (k1, r, V1)) (hl : Cond.methodLink ow index yX9_secondParent ∈ TB) (hR : 7 + 1 ≤ R.frames ∧ 8 + (2 + 11) + 40 * 7 ≤ R.locals) (hcs : cells + 2 ≤ R.cells ∧ slots + 12 ≤ R.slots) (hc : cells + 2 ≤ mc ∧ slots + 12 ≤ ms) (hw : (rest.map fun v => v.category).sum ≤ 8) (hdg : decode b pc = .ok (.invokevirtual index, 3)) (hx : k1 ≠ 0 → k1 = k ∧ V1 = Vz) (kk : k1 = 0 → ∀ (H1 : Heap) (locs1 : List Loc), In E ad V1 s H1 locs1 → W p l e R s m args below meth c H1 locs1 (cells + 2) (slots + 12) (vx_MQ below Qc (QX E ad k Vz) args s mc ms (ours E)) (F0 m (pc + 3) ls ((.int r) :: rest))) : W p l e R s m args below meth c H locs cells slots (vx_MQ below Qc (QX E ad k Vz) args s mc ms (ours E)) (F0 m pc ls (.int a1 :: .ref (ad 248) :: rest)) :=
  after_callX hC hY hI (xrunV_tb (As := [.int a1]) (rest := rest) hC hI hsz (m_X9_secondParent l hY.2 E ad V a1 hS k1 r V1 hf) cv_X9_secondParent hl (by decide) (ce_248 _) rfl rfl rfl hR hcs hw hdg) hc hx kk
