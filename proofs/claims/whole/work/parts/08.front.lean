theorem dX9_refuse_0 : decode cX9_refuse 0 = .ok (.aload_n 0, 1) := by decide +kernel
theorem dX9_refuse_1 : decode cX9_refuse 1 = .ok (.getstatic 387, 3) := by decide +kernel
theorem dX9_refuse_4 : decode cX9_refuse 4 = .ok (.if_acmp .ne 14, 3) := by decide +kernel
theorem dX9_refuse_7 : decode cX9_refuse 7 = .ok (.new 319, 3) := by decide +kernel
theorem dX9_refuse_10 : decode cX9_refuse 10 = .ok (.dup, 1) := by decide +kernel
theorem dX9_refuse_11 : decode cX9_refuse 11 = .ok (.ldc_w 390, 3) := by decide +kernel
theorem dX9_refuse_14 : decode cX9_refuse 14 = .ok (.invokespecial 323, 3) := by decide +kernel
theorem dX9_refuse_17 : decode cX9_refuse 17 = .ok (.athrow, 1) := by decide +kernel
theorem dX9_refuse_18 : decode cX9_refuse 18 = .ok (.aload_n 0, 1) := by decide +kernel
theorem dX9_refuse_19 : decode cX9_refuse 19 = .ok (.getstatic 392, 3) := by decide +kernel
theorem dX9_refuse_22 : decode cX9_refuse 22 = .ok (.if_acmp .ne 14, 3) := by decide +kernel
theorem dX9_refuse_25 : decode cX9_refuse 25 = .ok (.new 203, 3) := by decide +kernel
theorem dX9_refuse_28 : decode cX9_refuse 28 = .ok (.dup, 1) := by decide +kernel
theorem dX9_refuse_29 : decode cX9_refuse 29 = .ok (.ldc_w 395, 3) := by decide +kernel
theorem dX9_refuse_32 : decode cX9_refuse 32 = .ok (.invokespecial 207, 3) := by decide +kernel
theorem dX9_refuse_35 : decode cX9_refuse 35 = .ok (.athrow, 1) := by decide +kernel
theorem dX9_refuse_36 : decode cX9_refuse 36 = .ok (.aload_n 0, 1) := by decide +kernel
theorem dX9_refuse_37 : decode cX9_refuse 37 = .ok (.getstatic 397, 3) := by decide +kernel
theorem dX9_refuse_40 : decode cX9_refuse 40 = .ok (.if_acmp .ne 14, 3) := by decide +kernel
theorem dX9_refuse_43 : decode cX9_refuse 43 = .ok (.new 253, 3) := by decide +kernel
theorem dX9_refuse_46 : decode cX9_refuse 46 = .ok (.dup, 1) := by decide +kernel
theorem dX9_refuse_47 : decode cX9_refuse 47 = .ok (.ldc_w 400, 3) := by decide +kernel
theorem dX9_refuse_50 : decode cX9_refuse 50 = .ok (.invokespecial 257, 3) := by decide +kernel
theorem dX9_refuse_53 : decode cX9_refuse 53 = .ok (.athrow, 1) := by decide +kernel
theorem dX9_refuse_54 : decode cX9_refuse 54 = .ok (.aload_n 0, 1) := by decide +kernel
theorem dX9_refuse_55 : decode cX9_refuse 55 = .ok (.getstatic 402, 3) := by decide +kernel
theorem dX9_refuse_58 : decode cX9_refuse 58 = .ok (.if_acmp .ne 14, 3) := by decide +kernel
theorem dX9_refuse_61 : decode cX9_refuse 61 = .ok (.new 330, 3) := by decide +kernel
theorem dX9_refuse_64 : decode cX9_refuse 64 = .ok (.dup, 1) := by decide +kernel
theorem dX9_refuse_65 : decode cX9_refuse 65 = .ok (.ldc_w 405, 3) := by decide +kernel
theorem dX9_refuse_68 : decode cX9_refuse 68 = .ok (.invokespecial 334, 3) := by decide +kernel
theorem dX9_refuse_71 : decode cX9_refuse 71 = .ok (.athrow, 1) := by decide +kernel
theorem dX9_refuse_72 : decode cX9_refuse 72 = .ok (.return_, 1) := by decide +kernel
def f_X9_refuse (V : Mem) (z : Nat) : Option (Nat × Mem) :=
  if z < 5 then
    if z = 1 then
      some (1, V)
    else
      if z < 5 then
        if z = 2 then
          some (2, V)
        else
          if z < 5 then
            if z = 3 then
              some (3, V)
            else
              if z < 5 then
                if z = 4 then
                  some (4, V)
                else
                  some (0, V)
              else none
          else none
      else none
  else none
theorem cv_X9_refuse : CalS yX9_refuse cX9_refuse 1 none 1 := ⟨⟨⟨by decide +kernel, by decide +kernel⟩, tw_1_1, tw_3_1, by decide +kernel⟩, tw_3_0⟩
set_option maxRecDepth 100000 in
set_option maxHeartbeats 4000000 in
theorem m_X9_refuse (l : Launch) (hT : l.stackTraces = false) (E : En) (ad : Nat → Nat) (V : Mem) (z : Nat) (hS : SF E) (k : Nat) (Vz : Mem) (hf : f_X9_refuse V z = some (k, Vz)) : MX l E ad yX9_refuse cX9_refuse 1 none 6 1 6 [.ref (eR E z)] V k none Vz := by
  refine entX (E := E) (ad := ad) (V := V) "LetterRepository" hT (by decide +kernel) rfl (Nat.le_of_ble_eq_true rfl) ?_
  intro p e s m below meth c ls hC hY hI hl
  have hx := hC.1
  have hb := hC.2.1
  have hl : lv_has ls 1 [(0, .ref (eR E z))] := hl
  unfold f_X9_refuse at hf
  refine lv_aload_n hx hb dX9_refuse_0 rfl (lv_at hl 0 rfl) ?_
  refine r_gsR 1 hS hC hI (by decide) tw_3_2 dX9_refuse_1 ?_
  obtain ⟨b4, hf⟩ := gi hf
  refine r_acR_ne (tgt := 18) hS hC b4 (by decide) dX9_refuse_4 (by decide) (fun c4 => ?_) (fun c4 => ?_)
  · have hf := gf hf c4
    refine lv_aload_n hx hb dX9_refuse_18 rfl (lv_at hl 0 rfl) ?_
    refine r_gsR 2 hS hC hI (by decide) tw_3_73 dX9_refuse_19 ?_
    obtain ⟨b22, hf⟩ := gi hf
    refine r_acR_ne (tgt := 36) hS hC b22 (by decide) dX9_refuse_22 (by decide) (fun c22 => ?_) (fun c22 => ?_)
    · have hf := gf hf c22
      refine lv_aload_n hx hb dX9_refuse_36 rfl (lv_at hl 0 rfl) ?_
      refine r_gsR 3 hS hC hI (by decide) tw_3_90 dX9_refuse_37 ?_
      obtain ⟨b40, hf⟩ := gi hf
      refine r_acR_ne (tgt := 54) hS hC b40 (by decide) dX9_refuse_40 (by decide) (fun c40 => ?_) (fun c40 => ?_)
      · have hf := gf hf c40
        refine lv_aload_n hx hb dX9_refuse_54 rfl (lv_at hl 0 rfl) ?_
        refine r_gsR 4 hS hC hI (by decide) tw_3_108 dX9_refuse_55 ?_
        obtain ⟨b58, hf⟩ := gi hf
        refine r_acR_ne (tgt := 72) hS hC b58 (by decide) dX9_refuse_58 (by decide) (fun c58 => ?_) (fun c58 => ?_)
        · have hf := gf hf c58
          exact x_vret hC hI hf ⟨Nat.le_of_ble_eq_true rfl, Nat.le_of_ble_eq_true rfl⟩ dX9_refuse_72
        · have hf := gt hf c58
          exact x_thr4w hS hC hY hI hl.1 (List.Mem.tail _ (List.Mem.tail _ (List.Mem.tail _ (List.Mem.tail _ (List.Mem.tail _ (List.Mem.tail _ (List.Mem.tail _ (List.Mem.tail _ (List.Mem.tail _ (List.Mem.tail _ (List.Mem.tail _ (List.Mem.tail _ (List.Mem.head _))))))))))))) (hx2 hf) ⟨Nat.le_of_ble_eq_true rfl, Nat.le_of_ble_eq_true rfl, Nat.le_of_ble_eq_true rfl, Nat.le_of_ble_eq_true rfl⟩ ⟨Nat.le_of_ble_eq_true rfl, Nat.le_of_ble_eq_true rfl⟩ dX9_refuse_61 dX9_refuse_64 dX9_refuse_65 dX9_refuse_68 dX9_refuse_71
      · have hf := gt hf c40
        exact x_thr3w hS hC hY hI hl.1 (List.Mem.tail _ (List.Mem.tail _ (List.Mem.tail _ (List.Mem.tail _ (List.Mem.tail _ (List.Mem.tail _ (List.Mem.tail _ (List.Mem.tail _ (List.Mem.tail _ (List.Mem.tail _ (List.Mem.tail _ (List.Mem.head _)))))))))))) (hx2 hf) ⟨Nat.le_of_ble_eq_true rfl, Nat.le_of_ble_eq_true rfl, Nat.le_of_ble_eq_true rfl, Nat.le_of_ble_eq_true rfl⟩ ⟨Nat.le_of_ble_eq_true rfl, Nat.le_of_ble_eq_true rfl⟩ dX9_refuse_43 dX9_refuse_46 dX9_refuse_47 dX9_refuse_50 dX9_refuse_53
    · have hf := gt hf c22
      exact x_thr2w hS hC hY hI hl.1 (List.Mem.tail _ (List.Mem.tail _ (List.Mem.tail _ (List.Mem.tail _ (List.Mem.tail _ (List.Mem.tail _ (List.Mem.tail _ (List.Mem.tail _ (List.Mem.tail _ (List.Mem.tail _ (List.Mem.head _))))))))))) (hx2 hf) ⟨Nat.le_of_ble_eq_true rfl, Nat.le_of_ble_eq_true rfl, Nat.le_of_ble_eq_true rfl, Nat.le_of_ble_eq_true rfl⟩ ⟨Nat.le_of_ble_eq_true rfl, Nat.le_of_ble_eq_true rfl⟩ dX9_refuse_25 dX9_refuse_28 dX9_refuse_29 dX9_refuse_32 dX9_refuse_35
  · have hf := gt hf c4
    exact x_thr1w hS hC hY hI hl.1 (List.Mem.tail _ (List.Mem.tail _ (List.Mem.tail _ (List.Mem.tail _ (List.Mem.tail _ (List.Mem.tail _ (List.Mem.tail _ (List.Mem.tail _ (List.Mem.tail _ (List.Mem.head _)))))))))) (hx2 hf) ⟨Nat.le_of_ble_eq_true rfl, Nat.le_of_ble_eq_true rfl, Nat.le_of_ble_eq_true rfl, Nat.le_of_ble_eq_true rfl⟩ ⟨Nat.le_of_ble_eq_true rfl, Nat.le_of_ble_eq_true rfl⟩ dX9_refuse_7 dX9_refuse_10 dX9_refuse_11 dX9_refuse_14 dX9_refuse_17
theorem kx_X9_refuse {p : Program} {l : Launch} {e : Env} {R : Room} {cells slots mc ms : Nat} {s : State} {m : MethodId} {args : Array Value} {below : List Frame} {meth : Method} {c : Code} {H : Heap} {locs : List Loc} {Qc : Array Value → State → Outcome → State → Prop} {E : En} {ad : Nat → Nat} {V : Mem} {ow : String} {b : ByteArray} {n : Nat} {ret : Option FieldType} {pc index : Nat} {ls : Array Slot} {rest : List Value} {z : Nat} {k1 k : Nat} {V1 Vz : Mem} (hS : SF E) (hC : Cx p s m args c meth E ow b n ret) (hY : Cy l c) (hI : In E ad V s H locs) (hsz : ls.size = n) (hf : f_X9_refuse V z = some (k1, V1)) (hl : Cond.methodLink ow index yX9_refuse ∈ TB) (hR : 6 + 1 ≤ R.frames ∧ 8 + (1 + 11) + 40 * 6 ≤ R.locals) (hcs : cells + 1 ≤ R.cells ∧ slots + 6 ≤ R.slots) (hc : cells + 1 ≤ mc ∧ slots + 6 ≤ ms) (hw : (rest.map fun v => v.category).sum ≤ 8) (hdg : decode b pc = .ok (.invokestatic index, 3)) (hx : k1 ≠ 0 → k1 = k ∧ V1 = Vz) (kk : k1 = 0 → ∀ (H1 : Heap) (locs1 : List Loc), In E ad V1 s H1 locs1 → W p l e R s m args below meth c H1 locs1 (cells + 1) (slots + 6) (vx_MQ below Qc (QX E ad k Vz) args s mc ms (ours E)) (F0 m (pc + 3) ls (rest))) : W p l e R s m args below meth c H locs cells slots (vx_MQ below Qc (QX E ad k Vz) args s mc ms (ours E)) (F0 m pc ls (.ref (eR E z) :: rest)) :=
  after_callX hC hY hI (xrunS_tb (As := [.ref (eR E z)]) (rest := rest) hC hI hsz (m_X9_refuse l hY.2 E ad V z hS k1 V1 hf) cv_X9_refuse hl rfl rfl hR hcs hw hdg) hc hx kk

theorem dX9_remember_0 : decode cX9_remember 0 = .ok (.aload_n 0, 1) := by decide +kernel
theorem dX9_remember_1 : decode cX9_remember 1 = .ok (.getfield 22, 3) := by decide +kernel
theorem dX9_remember_4 : decode cX9_remember 4 = .ok (.aload_n 0, 1) := by decide +kernel
theorem dX9_remember_5 : decode cX9_remember 5 = .ok (.getfield 10, 3) := by decide +kernel
theorem dX9_remember_8 : decode cX9_remember 8 = .ok (.invokevirtual 344, 3) := by decide +kernel
theorem dX9_remember_11 : decode cX9_remember 11 = .ok (.aload_n 0, 1) := by decide +kernel
theorem dX9_remember_12 : decode cX9_remember 12 = .ok (.getfield 22, 3) := by decide +kernel
theorem dX9_remember_15 : decode cX9_remember 15 = .ok (.invokevirtual 366, 3) := by decide +kernel
theorem dX9_remember_18 : decode cX9_remember 18 = .ok (.return_, 1) := by decide +kernel
def f_X9_remember (V : Mem) : Option Mem :=
  bv (f_X2_note V) fun V8 =>
  bv (f_X2_keepNoted V8) fun V15 =>
  some V15
theorem cv_X9_remember : CalV yX9_remember cX9_remember 1 none 0 := ⟨⟨⟨by decide +kernel, by decide +kernel⟩, tw_1_1, tw_2_8, by decide +kernel⟩, tw_2_7, tp_0⟩
set_option maxRecDepth 100000 in
set_option maxHeartbeats 4000000 in
theorem m_X9_remember (l : Launch) (E : En) (ad : Nat → Nat) (V : Mem) (Vz : Mem) (hf : f_X9_remember V = some Vz) : MR l E ad yX9_remember cX9_remember 1 none 5 [.ref (ad 248)] V none Vz := by
  refine ent (E := E) (ad := ad) (V := V) "LetterRepository" (by decide +kernel) rfl (Nat.le_of_ble_eq_true rfl) ?_
  intro p e s m below meth c ls hC hI hl
  have hx := hC.1
  have hb := hC.2.1
  have hl : lv_has ls 1 [(0, .ref (ad 248))] := hl
  unfold f_X9_remember at hf
  refine lv_aload_n hx hb dX9_remember_0 rfl (lv_at hl 0 rfl) ?_
  refine g_248_history hC hI tw_1_215 dX9_remember_1 ?_
  refine lv_aload_n hx hb dX9_remember_4 rfl (lv_at hl 0 rfl) ?_
  refine g_248_store hC hI tw_1_213 dX9_remember_5 ?_
  obtain ⟨V8, q8, hf⟩ := gbv hf
  refine k_X2_note hC hI hl.1 q8 tw_2_9 ⟨Nat.le_of_ble_eq_true rfl, Nat.le_of_ble_eq_true rfl⟩ ⟨Nat.le_refl _, Nat.le_refl _⟩ (Nat.le_of_ble_eq_true rfl) dX9_remember_8 (fun H locs hI => ?_)
  refine lv_aload_n hx hb dX9_remember_11 rfl (lv_at hl 0 rfl) ?_
  refine g_248_history hC hI tw_1_215 dX9_remember_12 ?_
  obtain ⟨V15, q15, hf⟩ := gbv hf
  refine k_X2_keepNoted hC hI hl.1 q15 tw_2_36 ⟨Nat.le_of_ble_eq_true rfl, Nat.le_of_ble_eq_true rfl⟩ ⟨Nat.le_refl _, Nat.le_refl _⟩ (Nat.le_of_ble_eq_true rfl) dX9_remember_15 (fun H locs hI => ?_)
  exact r_vret2 hC hI hf dX9_remember_18
theorem k_X9_remember {p : Program} {l : Launch} {e : Env} {R : Room} {cells slots : Nat} {s : State} {m : MethodId} {args : Array Value} {below : List Frame} {meth : Method} {c : Code} {H : Heap} {locs : List Loc} {Q : State → Prop} {E : En} {ad : Nat → Nat} {V : Mem} {ow : String} {b : ByteArray} {n : Nat} {ret : Option FieldType} {pc index : Nat} {ls : Array Slot} {rest : List Value} {V1 : Mem} (hC : Cx p s m args c meth E ow b n ret) (hI : In E ad V s H locs) (hsz : ls.size = n) (hf : f_X9_remember V = some V1) (hl : Cond.methodLink ow index yX9_remember ∈ TB) (hR : 5 + 1 ≤ R.frames ∧ 8 + (1 + 11) + 40 * 5 ≤ R.locals) (hcs : cells ≤ R.cells ∧ slots ≤ R.slots) (hw : (rest.map fun v => v.category).sum ≤ 8) (hdg : decode b pc = .ok (.invokevirtual index, 3)) (kk : ∀ (H1 : Heap) (locs1 : List Loc), In E ad V1 s H1 locs1 → W p l e R s m args below meth c H1 locs1 cells slots Q (F0 m (pc + 3) ls (rest))) : W p l e R s m args below meth c H locs cells slots Q (F0 m pc ls (.ref (ad 248) :: rest)) :=
  r_calVv (As := []) (rest := rest) hC hI hsz (m_X9_remember l E ad V _ hf) cv_X9_remember hl (by decide) (ce_248 _) rfl rfl rfl hR hcs hw hdg kk

theorem dX9_edit_0 : decode cX9_edit 0 = .ok (.aload_n 0, 1) := by decide +kernel
theorem dX9_edit_1 : decode cX9_edit 1 = .ok (.getfield 10, 3) := by decide +kernel
theorem dX9_edit_4 : decode cX9_edit 4 = .ok (.iload_n 1, 1) := by decide +kernel
theorem dX9_edit_5 : decode cX9_edit 5 = .ok (.iload_n 2, 1) := by decide +kernel
theorem dX9_edit_6 : decode cX9_edit 6 = .ok (.iload_n 3, 1) := by decide +kernel
theorem dX9_edit_7 : decode cX9_edit 7 = .ok (.invokevirtual 50, 3) := by decide +kernel
theorem dX9_edit_10 : decode cX9_edit 10 = .ok (.invokestatic 54, 3) := by decide +kernel
theorem dX9_edit_13 : decode cX9_edit 13 = .ok (.aload_n 0, 1) := by decide +kernel
theorem dX9_edit_14 : decode cX9_edit 14 = .ok (.invokevirtual 58, 3) := by decide +kernel
theorem dX9_edit_17 : decode cX9_edit 17 = .ok (.aload_n 0, 1) := by decide +kernel
theorem dX9_edit_18 : decode cX9_edit 18 = .ok (.getfield 10, 3) := by decide +kernel
theorem dX9_edit_21 : decode cX9_edit 21 = .ok (.iload_n 1, 1) := by decide +kernel
theorem dX9_edit_22 : decode cX9_edit 22 = .ok (.iload_n 2, 1) := by decide +kernel
theorem dX9_edit_23 : decode cX9_edit 23 = .ok (.iload_n 3, 1) := by decide +kernel
theorem dX9_edit_24 : decode cX9_edit 24 = .ok (.invokevirtual 61, 3) := by decide +kernel
theorem dX9_edit_27 : decode cX9_edit 27 = .ok (.ireturn, 1) := by decide +kernel
def f_X9_edit (V : Mem) (a1 : Int32) (a2 : Int32) (a3 : Int32) : Option (Nat × Int32 × Mem) :=
  bd (f_X8_refusalOfEdit V a1 a2 a3) fun r7 V7 =>
  bw 0 (f_X9_refuse V7 r7) fun V10 =>
  bv (f_X9_remember V10) fun V14 =>
  bd (f_X8_putLetter V14 a1 a2 a3) fun r24 V24 =>
  some (0, r24, V24)
theorem cv_X9_edit : CalV yX9_edit cX9_edit 4 (some .int) 3 := ⟨⟨⟨by decide +kernel, by decide +kernel⟩, tw_1_1, tw_2_218, by decide +kernel⟩, tw_2_216, tw_2_217⟩
set_option maxRecDepth 100000 in
set_option maxHeartbeats 4000000 in
theorem m_X9_edit (l : Launch) (hT : l.stackTraces = false) (E : En) (ad : Nat → Nat) (V : Mem) (a1 : Int32) (a2 : Int32) (a3 : Int32) (hS : SF E) (k : Nat) (r : Int32) (Vz : Mem) (hf : f_X9_edit V a1 a2 a3 = some (k, r, Vz)) : MX l E ad yX9_edit cX9_edit 4 (some .int) 7 1 6 [.ref (ad 248), .int a1, .int a2, .int a3] V k (some (.int r)) Vz := by
  refine entX (E := E) (ad := ad) (V := V) "LetterRepository" hT (by decide +kernel) rfl (Nat.le_of_ble_eq_true rfl) ?_
  intro p e s m below meth c ls hC hY hI hl
  have hx := hC.1
  have hb := hC.2.1
  have hl : lv_has ls 4 [(0, .ref (ad 248)), (1, .int a1), (2, .int a2), (3, .int a3)] := hl
  unfold f_X9_edit at hf
  refine lv_aload_n hx hb dX9_edit_0 rfl (lv_at hl 0 rfl) ?_
  refine g_248_store hC hI tw_1_213 dX9_edit_1 ?_
  refine lv_iload_n hx hb dX9_edit_4 rfl (lv_at hl 1 rfl) ?_
  refine lv_iload_n hx hb dX9_edit_5 rfl (lv_at hl 2 rfl) ?_
  refine lv_iload_n hx hb dX9_edit_6 rfl (lv_at hl 3 rfl) ?_
  obtain ⟨r7, V7, q7, hf⟩ := gbd hf
  refine k_X8_refusalOfEdit hS hC hI hl.1 q7 tw_2_219 ⟨Nat.le_of_ble_eq_true rfl, Nat.le_of_ble_eq_true rfl⟩ ⟨Nat.le_of_ble_eq_true rfl, Nat.le_of_ble_eq_true rfl⟩ (Nat.le_of_ble_eq_true rfl) dX9_edit_7 (fun H locs hI => ?_)
  obtain ⟨q10, V10, e10, hf⟩ := gbw hf
  refine kx_X9_refuse hS hC hY hI hl.1 e10 tw_2_239 ⟨Nat.le_of_ble_eq_true rfl, Nat.le_of_ble_eq_true rfl⟩ ⟨Nat.le_of_ble_eq_true rfl, Nat.le_of_ble_eq_true rfl⟩ ⟨Nat.le_of_ble_eq_true rfl, Nat.le_of_ble_eq_true rfl⟩ (Nat.le_of_ble_eq_true rfl) dX9_edit_10 (fun h0 => hx3 ((if_neg h0).symm.trans hf)) (fun h0 H locs hI => ?_)
  have hf := (if_pos h0).symm.trans hf
  refine lv_aload_n hx hb dX9_edit_13 rfl (lv_at hl 0 rfl) ?_
  obtain ⟨V14, q14, hf⟩ := gbv hf
  refine k_X9_remember hC hI hl.1 q14 tw_2_5 ⟨Nat.le_of_ble_eq_true rfl, Nat.le_of_ble_eq_true rfl⟩ ⟨Nat.le_of_ble_eq_true rfl, Nat.le_of_ble_eq_true rfl⟩ (Nat.le_of_ble_eq_true rfl) dX9_edit_14 (fun H locs hI => ?_)
  refine lv_aload_n hx hb dX9_edit_17 rfl (lv_at hl 0 rfl) ?_
  refine g_248_store hC hI tw_1_213 dX9_edit_18 ?_
  refine lv_iload_n hx hb dX9_edit_21 rfl (lv_at hl 1 rfl) ?_
  refine lv_iload_n hx hb dX9_edit_22 rfl (lv_at hl 2 rfl) ?_
  refine lv_iload_n hx hb dX9_edit_23 rfl (lv_at hl 3 rfl) ?_
  obtain ⟨r24, V24, q24, hf⟩ := gbd hf
  refine k_X8_putLetter hC hI hl.1 q24 tw_3_126 ⟨Nat.le_of_ble_eq_true rfl, Nat.le_of_ble_eq_true rfl⟩ ⟨Nat.le_of_ble_eq_true rfl, Nat.le_of_ble_eq_true rfl⟩ (Nat.le_of_ble_eq_true rfl) dX9_edit_24 (fun H locs hI => ?_)
  exact x_iret hC hI hf ⟨Nat.le_of_ble_eq_true rfl, Nat.le_of_ble_eq_true rfl⟩ dX9_edit_27
theorem kx_X9_edit {p : Program} {l : Launch} {e : Env} {R : Room} {cells slots mc ms : Nat} {s : State} {m : MethodId} {args : Array Value} {below : List Frame} {meth : Method} {c : Code} {H : Heap} {locs : List Loc} {Qc : Array Value → State → Outcome → State → Prop} {E : En} {ad : Nat → Nat} {V : Mem} {ow : String} {b : ByteArray} {n : Nat} {ret : Option FieldType} {pc index : Nat} {ls : Array Slot} {rest : List Value} {a1 : Int32} {a2 : Int32} {a3 : Int32} {k1 k : Nat} {r : Int32} {V1 Vz : Mem} (hS : SF E) (hC : Cx p s m args c meth E ow b n ret) (hY : Cy l c) (hI : In E ad V s H locs) (hsz : ls.size = n) (hf : f_X9_edit V a1 a2 a3 = some (k1, r, V1)) (hl : Cond.methodLink ow index yX9_edit ∈ TB) (hR : 7 + 1 ≤ R.frames ∧ 8 + (4 + 11) + 40 * 7 ≤ R.locals) (hcs : cells + 1 ≤ R.cells ∧ slots + 6 ≤ R.slots) (hc : cells + 1 ≤ mc ∧ slots + 6 ≤ ms) (hw : (rest.map fun v => v.category).sum ≤ 8) (hdg : decode b pc = .ok (.invokevirtual index, 3)) (hx : k1 ≠ 0 → k1 = k ∧ V1 = Vz) (kk : k1 = 0 → ∀ (H1 : Heap) (locs1 : List Loc), In E ad V1 s H1 locs1 → W p l e R s m args below meth c H1 locs1 (cells + 1) (slots + 6) (vx_MQ below Qc (QX E ad k Vz) args s mc ms (ours E)) (F0 m (pc + 3) ls ((.int r) :: rest))) : W p l e R s m args below meth c H locs cells slots (vx_MQ below Qc (QX E ad k Vz) args s mc ms (ours E)) (F0 m pc ls (.int a3 :: .int a2 :: .int a1 :: .ref (ad 248) :: rest)) :=
  after_callX hC hY hI (xrunV_tb (As := [.int a1, .int a2, .int a3]) (rest := rest) hC hI hsz (m_X9_edit l hY.2 E ad V a1 a2 a3 hS k1 r V1 hf) cv_X9_edit hl (by decide) (ce_248 _) rfl rfl rfl hR hcs hw hdg) hc hx kk

theorem dX9_revert_0 : decode cX9_revert 0 = .ok (.aload_n 0, 1) := by decide +kernel
theorem dX9_revert_1 : decode cX9_revert 1 = .ok (.getfield 10, 3) := by decide +kernel
theorem dX9_revert_4 : decode cX9_revert 4 = .ok (.iload_n 1, 1) := by decide +kernel
theorem dX9_revert_5 : decode cX9_revert 5 = .ok (.invokevirtual 65, 3) := by decide +kernel
theorem dX9_revert_8 : decode cX9_revert 8 = .ok (.invokestatic 54, 3) := by decide +kernel
theorem dX9_revert_11 : decode cX9_revert 11 = .ok (.aload_n 0, 1) := by decide +kernel
theorem dX9_revert_12 : decode cX9_revert 12 = .ok (.invokevirtual 58, 3) := by decide +kernel
theorem dX9_revert_15 : decode cX9_revert 15 = .ok (.aload_n 0, 1) := by decide +kernel
theorem dX9_revert_16 : decode cX9_revert 16 = .ok (.getfield 10, 3) := by decide +kernel
theorem dX9_revert_19 : decode cX9_revert 19 = .ok (.iload_n 1, 1) := by decide +kernel
theorem dX9_revert_20 : decode cX9_revert 20 = .ok (.invokevirtual 69, 3) := by decide +kernel
theorem dX9_revert_23 : decode cX9_revert 23 = .ok (.ireturn, 1) := by decide +kernel
def f_X9_revert (V : Mem) (a1 : Int32) : Option (Nat × Int32 × Mem) :=
  bd (f_X8_refusalOfRevert V a1) fun r5 V5 =>
  bw 0 (f_X9_refuse V5 r5) fun V8 =>
  bv (f_X9_remember V8) fun V12 =>
  bd (f_X8_dropEdits V12 a1) fun r20 V20 =>
  some (0, r20, V20)
theorem cv_X9_revert : CalV yX9_revert cX9_revert 2 (some .int) 1 := ⟨⟨⟨by decide +kernel, by decide +kernel⟩, tw_1_1, tw_3_157, by decide +kernel⟩, tw_3_155, tw_3_156⟩
set_option maxRecDepth 100000 in
set_option maxHeartbeats 4000000 in
theorem m_X9_revert (l : Launch) (hT : l.stackTraces = false) (E : En) (ad : Nat → Nat) (V : Mem) (a1 : Int32) (hS : SF E) (k : Nat) (r : Int32) (Vz : Mem) (hf : f_X9_revert V a1 = some (k, r, Vz)) : MX l E ad yX9_revert cX9_revert 2 (some .int) 7 1 6 [.ref (ad 248), .int a1] V k (some (.int r)) Vz := by
  refine entX (E := E) (ad := ad) (V := V) "LetterRepository" hT (by decide +kernel) rfl (Nat.le_of_ble_eq_true rfl) ?_
  intro p e s m below meth c ls hC hY hI hl
  have hx := hC.1
  have hb := hC.2.1
  have hl : lv_has ls 2 [(0, .ref (ad 248)), (1, .int a1)] := hl
  unfold f_X9_revert at hf
  refine lv_aload_n hx hb dX9_revert_0 rfl (lv_at hl 0 rfl) ?_
  refine g_248_store hC hI tw_1_213 dX9_revert_1 ?_
  refine lv_iload_n hx hb dX9_revert_4 rfl (lv_at hl 1 rfl) ?_
  obtain ⟨r5, V5, q5, hf⟩ := gbd hf
  refine k_X8_refusalOfRevert hS hC hI hl.1 q5 tw_3_158 ⟨Nat.le_of_ble_eq_true rfl, Nat.le_of_ble_eq_true rfl⟩ ⟨Nat.le_of_ble_eq_true rfl, Nat.le_of_ble_eq_true rfl⟩ (Nat.le_of_ble_eq_true rfl) dX9_revert_5 (fun H locs hI => ?_)
  obtain ⟨q8, V8, e8, hf⟩ := gbw hf
  refine kx_X9_refuse hS hC hY hI hl.1 e8 tw_2_239 ⟨Nat.le_of_ble_eq_true rfl, Nat.le_of_ble_eq_true rfl⟩ ⟨Nat.le_of_ble_eq_true rfl, Nat.le_of_ble_eq_true rfl⟩ ⟨Nat.le_of_ble_eq_true rfl, Nat.le_of_ble_eq_true rfl⟩ (Nat.le_of_ble_eq_true rfl) dX9_revert_8 (fun h0 => hx3 ((if_neg h0).symm.trans hf)) (fun h0 H locs hI => ?_)
  have hf := (if_pos h0).symm.trans hf
  refine lv_aload_n hx hb dX9_revert_11 rfl (lv_at hl 0 rfl) ?_
  obtain ⟨V12, q12, hf⟩ := gbv hf
  refine k_X9_remember hC hI hl.1 q12 tw_2_5 ⟨Nat.le_of_ble_eq_true rfl, Nat.le_of_ble_eq_true rfl⟩ ⟨Nat.le_of_ble_eq_true rfl, Nat.le_of_ble_eq_true rfl⟩ (Nat.le_of_ble_eq_true rfl) dX9_revert_12 (fun H locs hI => ?_)
  refine lv_aload_n hx hb dX9_revert_15 rfl (lv_at hl 0 rfl) ?_
  refine g_248_store hC hI tw_1_213 dX9_revert_16 ?_
  refine lv_iload_n hx hb dX9_revert_19 rfl (lv_at hl 1 rfl) ?_
  obtain ⟨r20, V20, q20, hf⟩ := gbd hf
  refine k_X8_dropEdits hC hI hl.1 q20 tw_3_162 ⟨Nat.le_of_ble_eq_true rfl, Nat.le_of_ble_eq_true rfl⟩ ⟨Nat.le_of_ble_eq_true rfl, Nat.le_of_ble_eq_true rfl⟩ (Nat.le_of_ble_eq_true rfl) dX9_revert_20 (fun H locs hI => ?_)
  exact x_iret hC hI hf ⟨Nat.le_of_ble_eq_true rfl, Nat.le_of_ble_eq_true rfl⟩ dX9_revert_23
theorem kx_X9_revert {p : Program} {l : Launch} {e : Env} {R : Room} {cells slots mc ms : Nat} {s : State} {m : MethodId} {args : Array Value} {below : List Frame} {meth : Method} {c : Code} {H : Heap} {locs : List Loc} {Qc : Array Value → State → Outcome → State → Prop} {E : En} {ad : Nat → Nat} {V : Mem} {ow : String} {b : ByteArray} {n : Nat} {ret : Option FieldType} {pc index : Nat} {ls : Array Slot} {rest : List Value} {a1 : Int32} {k1 k : Nat} {r : Int32} {V1 Vz : Mem} (hS : SF E) (hC : Cx p s m args c meth E ow b n ret) (hY : Cy l c) (hI : In E ad V s H locs) (hsz : ls.size = n) (hf : f_X9_revert V a1 = some (k1, r, V1)) (hl : Cond.methodLink ow index yX9_revert ∈ TB) (hR : 7 + 1 ≤ R.frames ∧ 8 + (2 + 11) + 40 * 7 ≤ R.locals) (hcs : cells + 1 ≤ R.cells ∧ slots + 6 ≤ R.slots) (hc : cells + 1 ≤ mc ∧ slots + 6 ≤ ms) (hw : (rest.map fun v => v.category).sum ≤ 8) (hdg : decode b pc = .ok (.invokevirtual index, 3)) (hx : k1 ≠ 0 → k1 = k ∧ V1 = Vz) (kk : k1 = 0 → ∀ (H1 : Heap) (locs1 : List Loc), In E ad V1 s H1 locs1 → W p l e R s m args below meth c H1 locs1 (cells + 1) (slots + 6) (vx_MQ below Qc (QX E ad k Vz) args s mc ms (ours E)) (F0 m (pc + 3) ls ((.int r) :: rest))) : W p l e R s m args below meth c H locs cells slots (vx_MQ below Qc (QX E ad k Vz) args s mc ms (ours E)) (F0 m pc ls (.int a1 :: .ref (ad 248) :: rest)) :=
  after_callX hC hY hI (xrunV_tb (As := [.int a1]) (rest := rest) hC hI hsz (m_X9_revert l hY.2 E ad V a1 hS k1 r V1 hf) cv_X9_revert hl (by decide) (ce_248 _) rfl rfl rfl hR hcs hw hdg) hc hx kk

theorem dX9_commit_0 : decode cX9_commit 0 = .ok (.aload_n 0, 1) := by decide +kernel
theorem dX9_commit_1 : decode cX9_commit 1 = .ok (.getfield 10, 3) := by decide +kernel
theorem dX9_commit_4 : decode cX9_commit 4 = .ok (.iload_n 1, 1) := by decide +kernel
theorem dX9_commit_5 : decode cX9_commit 5 = .ok (.iload_n 2, 1) := by decide +kernel
theorem dX9_commit_6 : decode cX9_commit 6 = .ok (.invokevirtual 73, 3) := by decide +kernel
theorem dX9_commit_9 : decode cX9_commit 9 = .ok (.invokestatic 54, 3) := by decide +kernel
theorem dX9_commit_12 : decode cX9_commit 12 = .ok (.aload_n 0, 1) := by decide +kernel
theorem dX9_commit_13 : decode cX9_commit 13 = .ok (.invokevirtual 58, 3) := by decide +kernel
theorem dX9_commit_16 : decode cX9_commit 16 = .ok (.aload_n 0, 1) := by decide +kernel
theorem dX9_commit_17 : decode cX9_commit 17 = .ok (.getfield 10, 3) := by decide +kernel
theorem dX9_commit_20 : decode cX9_commit 20 = .ok (.iload_n 1, 1) := by decide +kernel
theorem dX9_commit_21 : decode cX9_commit 21 = .ok (.iload_n 2, 1) := by decide +kernel
theorem dX9_commit_22 : decode cX9_commit 22 = .ok (.invokevirtual 77, 3) := by decide +kernel
theorem dX9_commit_25 : decode cX9_commit 25 = .ok (.ireturn, 1) := by decide +kernel
def f_X9_commit (V : Mem) (a1 : Int32) (a2 : Int32) : Option (Nat × Int32 × Mem) :=
  bd (f_X8_refusalOfCommit V a1 a2) fun r6 V6 =>
  bw 0 (f_X9_refuse V6 r6) fun V9 =>
  bv (f_X9_remember V9) fun V13 =>
  bd (f_X8_commitWorking V13 a1 a2) fun r22 V22 =>
  some (0, r22, V22)
theorem cv_X9_commit : CalV yX9_commit cX9_commit 3 (some .int) 2 := ⟨⟨⟨by decide +kernel, by decide +kernel⟩, tw_1_1, tw_3_177, by decide +kernel⟩, tw_3_175, tw_3_176⟩
set_option maxRecDepth 100000 in
set_option maxHeartbeats 4000000 in
theorem m_X9_commit (l : Launch) (hT : l.stackTraces = false) (E : En) (ad : Nat → Nat) (V : Mem) (a1 : Int32) (a2 : Int32) (hS : SF E) (k : Nat) (r : Int32) (Vz : Mem) (hf : f_X9_commit V a1 a2 = some (k, r, Vz)) : MX l E ad yX9_commit cX9_commit 3 (some .int) 7 1 6 [.ref (ad 248), .int a1, .int a2] V k (some (.int r)) Vz := by
  refine entX (E := E) (ad := ad) (V := V) "LetterRepository" hT (by decide +kernel) rfl (Nat.le_of_ble_eq_true rfl) ?_
  intro p e s m below meth c ls hC hY hI hl
  have hx := hC.1
  have hb := hC.2.1
  have hl : lv_has ls 3 [(0, .ref (ad 248)), (1, .int a1), (2, .int a2)] := hl
  unfold f_X9_commit at hf
  refine lv_aload_n hx hb dX9_commit_0 rfl (lv_at hl 0 rfl) ?_
  refine g_248_store hC hI tw_1_213 dX9_commit_1 ?_
  refine lv_iload_n hx hb dX9_commit_4 rfl (lv_at hl 1 rfl) ?_
  refine lv_iload_n hx hb dX9_commit_5 rfl (lv_at hl 2 rfl) ?_
  obtain ⟨r6, V6, q6, hf⟩ := gbd hf
  refine k_X8_refusalOfCommit hS hC hI hl.1 q6 tw_3_178 ⟨Nat.le_of_ble_eq_true rfl, Nat.le_of_ble_eq_true rfl⟩ ⟨Nat.le_of_ble_eq_true rfl, Nat.le_of_ble_eq_true rfl⟩ (Nat.le_of_ble_eq_true rfl) dX9_commit_6 (fun H locs hI => ?_)
  obtain ⟨q9, V9, e9, hf⟩ := gbw hf
  refine kx_X9_refuse hS hC hY hI hl.1 e9 tw_2_239 ⟨Nat.le_of_ble_eq_true rfl, Nat.le_of_ble_eq_true rfl⟩ ⟨Nat.le_of_ble_eq_true rfl, Nat.le_of_ble_eq_true rfl⟩ ⟨Nat.le_of_ble_eq_true rfl, Nat.le_of_ble_eq_true rfl⟩ (Nat.le_of_ble_eq_true rfl) dX9_commit_9 (fun h0 => hx3 ((if_neg h0).symm.trans hf)) (fun h0 H locs hI => ?_)
  have hf := (if_pos h0).symm.trans hf
  refine lv_aload_n hx hb dX9_commit_12 rfl (lv_at hl 0 rfl) ?_
  obtain ⟨V13, q13, hf⟩ := gbv hf
  refine k_X9_remember hC hI hl.1 q13 tw_2_5 ⟨Nat.le_of_ble_eq_true rfl, Nat.le_of_ble_eq_true rfl⟩ ⟨Nat.le_of_ble_eq_true rfl, Nat.le_of_ble_eq_true rfl⟩ (Nat.le_of_ble_eq_true rfl) dX9_commit_13 (fun H locs hI => ?_)
  refine lv_aload_n hx hb dX9_commit_16 rfl (lv_at hl 0 rfl) ?_
  refine g_248_store hC hI tw_1_213 dX9_commit_17 ?_
  refine lv_iload_n hx hb dX9_commit_20 rfl (lv_at hl 1 rfl) ?_
  refine lv_iload_n hx hb dX9_commit_21 rfl (lv_at hl 2 rfl) ?_
  obtain ⟨r22, V22, q22, hf⟩ := gbd hf
  refine k_X8_commitWorking hC hI hl.1 q22 tw_3_190 ⟨Nat.le_of_ble_eq_true rfl, Nat.le_of_ble_eq_true rfl⟩ ⟨Nat.le_of_ble_eq_true rfl, Nat.le_of_ble_eq_true rfl⟩ (Nat.le_of_ble_eq_true rfl) dX9_commit_22 (fun H locs hI => ?_)
  exact x_iret hC hI hf ⟨Nat.le_of_ble_eq_true rfl, Nat.le_of_ble_eq_true rfl⟩ dX9_commit_25
theorem kx_X9_commit {p : Program} {l : Launch} {e : Env} {R : Room} {cells slots mc ms : Nat} {s : State} {m : MethodId} {args : Array Value} {below : List Frame} {meth : Method} {c : Code} {H : Heap} {locs : List Loc} {Qc : Array Value → State → Outcome → State → Prop} {E : En} {ad : Nat → Nat} {V : Mem} {ow : String} {b : ByteArray} {n : Nat} {ret : Option FieldType} {pc index : Nat} {ls : Array Slot} {rest : List Value} {a1 : Int32} {a2 : Int32} {k1 k : Nat} {r : Int32} {V1 Vz : Mem} (hS : SF E) (hC : Cx p s m args c meth E ow b n ret) (hY : Cy l c) (hI : In E ad V s H locs) (hsz : ls.size = n) (hf : f_X9_commit V a1 a2 = some (k1, r, V1)) (hl : Cond.methodLink ow index yX9_commit ∈ TB) (hR : 7 + 1 ≤ R.frames ∧ 8 + (3 + 11) + 40 * 7 ≤ R.locals) (hcs : cells + 1 ≤ R.cells ∧ slots + 6 ≤ R.slots) (hc : cells + 1 ≤ mc ∧ slots + 6 ≤ ms) (hw : (rest.map fun v => v.category).sum ≤ 8) (hdg : decode b pc = .ok (.invokevirtual index, 3)) (hx : k1 ≠ 0 → k1 = k ∧ V1 = Vz) (kk : k1 = 0 → ∀ (H1 : Heap) (locs1 : List Loc), In E ad V1 s H1 locs1 → W p l e R s m args below meth c H1 locs1 (cells + 1) (slots + 6) (vx_MQ below Qc (QX E ad k Vz) args s mc ms (ours E)) (F0 m (pc + 3) ls ((.int r) :: rest))) : W p l e R s m args below meth c H locs cells slots (vx_MQ below Qc (QX E ad k Vz) args s mc ms (ours E)) (F0 m pc ls (.int a2 :: .int a1 :: .ref (ad 248) :: rest)) :=
  after_callX hC hY hI (xrunV_tb (As := [.int a1, .int a2]) (rest := rest) hC hI hsz (m_X9_commit l hY.2 E ad V a1 a2 hS k1 r V1 hf) cv_X9_commit hl (by decide) (ce_248 _) rfl rfl rfl hR hcs hw hdg) hc hx kk

theorem dX9_createBranch_0 : decode cX9_createBranch 0 = .ok (.aload_n 0, 1) := by decide +kernel
theorem dX9_createBranch_1 : decode cX9_createBranch 1 = .ok (.getfield 10, 3) := by decide +kernel
theorem dX9_createBranch_4 : decode cX9_createBranch 4 = .ok (.iload_n 1, 1) := by decide +kernel
theorem dX9_createBranch_5 : decode cX9_createBranch 5 = .ok (.invokevirtual 81, 3) := by decide +kernel
theorem dX9_createBranch_8 : decode cX9_createBranch 8 = .ok (.invokestatic 54, 3) := by decide +kernel
theorem dX9_createBranch_11 : decode cX9_createBranch 11 = .ok (.aload_n 0, 1) := by decide +kernel
theorem dX9_createBranch_12 : decode cX9_createBranch 12 = .ok (.invokevirtual 58, 3) := by decide +kernel
theorem dX9_createBranch_15 : decode cX9_createBranch 15 = .ok (.aload_n 0, 1) := by decide +kernel
theorem dX9_createBranch_16 : decode cX9_createBranch 16 = .ok (.getfield 10, 3) := by decide +kernel
theorem dX9_createBranch_19 : decode cX9_createBranch 19 = .ok (.iload_n 1, 1) := by decide +kernel
theorem dX9_createBranch_20 : decode cX9_createBranch 20 = .ok (.invokevirtual 84, 3) := by decide +kernel
theorem dX9_createBranch_23 : decode cX9_createBranch 23 = .ok (.ireturn, 1) := by decide +kernel
def f_X9_createBranch (V : Mem) (a1 : Int32) : Option (Nat × Int32 × Mem) :=
  bd (f_X8_refusalOfBranching V a1) fun r5 V5 =>
  bw 0 (f_X9_refuse V5 r5) fun V8 =>
  bv (f_X9_remember V8) fun V12 =>
  bd (f_X8_openBranch V12 a1) fun r20 V20 =>
  some (0, r20, V20)
theorem cv_X9_createBranch : CalV yX9_createBranch cX9_createBranch 2 (some .int) 1 := ⟨⟨⟨by decide +kernel, by decide +kernel⟩, tw_1_1, tw_3_213, by decide +kernel⟩, tw_3_211, tw_3_212⟩
set_option maxRecDepth 100000 in
set_option maxHeartbeats 4000000 in
theorem m_X9_createBranch (l : Launch) (hT : l.stackTraces = false) (E : En) (ad : Nat → Nat) (V : Mem) (a1 : Int32) (hS : SF E) (k : Nat) (r : Int32) (Vz : Mem) (hf : f_X9_createBranch V a1 = some (k, r, Vz)) : MX l E ad yX9_createBranch cX9_createBranch 2 (some .int) 7 1 6 [.ref (ad 248), .int a1] V k (some (.int r)) Vz := by
  refine entX (E := E) (ad := ad) (V := V) "LetterRepository" hT (by decide +kernel) rfl (Nat.le_of_ble_eq_true rfl) ?_
  intro p e s m below meth c ls hC hY hI hl
  have hx := hC.1
  have hb := hC.2.1
  have hl : lv_has ls 2 [(0, .ref (ad 248)), (1, .int a1)] := hl
  unfold f_X9_createBranch at hf
  refine lv_aload_n hx hb dX9_createBranch_0 rfl (lv_at hl 0 rfl) ?_
  refine g_248_store hC hI tw_1_213 dX9_createBranch_1 ?_
  refine lv_iload_n hx hb dX9_createBranch_4 rfl (lv_at hl 1 rfl) ?_
  obtain ⟨r5, V5, q5, hf⟩ := gbd hf
  refine k_X8_refusalOfBranching hS hC hI hl.1 q5 tw_3_214 ⟨Nat.le_of_ble_eq_true rfl, Nat.le_of_ble_eq_true rfl⟩ ⟨Nat.le_of_ble_eq_true rfl, Nat.le_of_ble_eq_true rfl⟩ (Nat.le_of_ble_eq_true rfl) dX9_createBranch_5 (fun H locs hI => ?_)
  obtain ⟨q8, V8, e8, hf⟩ := gbw hf
  refine kx_X9_refuse hS hC hY hI hl.1 e8 tw_2_239 ⟨Nat.le_of_ble_eq_true rfl, Nat.le_of_ble_eq_true rfl⟩ ⟨Nat.le_of_ble_eq_true rfl, Nat.le_of_ble_eq_true rfl⟩ ⟨Nat.le_of_ble_eq_true rfl, Nat.le_of_ble_eq_true rfl⟩ (Nat.le_of_ble_eq_true rfl) dX9_createBranch_8 (fun h0 => hx3 ((if_neg h0).symm.trans hf)) (fun h0 H locs hI => ?_)
  have hf := (if_pos h0).symm.trans hf
  refine lv_aload_n hx hb dX9_createBranch_11 rfl (lv_at hl 0 rfl) ?_
  obtain ⟨V12, q12, hf⟩ := gbv hf
  refine k_X9_remember hC hI hl.1 q12 tw_2_5 ⟨Nat.le_of_ble_eq_true rfl, Nat.le_of_ble_eq_true rfl⟩ ⟨Nat.le_of_ble_eq_true rfl, Nat.le_of_ble_eq_true rfl⟩ (Nat.le_of_ble_eq_true rfl) dX9_createBranch_12 (fun H locs hI => ?_)
  refine lv_aload_n hx hb dX9_createBranch_15 rfl (lv_at hl 0 rfl) ?_
  refine g_248_store hC hI tw_1_213 dX9_createBranch_16 ?_
  refine lv_iload_n hx hb dX9_createBranch_19 rfl (lv_at hl 1 rfl) ?_
  obtain ⟨r20, V20, q20, hf⟩ := gbd hf
  refine k_X8_openBranch hC hI hl.1 q20 tw_3_227 ⟨Nat.le_of_ble_eq_true rfl, Nat.le_of_ble_eq_true rfl⟩ ⟨Nat.le_of_ble_eq_true rfl, Nat.le_of_ble_eq_true rfl⟩ (Nat.le_of_ble_eq_true rfl) dX9_createBranch_20 (fun H locs hI => ?_)
  exact x_iret hC hI hf ⟨Nat.le_of_ble_eq_true rfl, Nat.le_of_ble_eq_true rfl⟩ dX9_createBranch_23
theorem kx_X9_createBranch {p : Program} {l : Launch} {e : Env} {R : Room} {cells slots mc ms : Nat} {s : State} {m : MethodId} {args : Array Value} {below : List Frame} {meth : Method} {c : Code} {H : Heap} {locs : List Loc} {Qc : Array Value → State → Outcome → State → Prop} {E : En} {ad : Nat → Nat} {V : Mem} {ow : String} {b : ByteArray} {n : Nat} {ret : Option FieldType} {pc index : Nat} {ls : Array Slot} {rest : List Value} {a1 : Int32} {k1 k : Nat} {r : Int32} {V1 Vz : Mem} (hS : SF E) (hC : Cx p s m args c meth E ow b n ret) (hY : Cy l c) (hI : In E ad V s H locs) (hsz : ls.size = n) (hf : f_X9_createBranch V a1 = some (k1, r, V1)) (hl : Cond.methodLink ow index yX9_createBranch ∈ TB) (hR : 7 + 1 ≤ R.frames ∧ 8 + (2 + 11) + 40 * 7 ≤ R.locals) (hcs : cells + 1 ≤ R.cells ∧ slots + 6 ≤ R.slots) (hc : cells + 1 ≤ mc ∧ slots + 6 ≤ ms) (hw : (rest.map fun v => v.category).sum ≤ 8) (hdg : decode b pc = .ok (.invokevirtual index, 3)) (hx : k1 ≠ 0 → k1 = k ∧ V1 = Vz) (kk : k1 = 0 → ∀ (H1 : Heap) (locs1 : List Loc), In E ad V1 s H1 locs1 → W p l e R s m args below meth c H1 locs1 (cells + 1) (slots + 6) (vx_MQ below Qc (QX E ad k Vz) args s mc ms (ours E)) (F0 m (pc + 3) ls ((.int r) :: rest))) : W p l e R s m args below meth c H locs cells slots (vx_MQ below Qc (QX E ad k Vz) args s mc ms (ours E)) (F0 m pc ls (.int a1 :: .ref (ad 248) :: rest)) :=
  after_callX hC hY hI (xrunV_tb (As := [.int a1]) (rest := rest) hC hI hsz (m_X9_createBranch l hY.2 E ad V a1 hS k1 r V1 hf) cv_X9_createBranch hl (by decide) (ce_248 _) rfl rfl rfl hR hcs hw hdg) hc hx kk

theorem dX9_closeBranch_0 : decode cX9_closeBranch 0 = .ok (.aload_n 0, 1) := by decide +kernel
theorem dX9_closeBranch_1 : decode cX9_closeBranch 1 = .ok (.getfield 10, 3) := by decide +kernel
theorem dX9_closeBranch_4 : decode cX9_closeBranch 4 = .ok (.iload_n 1, 1) := by decide +kernel
theorem dX9_closeBranch_5 : decode cX9_closeBranch 5 = .ok (.invokevirtual 87, 3) := by decide +kernel
theorem dX9_closeBranch_8 : decode cX9_closeBranch 8 = .ok (.invokestatic 54, 3) := by decide +kernel
theorem dX9_closeBranch_11 : decode cX9_closeBranch 11 = .ok (.aload_n 0, 1) := by decide +kernel
theorem dX9_closeBranch_12 : decode cX9_closeBranch 12 = .ok (.invokevirtual 58, 3) := by decide +kernel
theorem dX9_closeBranch_15 : decode cX9_closeBranch 15 = .ok (.aload_n 0, 1) := by decide +kernel
theorem dX9_closeBranch_16 : decode cX9_closeBranch 16 = .ok (.getfield 10, 3) := by decide +kernel
theorem dX9_closeBranch_19 : decode cX9_closeBranch 19 = .ok (.iload_n 1, 1) := by decide +kernel
theorem dX9_closeBranch_20 : decode cX9_closeBranch 20 = .ok (.invokevirtual 90, 3) := by decide +kernel
theorem dX9_closeBranch_23 : decode cX9_closeBranch 23 = .ok (.ireturn, 1) := by decide +kernel
def f_X9_closeBranch (V : Mem) (a1 : Int32) : Option (Nat × Int32 × Mem) :=
  bd (f_X8_refusalOfClosing V a1) fun r5 V5 =>
  bw 0 (f_X9_refuse V5 r5) fun V8 =>
  bv (f_X9_remember V8) fun V12 =>
  bd (f_X8_dropBranch V12 a1) fun r20 V20 =>
  some (0, r20, V20)
theorem cv_X9_closeBranch : CalV yX9_closeBranch cX9_closeBranch 2 (some .int) 1 := ⟨⟨⟨by decide +kernel, by decide +kernel⟩, tw_1_1, tw_3_237, by decide +kernel⟩, tw_3_235, tw_3_236⟩
set_option maxRecDepth 100000 in
set_option maxHeartbeats 4000000 in
theorem m_X9_closeBranch (l : Launch) (hT : l.stackTraces = false) (E : En) (ad : Nat → Nat) (V : Mem) (a1 : Int32) (hS : SF E) (k : Nat) (r : Int32) (Vz : Mem) (hf : f_X9_closeBranch V a1 = some (k, r, Vz)) : MX l E ad yX9_closeBranch cX9_closeBranch 2 (some .int) 7 1 6 [.ref (ad 248), .int a1] V k (some (.int r)) Vz := by
  refine entX (E := E) (ad := ad) (V := V) "LetterRepository" hT (by decide +kernel) rfl (Nat.le_of_ble_eq_true rfl) ?_
  intro p e s m below meth c ls hC hY hI hl
  have hx := hC.1
  have hb := hC.2.1
  have hl : lv_has ls 2 [(0, .ref (ad 248)), (1, .int a1)] := hl
  unfold f_X9_closeBranch at hf
  refine lv_aload_n hx hb dX9_closeBranch_0 rfl (lv_at hl 0 rfl) ?_
  refine g_248_store hC hI tw_1_213 dX9_closeBranch_1 ?_
  refine lv_iload_n hx hb dX9_closeBranch_4 rfl (lv_at hl 1 rfl) ?_
  obtain ⟨r5, V5, q5, hf⟩ := gbd hf
  refine k_X8_refusalOfClosing hS hC hI hl.1 q5 tw_3_238 ⟨Nat.le_of_ble_eq_true rfl, Nat.le_of_ble_eq_true rfl⟩ ⟨Nat.le_of_ble_eq_true rfl, Nat.le_of_ble_eq_true rfl⟩ (Nat.le_of_ble_eq_true rfl) dX9_closeBranch_5 (fun H locs hI => ?_)
  obtain ⟨q8, V8, e8, hf⟩ := gbw hf
  refine kx_X9_refuse hS hC hY hI hl.1 e8 tw_2_239 ⟨Nat.le_of_ble_eq_true rfl, Nat.le_of_ble_eq_true rfl⟩ ⟨Nat.le_of_ble_eq_true rfl, Nat.le_of_ble_eq_true rfl⟩ ⟨Nat.le_of_ble_eq_true rfl, Nat.le_of_ble_eq_true rfl⟩ (Nat.le_of_ble_eq_true rfl) dX9_closeBranch_8 (fun h0 => hx3 ((if_neg h0).symm.trans hf)) (fun h0 H locs hI => ?_)
  have hf := (if_pos h0).symm.trans hf
  refine lv_aload_n hx hb dX9_closeBranch_11 rfl (lv_at hl 0 rfl) ?_
  obtain ⟨V12, q12, hf⟩ := gbv hf
  refine k_X9_remember hC hI hl.1 q12 tw_2_5 ⟨Nat.le_of_ble_eq_true rfl, Nat.le_of_ble_eq_true rfl⟩ ⟨Nat.le_of_ble_eq_true rfl, Nat.le_of_ble_eq_true rfl⟩ (Nat.le_of_ble_eq_true rfl) dX9_closeBranch_12 (fun H locs hI => ?_)
  refine lv_aload_n hx hb dX9_closeBranch_15 rfl (lv_at hl 0 rfl) ?_
  refine g_248_store hC hI tw_1_213 dX9_closeBranch_16 ?_
  refine lv_iload_n hx hb dX9_closeBranch_19 rfl (lv_at hl 1 rfl) ?_
  obtain ⟨r20, V20, q20, hf⟩ := gbd hf
  refine k_X8_dropBranch hC hI hl.1 q20 tw_4_2 ⟨Nat.le_of_ble_eq_true rfl, Nat.le_of_ble_eq_true rfl⟩ ⟨Nat.le_of_ble_eq_true rfl, Nat.le_of_ble_eq_true rfl⟩ (Nat.le_of_ble_eq_true rfl) dX9_closeBranch_20 (fun H locs hI => ?_)
  exact x_iret hC hI hf ⟨Nat.le_of_ble_eq_true rfl, Nat.le_of_ble_eq_true rfl⟩ dX9_closeBranch_23
theorem kx_X9_closeBranch {p : Program} {l : Launch} {e : Env} {R : Room} {cells slots mc ms : Nat} {s : State} {m : MethodId} {args : Array Value} {below : List Frame} {meth : Method} {c : Code} {H : Heap} {locs : List Loc} {Qc : Array Value → State → Outcome → State → Prop} {E : En} {ad : Nat → Nat} {V : Mem} {ow : String} {b : ByteArray} {n : Nat} {ret : Option FieldType} {pc index : Nat} {ls : Array Slot} {rest : List Value} {a1 : Int32} {k1 k : Nat} {r : Int32} {V1 Vz : Mem} (hS : SF E) (hC : Cx p s m args c meth E ow b n ret) (hY : Cy l c) (hI : In E ad V s H locs) (hsz : ls.size = n) (hf : f_X9_closeBranch V a1 = some (k1, r, V1)) (hl : Cond.methodLink ow index yX9_closeBranch ∈ TB) (hR : 7 + 1 ≤ R.frames ∧ 8 + (2 + 11) + 40 * 7 ≤ R.locals) (hcs : cells + 1 ≤ R.cells ∧ slots + 6 ≤ R.slots) (hc : cells + 1 ≤ mc ∧ slots + 6 ≤ ms) (hw : (rest.map fun v => v.category).sum ≤ 8) (hdg : decode b pc = .ok (.invokevirtual index, 3)) (hx : k1 ≠ 0 → k1 = k ∧ V1 = Vz) (kk : k1 = 0 → ∀ (H1 : Heap) (locs1 : List Loc), In E ad V1 s H1 locs1 → W p l e R s m args below meth c H1 locs1 (cells + 1) (slots + 6) (vx_MQ below Qc (QX E ad k Vz) args s mc ms (ours E)) (F0 m (pc + 3) ls ((.int r) :: rest))) : W p l e R s m args below meth c H locs cells slots (vx_MQ below Qc (QX E ad k Vz) args s mc ms (ours E)) (F0 m pc ls (.int a1 :: .ref (ad 248) :: rest)) :=
  after_callX hC hY hI (xrunV_tb (As := [.int a1]) (rest := rest) hC hI hsz (m_X9_closeBranch l hY.2 E ad V a1 hS k1 r V1 hf) cv_X9_closeBranch hl (by decide) (ce_248 _) rfl rfl rfl hR hcs hw hdg) hc hx kk

theorem dX9_merge_0 : decode cX9_merge 0 = .ok (.aload_n 0, 1) := by decide +kernel
theorem dX9_merge_1 : decode cX9_merge 1 = .ok (.getfield 10, 3) := by decide +kernel
theorem dX9_merge_4 : decode cX9_merge 4 = .ok (.iload_n 1, 1) := by decide +kernel
theorem dX9_merge_5 : decode cX9_merge 5 = .ok (.iload_n 2, 1) := by decide +kernel
theorem dX9_merge_6 : decode cX9_merge 6 = .ok (.invokevirtual 93, 3) := by decide +kernel
theorem dX9_merge_9 : decode cX9_merge 9 = .ok (.invokestatic 54, 3) := by decide +kernel
theorem dX9_merge_12 : decode cX9_merge 12 = .ok (.aload_n 0, 1) := by decide +kernel
theorem dX9_merge_13 : decode cX9_merge 13 = .ok (.invokevirtual 58, 3) := by decide +kernel
theorem dX9_merge_16 : decode cX9_merge 16 = .ok (.aload_n 0, 1) := by decide +kernel
theorem dX9_merge_17 : decode cX9_merge 17 = .ok (.getfield 10, 3) := by decide +kernel
theorem dX9_merge_20 : decode cX9_merge 20 = .ok (.iload_n 1, 1) := by decide +kernel
theorem dX9_merge_21 : decode cX9_merge 21 = .ok (.iload_n 2, 1) := by decide +kernel
theorem dX9_merge_22 : decode cX9_merge 22 = .ok (.iconst 1, 1) := by decide +kernel
theorem dX9_merge_23 : decode cX9_merge 23 = .ok (.invokevirtual 96, 3) := by decide +kernel
theorem dX9_merge_26 : decode cX9_merge 26 = .ok (.ireturn, 1) := by decide +kernel
def f_X9_merge (V : Mem) (a1 : Int32) (a2 : Int32) : Option (Nat × Int32 × Mem) :=
  bd (f_X8_refusalOfMerge V a1 a2) fun r6 V6 =>
  bw 0 (f_X9_refuse V6 r6) fun V9 =>
  bv (f_X9_remember V9) fun V13 =>
  bd (f_X8_mergeHeads V13 a1 a2 1) fun r23 V23 =>
  some (0, r23, V23)
theorem cv_X9_merge : CalV yX9_merge cX9_merge 3 (some .int) 2 := ⟨⟨⟨by decide +kernel, by decide +kernel⟩, tw_1_1, tw_4_12, by decide +kernel⟩, tw_4_10, tw_4_11⟩
set_option maxRecDepth 100000 in
set_option maxHeartbeats 4000000 in
theorem m_X9_merge (l : Launch) (hT : l.stackTraces = false) (E : En) (ad : Nat → Nat) (V : Mem) (a1 : Int32) (a2 : Int32) (hS : SF E) (k : Nat) (r : Int32) (Vz : Mem) (hf : f_X9_merge V a1 a2 = some (k, r, Vz)) : MX l E ad yX9_merge cX9_merge 3 (some .int) 7 1 6 [.ref (ad 248), .int a1, .int a2] V k (some (.int r)) Vz := by
  refine entX (E := E) (ad := ad) (V := V) "LetterRepository" hT (by decide +kernel) rfl (Nat.le_of_ble_eq_true rfl) ?_
  intro p e s m below meth c ls hC hY hI hl
  have hx := hC.1
  have hb := hC.2.1
  have hl : lv_has ls 3 [(0, .ref (ad 248)), (1, .int a1), (2, .int a2)] := hl
  unfold f_X9_merge at hf
  refine lv_aload_n hx hb dX9_merge_0 rfl (lv_at hl 0 rfl) ?_
  refine g_248_store hC hI tw_1_213 dX9_merge_1 ?_
  refine lv_iload_n hx hb dX9_merge_4 rfl (lv_at hl 1 rfl) ?_
  refine lv_iload_n hx hb dX9_merge_5 rfl (lv_at hl 2 rfl) ?_
  obtain ⟨r6, V6, q6, hf⟩ := gbd hf
  refine k_X8_refusalOfMerge hS hC hI hl.1 q6 tw_4_13 ⟨Nat.le_of_ble_eq_true rfl, Nat.le_of_ble_eq_true rfl⟩ ⟨Nat.le_of_ble_eq_true rfl, Nat.le_of_ble_eq_true rfl⟩ (Nat.le_of_ble_eq_true rfl) dX9_merge_6 (fun H locs hI => ?_)
  obtain ⟨q9, V9, e9, hf⟩ := gbw hf
  refine kx_X9_refuse hS hC hY hI hl.1 e9 tw_2_239 ⟨Nat.le_of_ble_eq_true rfl, Nat.le_of_ble_eq_true rfl⟩ ⟨Nat.le_of_ble_eq_true rfl, Nat.le_of_ble_eq_true rfl⟩ ⟨Nat.le_of_ble_eq_true rfl, Nat.le_of_ble_eq_true rfl⟩ (Nat.le_of_ble_eq_true rfl) dX9_merge_9 (fun h0 => hx3 ((if_neg h0).symm.trans hf)) (fun h0 H locs hI => ?_)
  have hf := (if_pos h0).symm.trans hf
  refine lv_aload_n hx hb dX9_merge_12 rfl (lv_at hl 0 rfl) ?_
  obtain ⟨V13, q13, hf⟩ := gbv hf
  refine k_X9_remember hC hI hl.1 q13 tw_2_5 ⟨Nat.le_of_ble_eq_true rfl, Nat.le_of_ble_eq_true rfl⟩ ⟨Nat.le_of_ble_eq_true rfl, Nat.le_of_ble_eq_true rfl⟩ (Nat.le_of_ble_eq_true rfl) dX9_merge_13 (fun H locs hI => ?_)
  refine lv_aload_n hx hb dX9_merge_16 rfl (lv_at hl 0 rfl) ?_
  refine g_248_store hC hI tw_1_213 dX9_merge_17 ?_
  refine lv_iload_n hx hb dX9_merge_20 rfl (lv_at hl 1 rfl) ?_
  refine lv_iload_n hx hb dX9_merge_21 rfl (lv_at hl 2 rfl) ?_
  refine lv_iconst (v := 1) hx hb dX9_merge_22 rfl ?_
  obtain ⟨r23, V23, q23, hf⟩ := gbd hf
  refine k_X8_mergeHeads hC hI hl.1 q23 tw_4_34 ⟨Nat.le_of_ble_eq_true rfl, Nat.le_of_ble_eq_true rfl⟩ ⟨Nat.le_of_ble_eq_true rfl, Nat.le_of_ble_eq_true rfl⟩ (Nat.le_of_ble_eq_true rfl) dX9_merge_23 (fun H locs hI => ?_)
  exact x_iret hC hI hf ⟨Nat.le_of_ble_eq_true rfl, Nat.le_of_ble_eq_true rfl⟩ dX9_merge_26
theorem kx_X9_merge {p : Program} {l : Launch} {e : Env} {R : Room} {cells slots mc ms : Nat} {s : State} {m : MethodId} {args : Array Value} {below : List Frame} {meth : Method} {c : Code} {H : Heap} {locs : List Loc} {Qc : Array Value → State → Outcome → State → Prop} {E : En} {ad : Nat → Nat} {V : Mem} {ow : String} {b : ByteArray} {n : Nat} {ret : Option FieldType} {pc index : Nat} {ls : Array Slot} {rest : List Value} {a1 : Int32} {a2 : Int32} {k1 k : Nat} {r : Int32} {V1 Vz : Mem} (hS : SF E) (hC : Cx p s m args c meth E ow b n ret) (hY : Cy l c) (hI : In E ad V s H locs) (hsz : ls.size = n) (hf : f_X9_merge V a1 a2 = some (k1, r, V1)) (hl : Cond.methodLink ow index yX9_merge ∈ TB) (hR : 7 + 1 ≤ R.frames ∧ 8 + (3 + 11) + 40 * 7 ≤ R.locals) (hcs : cells + 1 ≤ R.cells ∧ slots + 6 ≤ R.slots) (hc : cells + 1 ≤ mc ∧ slots + 6 ≤ ms) (hw : (rest.map fun v => v.category).sum ≤ 8) (hdg : decode b pc = .ok (.invokevirtual index, 3)) (hx : k1 ≠ 0 → k1 = k ∧ V1 = Vz) (kk : k1 = 0 → ∀ (H1 : Heap) (locs1 : List Loc), In E ad V1 s H1 locs1 → W p l e R s m args below meth c H1 locs1 (cells + 1) (slots + 6) (vx_MQ below Qc (QX E ad k Vz) args s mc ms (ours E)) (F0 m (pc + 3) ls ((.int r) :: rest))) : W p l e R s m args below meth c H locs cells slots (vx_MQ below Qc (QX E ad k Vz) args s mc ms (ours E)) (F0 m pc ls (.int a2 :: .int a1 :: .ref (ad 248) :: rest)) :=
  after_callX hC hY hI (xrunV_tb (As := [.int a1, .int a2]) (rest := rest) hC hI hsz (m_X9_merge l hY.2 E ad V a1 a2 hS k1 r V1 hf) cv_X9_merge hl (by decide) (ce_248 _) rfl rfl rfl hR hcs hw hdg) hc hx kk

theorem dX9_mergeKeeping_0 : decode cX9_mergeKeeping 0 = .ok (.aload_n 0, 1) := by decide +kernel
theorem dX9_mergeKeeping_1 : decode cX9_mergeKeeping 1 = .ok (.getfield 10, 3) := by decide +kernel
theorem dX9_mergeKeeping_4 : decode cX9_mergeKeeping 4 = .ok (.iload_n 1, 1) := by decide +kernel
theorem dX9_mergeKeeping_5 : decode cX9_mergeKeeping 5 = .ok (.iload_n 2, 1) := by decide +kernel
theorem dX9_mergeKeeping_6 : decode cX9_mergeKeeping 6 = .ok (.invokevirtual 100, 3) := by decide +kernel
theorem dX9_mergeKeeping_9 : decode cX9_mergeKeeping 9 = .ok (.invokestatic 54, 3) := by decide +kernel
theorem dX9_mergeKeeping_12 : decode cX9_mergeKeeping 12 = .ok (.aload_n 0, 1) := by decide +kernel
theorem dX9_mergeKeeping_13 : decode cX9_mergeKeeping 13 = .ok (.invokevirtual 58, 3) := by decide +kernel
theorem dX9_mergeKeeping_16 : decode cX9_mergeKeeping 16 = .ok (.aload_n 0, 1) := by decide +kernel
theorem dX9_mergeKeeping_17 : decode cX9_mergeKeeping 17 = .ok (.getfield 10, 3) := by decide +kernel
theorem dX9_mergeKeeping_20 : decode cX9_mergeKeeping 20 = .ok (.iload_n 1, 1) := by decide +kernel
theorem dX9_mergeKeeping_21 : decode cX9_mergeKeeping 21 = .ok (.iload_n 2, 1) := by decide +kernel
theorem dX9_mergeKeeping_22 : decode cX9_mergeKeeping 22 = .ok (.iload_n 3, 1) := by decide +kernel
theorem dX9_mergeKeeping_23 : decode cX9_mergeKeeping 23 = .ok (.invokevirtual 96, 3) := by decide +kernel
theorem dX9_mergeKeeping_26 : decode cX9_mergeKeeping 26 = .ok (.ireturn, 1) := by decide +kernel
def f_X9_mergeKeeping (V : Mem) (a1 : Int32) (a2 : Int32) (a3 : Int32) : Option (Nat × Int32 × Mem) :=
  bd (f_X8_refusalOfKeeping V a1 a2) fun r6 V6 =>
  bw 0 (f_X9_refuse V6 r6) fun V9 =>
  bv (f_X9_remember V9) fun V13 =>
  bd (f_X8_mergeHeads V13 a1 a2 a3) fun r23 V23 =>
  some (0, r23, V23)
theorem cv_X9_mergeKeeping : CalV yX9_mergeKeeping cX9_mergeKeeping 4 (some .int) 3 := ⟨⟨⟨by decide +kernel, by decide +kernel⟩, tw_1_1, tw_4_45, by decide +kernel⟩, tw_4_43, tw_4_44⟩
set_option maxRecDepth 100000 in
set_option maxHeartbeats 4000000 in
theorem m_X9_mergeKeeping (l : Launch) (hT : l.stackTraces = false) (E : En) (ad : Nat → Nat) (V : Mem) (a1 : Int32) (a2 : Int32) (a3 : Int32) (hS : SF E) (k : Nat) (r : Int32) (Vz : Mem) (hf : f_X9_mergeKeeping V a1 a2 a3 = some (k, r, Vz)) : MX l E ad yX9_mergeKeeping cX9_mergeKeeping 4 (some .int) 7 1 6 [.ref (ad 248), .int a1, .int a2, .int a3] V k (some (.int r)) Vz := by
  refine entX (E := E) (ad := ad) (V := V) "LetterRepository" hT (by decide +kernel) rfl (Nat.le_of_ble_eq_true rfl) ?_
  intro p e s m below meth c ls hC hY hI hl
  have hx := hC.1
  have hb := hC.2.1
  have hl : lv_has ls 4 [(0, .ref (ad 248)), (1, .int a1), (2, .int a2), (3, .int a3)] := hl
  unfold f_X9_mergeKeeping at hf
  refine lv_aload_n hx hb dX9_mergeKeeping_0 rfl (lv_at hl 0 rfl) ?_
  refine g_248_store hC hI tw_1_213 dX9_mergeKeeping_1 ?_
  refine lv_iload_n hx hb dX9_mergeKeeping_4 rfl (lv_at hl 1 rfl) ?_
  refine lv_iload_n hx hb dX9_mergeKeeping_5 rfl (lv_at hl 2 rfl) ?_
  obtain ⟨r6, V6, q6, hf⟩ := gbd hf
  refine k_X8_refusalOfKeeping hS hC hI hl.1 q6 tw_4_46 ⟨Nat.le_of_ble_eq_true rfl, Nat.le_of_ble_eq_true rfl⟩ ⟨Nat.le_of_ble_eq_true rfl, Nat.le_of_ble_eq_true rfl⟩ (Nat.le_of_ble_eq_true rfl) dX9_mergeKeeping_6 (fun H locs hI => ?_)
  obtain ⟨q9, V9, e9, hf⟩ := gbw hf
  refine kx_X9_refuse hS hC hY hI hl.1 e9 tw_2_239 ⟨Nat.le_of_ble_eq_true rfl, Nat.le_of_ble_eq_true rfl⟩ ⟨Nat.le_of_ble_eq_true rfl, Nat.le_of_ble_eq_true rfl⟩ ⟨Nat.le_of_ble_eq_true rfl, Nat.le_of_ble_eq_true rfl⟩ (Nat.le_of_ble_eq_true rfl) dX9_mergeKeeping_9 (fun h0 => hx3 ((if_neg h0).symm.trans hf)) (fun h0 H locs hI => ?_)
  have hf := (if_pos h0).symm.trans hf
  refine lv_aload_n hx hb dX9_mergeKeeping_12 rfl (lv_at hl 0 rfl) ?_
  obtain ⟨V13, q13, hf⟩ := gbv hf
  refine k_X9_remember hC hI hl.1 q13 tw_2_5 ⟨Nat.le_of_ble_eq_true rfl, Nat.le_of_ble_eq_true rfl⟩ ⟨Nat.le_of_ble_eq_true rfl, Nat.le_of_ble_eq_true rfl⟩ (Nat.le_of_ble_eq_true rfl) dX9_mergeKeeping_13 (fun H locs hI => ?_)
  refine lv_aload_n hx hb dX9_mergeKeeping_16 rfl (lv_at hl 0 rfl) ?_
  refine g_248_store hC hI tw_1_213 dX9_mergeKeeping_17 ?_
  refine lv_iload_n hx hb dX9_mergeKeeping_20 rfl (lv_at hl 1 rfl) ?_
  refine lv_iload_n hx hb dX9_mergeKeeping_21 rfl (lv_at hl 2 rfl) ?_
  refine lv_iload_n hx hb dX9_mergeKeeping_22 rfl (lv_at hl 3 rfl) ?_
  obtain ⟨r23, V23, q23, hf⟩ := gbd hf
  refine k_X8_mergeHeads hC hI hl.1 q23 tw_4_34 ⟨Nat.le_of_ble_eq_true rfl, Nat.le_of_ble_eq_true rfl⟩ ⟨Nat.le_of_ble_eq_true rfl, Nat.le_of_ble_eq_true rfl⟩ (Nat.le_of_ble_eq_true rfl) dX9_mergeKeeping_23 (fun H locs hI => ?_)
  exact x_iret hC hI hf ⟨Nat.le_of_ble_eq_true rfl, Nat.le_of_ble_eq_true rfl⟩ dX9_mergeKeeping_26
theorem kx_X9_mergeKeeping {p : Program} {l : Launch} {e : Env} {R : Room} {cells slots mc ms : Nat} {s : State} {m : MethodId} {args : Array Value} {below : List Frame} {meth : Method} {c : Code} {H : Heap} {locs : List Loc} {Qc : Array Value → State → Outcome → State → Prop} {E : En} {ad : Nat → Nat} {V : Mem} {ow : String} {b : ByteArray} {n : Nat} {ret : Option FieldType} {pc index : Nat} {ls : Array Slot} {rest : List Value} {a1 : Int32} {a2 : Int32} {a3 : Int32} {k1 k : Nat} {r : Int32} {V1 Vz : Mem} (hS : SF E) (hC : Cx p s m args c meth E ow b n ret) (hY : Cy l c) (hI : In E ad V s H locs) (hsz : ls.size = n) (hf : f_X9_mergeKeeping V a1 a2 a3 = some (k1, r, V1)) (hl : Cond.methodLink ow index yX9_mergeKeeping ∈ TB) (hR : 7 + 1 ≤ R.frames ∧ 8 + (4 + 11) + 40 * 7 ≤ R.locals) (hcs : cells + 1 ≤ R.cells ∧ slots + 6 ≤ R.slots) (hc : cells + 1 ≤ mc ∧ slots + 6 ≤ ms) (hw : (rest.map fun v => v.category).sum ≤ 8) (hdg : decode b pc = .ok (.invokevirtual index, 3)) (hx : k1 ≠ 0 → k1 = k ∧ V1 = Vz) (kk : k1 = 0 → ∀ (H1 : Heap) (locs1 : List Loc), In E ad V1 s H1 locs1 → W p l e R s m args below meth c H1 locs1 (cells + 1) (slots + 6) (vx_MQ below Qc (QX E ad k Vz) args s mc ms (ours E)) (F0 m (pc + 3) ls ((.int r) :: rest))) : W p l e R s m args below meth c H locs cells slots (vx_MQ below Qc (QX E ad k Vz) args s mc ms (ours E)) (F0 m pc ls (.int a3 :: .int a2 :: .int a1 :: .ref (ad 248) :: rest)) :=
  after_callX hC hY hI (xrunV_tb (As := [.int a1, .int a2, .int a3]) (rest := rest) hC hI hsz (m_X9_mergeKeeping l hY.2 E ad V a1 a2 a3 hS k1 r V1 hf) cv_X9_mergeKeeping hl (by decide) (ce_248 _) rfl rfl rfl hR hcs hw hdg) hc hx kk

theorem dX9_pick_0 : decode cX9_pick 0 = .ok (.aload_n 0, 1) := by decide +kernel
theorem dX9_pick_1 : decode cX9_pick 1 = .ok (.getfield 10, 3) := by decide +kernel
theorem dX9_pick_4 : decode cX9_pick 4 = .ok (.iload_n 1, 1) := by decide +kernel
theorem dX9_pick_5 : decode cX9_pick 5 = .ok (.iload_n 2, 1) := by decide +kernel
theorem dX9_pick_6 : decode cX9_pick 6 = .ok (.invokevirtual 103, 3) := by decide +kernel
theorem dX9_pick_9 : decode cX9_pick 9 = .ok (.invokestatic 54, 3) := by decide +kernel
theorem dX9_pick_12 : decode cX9_pick 12 = .ok (.aload_n 0, 1) := by decide +kernel
theorem dX9_pick_13 : decode cX9_pick 13 = .ok (.invokevirtual 58, 3) := by decide +kernel
theorem dX9_pick_16 : decode cX9_pick 16 = .ok (.aload_n 0, 1) := by decide +kernel
theorem dX9_pick_17 : decode cX9_pick 17 = .ok (.getfield 10, 3) := by decide +kernel
theorem dX9_pick_20 : decode cX9_pick 20 = .ok (.iload_n 1, 1) := by decide +kernel
theorem dX9_pick_21 : decode cX9_pick 21 = .ok (.iload_n 2, 1) := by decide +kernel
theorem dX9_pick_22 : decode cX9_pick 22 = .ok (.invokevirtual 106, 3) := by decide +kernel
theorem dX9_pick_25 : decode cX9_pick 25 = .ok (.ireturn, 1) := by decide +kernel
def f_X9_pick (V : Mem) (a1 : Int32) (a2 : Int32) : Option (Nat × Int32 × Mem) :=
  bd (f_X8_refusalOfPick V a1 a2) fun r6 V6 =>
  bw 0 (f_X9_refuse V6 r6) fun V9 =>
  bv (f_X9_remember V9) fun V13 =>
  bd (f_X8_pickChange V13 a1 a2) fun r22 V22 =>
  some (0, r22, V22)
theorem cv_X9_pick : CalV yX9_pick cX9_pick 3 (some .int) 2 := ⟨⟨⟨by decide +kernel, by decide +kernel⟩, tw_1_1, tw_4_53, by decide +kernel⟩, tw_4_51, tw_4_52⟩
set_option maxRecDepth 100000 in
set_option maxHeartbeats 4000000 in
theorem m_X9_pick (l : Launch) (hT : l.stackTraces = false) (E : En) (ad : Nat → Nat) (V : Mem) (a1 : Int32) (a2 : Int32) (hS : SF E) (k : Nat) (r : Int32) (Vz : Mem) (hf : f_X9_pick V a1 a2 = some (k, r, Vz)) : MX l E ad yX9_pick cX9_pick 3 (some .int) 7 1 6 [.ref (ad 248), .int a1, .int a2] V k (some (.int r)) Vz := by
  refine entX (E := E) (ad := ad) (V := V) "LetterRepository" hT (by decide +kernel) rfl (Nat.le_of_ble_eq_true rfl) ?_
  intro p e s m below meth c ls hC hY hI hl
  have hx := hC.1
  have hb := hC.2.1
  have hl : lv_has ls 3 [(0, .ref (ad 248)), (1, .int a1), (2, .int a2)] := hl
  unfold f_X9_pick at hf
  refine lv_aload_n hx hb dX9_pick_0 rfl (lv_at hl 0 rfl) ?_
  refine g_248_store hC hI tw_1_213 dX9_pick_1 ?_
  refine lv_iload_n hx hb dX9_pick_4 rfl (lv_at hl 1 rfl) ?_
  refine lv_iload_n hx hb dX9_pick_5 rfl (lv_at hl 2 rfl) ?_
  obtain ⟨r6, V6, q6, hf⟩ := gbd hf
  refine k_X8_refusalOfPick hS hC hI hl.1 q6 tw_4_54 ⟨Nat.le_of_ble_eq_true rfl, Nat.le_of_ble_eq_true rfl⟩ ⟨Nat.le_of_ble_eq_true rfl, Nat.le_of_ble_eq_true rfl⟩ (Nat.le_of_ble_eq_true rfl) dX9_pick_6 (fun H locs hI => ?_)
  obtain ⟨q9, V9, e9, hf⟩ := gbw hf
  refine kx_X9_refuse hS hC hY hI hl.1 e9 tw_2_239 ⟨Nat.le_of_ble_eq_true rfl, Nat.le_of_ble_eq_true rfl⟩ ⟨Nat.le_of_ble_eq_true rfl, Nat.le_of_ble_eq_true rfl⟩ ⟨Nat.le_of_ble_eq_true rfl, Nat.le_of_ble_eq_true rfl⟩ (Nat.le_of_ble_eq_true rfl) dX9_pick_9 (fun h0 => hx3 ((if_neg h0).symm.trans hf)) (fun h0 H locs hI => ?_)
  have hf := (if_pos h0).symm.trans hf
  refine lv_aload_n hx hb dX9_pick_12 rfl (lv_at hl 0 rfl) ?_
  obtain ⟨V13, q13, hf⟩ := gbv hf
  refine k_X9_remember hC hI hl.1 q13 tw_2_5 ⟨Nat.le_of_ble_eq_true rfl, Nat.le_of_ble_eq_true rfl⟩ ⟨Nat.le_of_ble_eq_true rfl, Nat.le_of_ble_eq_true rfl⟩ (Nat.le_of_ble_eq_true rfl) dX9_pick_13 (fun H locs hI => ?_)
  refine lv_aload_n hx hb dX9_pick_16 rfl (lv_at hl 0 rfl) ?_
  refine g_248_store hC hI tw_1_213 dX9_pick_17 ?_
  refine lv_iload_n hx hb dX9_pick_20 rfl (lv_at hl 1 rfl) ?_
  refine lv_iload_n hx hb dX9_pick_21 rfl (lv_at hl 2 rfl) ?_
  obtain ⟨r22, V22, q22, hf⟩ := gbd hf
  refine k_X8_pickChange hC hI hl.1 q22 tw_4_67 ⟨Nat.le_of_ble_eq_true rfl, Nat.le_of_ble_eq_true rfl⟩ ⟨Nat.le_of_ble_eq_true rfl, Nat.le_of_ble_eq_true rfl⟩ (Nat.le_of_ble_eq_true rfl) dX9_pick_22 (fun H locs hI => ?_)
  exact x_iret hC hI hf ⟨Nat.le_of_ble_eq_true rfl, Nat.le_of_ble_eq_true rfl⟩ dX9_pick_25
theorem kx_X9_pick {p : Program} {l : Launch} {e : Env} {R : Room} {cells slots mc ms : Nat} {s : State} {m : MethodId} {args : Array Value} {below : List Frame} {meth : Method} {c : Code} {H : Heap} {locs : List Loc} {Qc : Array Value → State → Outcome → State → Prop} {E : En} {ad : Nat → Nat} {V : Mem} {ow : String} {b : ByteArray} {n : Nat} {ret : Option FieldType} {pc index : Nat} {ls : Array Slot} {rest : List Value} {a1 : Int32} {a2 : Int32} {k1 k : Nat} {r : Int32} {V1 Vz : Mem} (hS : SF E) (hC : Cx p s m args c meth E ow b n ret) (hY : Cy l c) (hI : In E ad V s H locs) (hsz : ls.size = n) (hf : f_X9_pick V a1 a2 = some (k1, r, V1)) (hl : Cond.methodLink ow index yX9_pick ∈ TB) (hR : 7 + 1 ≤ R.frames ∧ 8 + (3 + 11) + 40 * 7 ≤ R.locals) (hcs : cells + 1 ≤ R.cells ∧ slots + 6 ≤ R.slots) (hc : cells + 1 ≤ mc ∧ slots + 6 ≤ ms) (hw : (rest.map fun v => v.category).sum ≤ 8) (hdg : decode b pc = .ok (.invokevirtual index, 3)) (hx : k1 ≠ 0 → k1 = k ∧ V1 = Vz) (kk : k1 = 0 → ∀ (H1 : Heap) (locs1 : List Loc), In E ad V1 s H1 locs1 → W p l e R s m args below meth c H1 locs1 (cells + 1) (slots + 6) (vx_MQ below Qc (QX E ad k Vz) args s mc ms (ours E)) (F0 m (pc + 3) ls ((.int r) :: rest))) : W p l e R s m args below meth c H locs cells slots (vx_MQ below Qc (QX E ad k Vz) args s mc ms (ours E)) (F0 m pc ls (.int a2 :: .int a1 :: .ref (ad 248) :: rest)) :=
  after_callX hC hY hI (xrunV_tb (As := [.int a1, .int a2]) (rest := rest) hC hI hsz (m_X9_pick l hY.2 E ad V a1 a2 hS k1 r V1 hf) cv_X9_pick hl (by decide) (ce_248 _) rfl rfl rfl hR hcs hw hdg) hc hx kk

theorem dX9_reset_0 : decode cX9_reset 0 = .ok (.aload_n 0, 1) := by decide +kernel
theorem dX9_reset_1 : decode cX9_reset 1 = .ok (.getfield 10, 3) := by decide +kernel
theorem dX9_reset_4 : decode cX9_reset 4 = .ok (.iload_n 1, 1) := by decide +kernel
theorem dX9_reset_5 : decode cX9_reset 5 = .ok (.iload_n 2, 1) := by decide +kernel
theorem dX9_reset_6 : decode cX9_reset 6 = .ok (.invokevirtual 109, 3) := by decide +kernel
theorem dX9_reset_9 : decode cX9_reset 9 = .ok (.invokestatic 54, 3) := by decide +kernel
theorem dX9_reset_12 : decode cX9_reset 12 = .ok (.aload_n 0, 1) := by decide +kernel
theorem dX9_reset_13 : decode cX9_reset 13 = .ok (.invokevirtual 58, 3) := by decide +kernel
theorem dX9_reset_16 : decode cX9_reset 16 = .ok (.aload_n 0, 1) := by decide +kernel
theorem dX9_reset_17 : decode cX9_reset 17 = .ok (.getfield 10, 3) := by decide +kernel
theorem dX9_reset_20 : decode cX9_reset 20 = .ok (.iload_n 1, 1) := by decide +kernel
theorem dX9_reset_21 : decode cX9_reset 21 = .ok (.iload_n 2, 1) := by decide +kernel
theorem dX9_reset_22 : decode cX9_reset 22 = .ok (.invokevirtual 112, 3) := by decide +kernel
theorem dX9_reset_25 : decode cX9_reset 25 = .ok (.ireturn, 1) := by decide +kernel
def f_X9_reset (V : Mem) (a1 : Int32) (a2 : Int32) : Option (Nat × Int32 × Mem) :=
  bd (f_X8_refusalOfReset V a1 a2) fun r6 V6 =>
  bw 0 (f_X9_refuse V6 r6) fun V9 =>
  bv (f_X9_remember V9) fun V13 =>
  bd (f_X8_moveHead V13 a1 a2) fun r22 V22 =>
  some (0, r22, V22)
theorem cv_X9_reset : CalV yX9_reset cX9_reset 3 (some .int) 2 := ⟨⟨⟨by decide +kernel, by decide +kernel⟩, tw_1_1, tw_4_77, by decide +kernel⟩, tw_4_75, tw_4_76⟩
set_option maxRecDepth 100000 in
set_option maxHeartbeats 4000000 in
theorem m_X9_reset (l : Launch) (hT : l.stackTraces = false) (E : En) (ad : Nat → Nat) (V : Mem) (a1 : Int32) (a2 : Int32) (hS : SF E) (k : Nat) (r : Int32) (Vz : Mem) (hf : f_X9_reset V a1 a2 = some (k, r, Vz)) : MX l E ad yX9_reset cX9_reset 3 (some .int) 7 1 6 [.ref (ad 248), .int a1, .int a2] V k (some (.int r)) Vz := by
  refine entX (E := E) (ad := ad) (V := V) "LetterRepository" hT (by decide +kernel) rfl (Nat.le_of_ble_eq_true rfl) ?_
  intro p e s m below meth c ls hC hY hI hl
  have hx := hC.1
  have hb := hC.2.1
  have hl : lv_has ls 3 [(0, .ref (ad 248)), (1, .int a1), (2, .int a2)] := hl
  unfold f_X9_reset at hf
  refine lv_aload_n hx hb dX9_reset_0 rfl (lv_at hl 0 rfl) ?_
  refine g_248_store hC hI tw_1_213 dX9_reset_1 ?_
  refine lv_iload_n hx hb dX9_reset_4 rfl (lv_at hl 1 rfl) ?_
  refine lv_iload_n hx hb dX9_reset_5 rfl (lv_at hl 2 rfl) ?_
  obtain ⟨r6, V6, q6, hf⟩ := gbd hf
  refine k_X8_refusalOfReset hS hC hI hl.1 q6 tw_4_78 ⟨Nat.le_of_ble_eq_true rfl, Nat.le_of_ble_eq_true rfl⟩ ⟨Nat.le_of_ble_eq_true rfl, Nat.le_of_ble_eq_true rfl⟩ (Nat.le_of_ble_eq_true rfl) dX9_reset_6 (fun H locs hI => ?_)
  obtain ⟨q9, V9, e9, hf⟩ := gbw hf
  refine kx_X9_refuse hS hC hY hI hl.1 e9 tw_2_239 ⟨Nat.le_of_ble_eq_true rfl, Nat.le_of_ble_eq_true rfl⟩ ⟨Nat.le_of_ble_eq_true rfl, Nat.le_of_ble_eq_true rfl⟩ ⟨Nat.le_of_ble_eq_true rfl, Nat.le_of_ble_eq_true rfl⟩ (Nat.le_of_ble_eq_true rfl) dX9_reset_9 (fun h0 => hx3 ((if_neg h0).symm.trans hf)) (fun h0 H locs hI => ?_)
  have hf := (if_pos h0).symm.trans hf
  refine lv_aload_n hx hb dX9_reset_12 rfl (lv_at hl 0 rfl) ?_
  obtain ⟨V13, q13, hf⟩ := gbv hf
  refine k_X9_remember hC hI hl.1 q13 tw_2_5 ⟨Nat.le_of_ble_eq_true rfl, Nat.le_of_ble_eq_true rfl⟩ ⟨Nat.le_of_ble_eq_true rfl, Nat.le_of_ble_eq_true rfl⟩ (Nat.le_of_ble_eq_true rfl) dX9_reset_13 (fun H locs hI => ?_)
  refine lv_aload_n hx hb dX9_reset_16 rfl (lv_at hl 0 rfl) ?_
  refine g_248_store hC hI tw_1_213 dX9_reset_17 ?_
  refine lv_iload_n hx hb dX9_reset_20 rfl (lv_at hl 1 rfl) ?_
  refine lv_iload_n hx hb dX9_reset_21 rfl (lv_at hl 2 rfl) ?_
  obtain ⟨r22, V22, q22, hf⟩ := gbd hf
  refine k_X8_moveHead hC hI hl.1 q22 tw_4_82 ⟨Nat.le_of_ble_eq_true rfl, Nat.le_of_ble_eq_true rfl⟩ ⟨Nat.le_of_ble_eq_true rfl, Nat.le_of_ble_eq_true rfl⟩ (Nat.le_of_ble_eq_true rfl) dX9_reset_22 (fun H locs hI => ?_)
  exact x_iret hC hI hf ⟨Nat.le_of_ble_eq_true rfl, Nat.le_of_ble_eq_true rfl⟩ dX9_reset_25
theorem kx_X9_reset {p : Program} {l : Launch} {e : Env} {R : Room} {cells slots mc ms : Nat} {s : State} {m : MethodId} {args : Array Value} {below : List Frame} {meth : Method} {c : Code} {H : Heap} {locs : List Loc} {Qc : Array Value → State → Outcome → State → Prop} {E : En} {ad : Nat → Nat} {V : Mem} {ow : String} {b : ByteArray} {n : Nat} {ret : Option FieldType} {pc index : Nat} {ls : Array Slot} {rest : List Value} {a1 : Int32} {a2 : Int32} {k1 k : Nat} {r : Int32} {V1 Vz : Mem} (hS : SF E) (hC : Cx p s m args c meth E ow b n ret) (hY : Cy l c) (hI : In E ad V s H locs) (hsz : ls.size = n) (hf : f_X9_reset V a1 a2 = some (k1, r, V1)) (hl : Cond.methodLink ow index yX9_reset ∈ TB) (hR : 7 + 1 ≤ R.frames ∧ 8 + (3 + 11) + 40 * 7 ≤ R.locals) (hcs : cells + 1 ≤ R.cells ∧ slots + 6 ≤ R.slots) (hc : cells + 1 ≤ mc ∧ slots + 6 ≤ ms) (hw : (rest.map fun v => v.category).sum ≤ 8) (hdg : decode b pc = .ok (.invokevirtual index, 3)) (hx : k1 ≠ 0 → k1 = k ∧ V1 = Vz) (kk : k1 = 0 → ∀ (H1 : Heap) (locs1 : List Loc), In E ad V1 s H1 locs1 → W p l e R s m args below meth c H1 locs1 (cells + 1) (slots + 6) (vx_MQ below Qc (QX E ad k Vz) args s mc ms (ours E)) (F0 m (pc + 3) ls ((.int r) :: rest))) : W p l e R s m args below meth c H locs cells slots (vx_MQ below Qc (QX E ad k Vz) args s mc ms (ours E)) (F0 m pc ls (.int a2 :: .int a1 :: .ref (ad 248) :: rest)) :=
  after_callX hC hY hI (xrunV_tb (As := [.int a1, .int a2]) (rest := rest) hC hI hsz (m_X9_reset l hY.2 E ad V a1 a2 hS k1 r V1 hf) cv_X9_reset hl (by decide) (ce_248 _) rfl rfl rfl hR hcs hw hdg) hc hx kk

theorem dX9_addTag_0 : decode cX9_addTag 0 = .ok (.aload_n 0, 1) := by decide +kernel
theorem dX9_addTag_1 : decode cX9_addTag 1 = .ok (.getfield 10, 3) := by decide +kernel
theorem dX9_addTag_4 : decode cX9_addTag 4 = .ok (.iload_n 1, 1) := by decide +kernel
theorem dX9_addTag_5 : decode cX9_addTag 5 = .ok (.iload_n 2, 1) := by decide +kernel
theorem dX9_addTag_6 : decode cX9_addTag 6 = .ok (.invokevirtual 115, 3) := by decide +kernel
theorem dX9_addTag_9 : decode cX9_addTag 9 = .ok (.invokestatic 54, 3) := by decide +kernel
theorem dX9_addTag_12 : decode cX9_addTag 12 = .ok (.aload_n 0, 1) := by decide +kernel
theorem dX9_addTag_13 : decode cX9_addTag 13 = .ok (.invokevirtual 58, 3) := by decide +kernel
theorem dX9_addTag_16 : decode cX9_addTag 16 = .ok (.aload_n 0, 1) := by decide +kernel
theorem dX9_addTag_17 : decode cX9_addTag 17 = .ok (.getfield 10, 3) := by decide +kernel
theorem dX9_addTag_20 : decode cX9_addTag 20 = .ok (.iload_n 1, 1) := by decide +kernel
theorem dX9_addTag_21 : decode cX9_addTag 21 = .ok (.iload_n 2, 1) := by decide +kernel
theorem dX9_addTag_22 : decode cX9_addTag 22 = .ok (.invokevirtual 118, 3) := by decide +kernel
theorem dX9_addTag_25 : decode cX9_addTag 25 = .ok (.ireturn, 1) := by decide +kernel
def f_X9_addTag (V : Mem) (a1 : Int32) (a2 : Int32) : Option (Nat × Int32 × Mem) :=
  bd (f_X8_refusalOfTag V a1 a2) fun r6 V6 =>
  bw 0 (f_X9_refuse V6 r6) fun V9 =>
  bv (f_X9_remember V9) fun V13 =>
  bd (f_X8_putTag V13 a1 a2) fun r22 V22 =>
  some (0, r22, V22)
theorem cv_X9_addTag : CalV yX9_addTag cX9_addTag 3 (some .int) 2 := ⟨⟨⟨by decide +kernel, by decide +kernel⟩, tw_1_1, tw_4_92, by decide +kernel⟩, tw_4_90, tw_4_91⟩
set_option maxRecDepth 100000 in
set_option maxHeartbeats 4000000 in
theorem m_X9_addTag (l : Launch) (hT : l.stackTraces = false) (E : En) (ad : Nat → Nat) (V : Mem) (a1 : Int32) (a2 : Int32) (hS : SF E) (k : Nat) (r : Int32) (Vz : Mem) (hf : f_X9_addTag V a1 a2 = some (k, r, Vz)) : MX l E ad yX9_addTag cX9_addTag 3 (some .int) 7 1 6 [.ref (ad 248), .int a1, .int a2] V k (some (.int r)) Vz := by
  refine entX (E := E) (ad := ad) (V := V) "LetterRepository" hT (by decide +kernel) rfl (Nat.le_of_ble_eq_true rfl) ?_
  intro p e s m below meth c ls hC hY hI hl
  have hx := hC.1
  have hb := hC.2.1
  have hl : lv_has ls 3 [(0, .ref (ad 248)), (1, .int a1), (2, .int a2)] := hl
  unfold f_X9_addTag at hf
  refine lv_aload_n hx hb dX9_addTag_0 rfl (lv_at hl 0 rfl) ?_
  refine g_248_store hC hI tw_1_213 dX9_addTag_1 ?_
  refine lv_iload_n hx hb dX9_addTag_4 rfl (lv_at hl 1 rfl) ?_
  refine lv_iload_n hx hb dX9_addTag_5 rfl (lv_at hl 2 rfl) ?_
  obtain ⟨r6, V6, q6, hf⟩ := gbd hf
  refine k_X8_refusalOfTag hS hC hI hl.1 q6 tw_4_93 ⟨Nat.le_of_ble_eq_true rfl, Nat.le_of_ble_eq_true rfl⟩ ⟨Nat.le_of_ble_eq_true rfl, Nat.le_of_ble_eq_true rfl⟩ (Nat.le_of_ble_eq_true rfl) dX9_addTag_6 (fun H locs hI => ?_)
  obtain ⟨q9, V9, e9, hf⟩ := gbw hf
  refine kx_X9_refuse hS hC hY hI hl.1 e9 tw_2_239 ⟨Nat.le_of_ble_eq_true rfl, Nat.le_of_ble_eq_true rfl⟩ ⟨Nat.le_of_ble_eq_true rfl, Nat.le_of_ble_eq_true rfl⟩ ⟨Nat.le_of_ble_eq_true rfl, Nat.le_of_ble_eq_true rfl⟩ (Nat.le_of_ble_eq_true rfl) dX9_addTag_9 (fun h0 => hx3 ((if_neg h0).symm.trans hf)) (fun h0 H locs hI => ?_)
  have hf := (if_pos h0).symm.trans hf
  refine lv_aload_n hx hb dX9_addTag_12 rfl (lv_at hl 0 rfl) ?_
  obtain ⟨V13, q13, hf⟩ := gbv hf
  refine k_X9_remember hC hI hl.1 q13 tw_2_5 ⟨Nat.le_of_ble_eq_true rfl, Nat.le_of_ble_eq_true rfl⟩ ⟨Nat.le_of_ble_eq_true rfl, Nat.le_of_ble_eq_true rfl⟩ (Nat.le_of_ble_eq_true rfl) dX9_addTag_13 (fun H locs hI => ?_)
  refine lv_aload_n hx hb dX9_addTag_16 rfl (lv_at hl 0 rfl) ?_
  refine g_248_store hC hI tw_1_213 dX9_addTag_17 ?_
  refine lv_iload_n hx hb dX9_addTag_20 rfl (lv_at hl 1 rfl) ?_
  refine lv_iload_n hx hb dX9_addTag_21 rfl (lv_at hl 2 rfl) ?_
  obtain ⟨r22, V22, q22, hf⟩ := gbd hf
  refine k_X8_putTag hC hI hl.1 q22 tw_4_100 ⟨Nat.le_of_ble_eq_true rfl, Nat.le_of_ble_eq_true rfl⟩ ⟨Nat.le_of_ble_eq_true rfl, Nat.le_of_ble_eq_true rfl⟩ (Nat.le_of_ble_eq_true rfl) dX9_addTag_22 (fun H locs hI => ?_)
  exact x_iret hC hI hf ⟨Nat.le_of_ble_eq_true rfl, Nat.le_of_ble_eq_true rfl⟩ dX9_addTag_25
theorem kx_X9_addTag {p : Program} {l : Launch} {e : Env} {R : Room} {cells slots mc ms : Nat} {s : State} {m : MethodId} {args : Array Value} {below : List Frame} {meth : Method} {c : Code} {H : Heap} {locs : List Loc} {Qc : Array Value → State → Outcome → State → Prop} {E : En} {ad : Nat → Nat} {V : Mem} {ow : String} {b : ByteArray} {n : Nat} {ret : Option FieldType} {pc index : Nat} {ls : Array Slot} {rest : List Value} {a1 : Int32} {a2 : Int32} {k1 k : Nat} {r : Int32} {V1 Vz : Mem} (hS : SF E) (hC : Cx p s m args c meth E ow b n ret) (hY : Cy l c) (hI : In E ad V s H locs) (hsz : ls.size = n) (hf : f_X9_addTag V a1 a2 = some (k1, r, V1)) (hl : Cond.methodLink ow index yX9_addTag ∈ TB) (hR : 7 + 1 ≤ R.frames ∧ 8 + (3 + 11) + 40 * 7 ≤ R.locals) (hcs : cells + 1 ≤ R.cells ∧ slots + 6 ≤ R.slots) (hc : cells + 1 ≤ mc ∧ slots + 6 ≤ ms) (hw : (rest.map fun v => v.category).sum ≤ 8) (hdg : decode b pc = .ok (.invokevirtual index, 3)) (hx : k1 ≠ 0 → k1 = k ∧ V1 = Vz) (kk : k1 = 0 → ∀ (H1 : Heap) (locs1 : List Loc), In E ad V1 s H1 locs1 → W p l e R s m args below meth c H1 locs1 (cells + 1) (slots + 6) (vx_MQ below Qc (QX E ad k Vz) args s mc ms (ours E)) (F0 m (pc + 3) ls ((.int r) :: rest))) : W p l e R s m args below meth c H locs cells slots (vx_MQ below Qc (QX E ad k Vz) args s mc ms (ours E)) (F0 m pc ls (.int a2 :: .int a1 :: .ref (ad 248) :: rest)) :=
  after_callX hC hY hI (xrunV_tb (As := [.int a1, .int a2]) (rest := rest) hC hI hsz (m_X9_addTag l hY.2 E ad V a1 a2 hS k1 r V1 hf) cv_X9_addTag hl (by decide) (ce_248 _) rfl rfl rfl hR hcs hw hdg) hc hx kk

theorem dX9_removeTag_0 : decode cX9_removeTag 0 = .ok (.aload_n 0, 1) := by decide +kernel
theorem dX9_removeTag_1 : decode cX9_removeTag 1 = .ok (.getfield 10, 3) := by decide +kernel
theorem dX9_removeTag_4 : decode cX9_removeTag 4 = .ok (.iload_n 1, 1) := by decide +kernel
theorem dX9_removeTag_5 : decode cX9_removeTag 5 = .ok (.invokevirtual 121, 3) := by decide +kernel
theorem dX9_removeTag_8 : decode cX9_removeTag 8 = .ok (.invokestatic 54, 3) := by decide +kernel
theorem dX9_removeTag_11 : decode cX9_removeTag 11 = .ok (.aload_n 0, 1) := by decide +kernel
theorem dX9_removeTag_12 : decode cX9_removeTag 12 = .ok (.invokevirtual 58, 3) := by decide +kernel
theorem dX9_removeTag_15 : decode cX9_removeTag 15 = .ok (.aload_n 0, 1) := by decide +kernel
theorem dX9_removeTag_16 : decode cX9_removeTag 16 = .ok (.getfield 10, 3) := by decide +kernel
theorem dX9_removeTag_19 : decode cX9_removeTag 19 = .ok (.iload_n 1, 1) := by decide +kernel
theorem dX9_removeTag_20 : decode cX9_removeTag 20 = .ok (.invokevirtual 124, 3) := by decide +kernel
theorem dX9_removeTag_23 : decode cX9_removeTag 23 = .ok (.ireturn, 1) := by decide +kernel
def f_X9_removeTag (V : Mem) (a1 : Int32) : Option (Nat × Int32 × Mem) :=
  bd (f_X8_refusalOfUntag V a1) fun r5 V5 =>
  bw 0 (f_X9_refuse V5 r5) fun V8 =>
  bv (f_X9_remember V8) fun V12 =>
  bd (f_X8_takeTag V12 a1) fun r20 V20 =>
  some (0, r20, V20)
theorem cv_X9_removeTag : CalV yX9_removeTag cX9_removeTag 2 (some .int) 1 := ⟨⟨⟨by decide +kernel, by decide +kernel⟩, tw_1_1, tw_4_111, by decide +kernel⟩, tw_4_109, tw_4_110⟩
set_option maxRecDepth 100000 in
set_option maxHeartbeats 4000000 in
theorem m_X9_removeTag (l : Launch) (hT : l.stackTraces = false) (E : En) (ad : Nat → Nat) (V : Mem) (a1 : Int32) (hS : SF E) (k : Nat) (r : Int32) (Vz : Mem) (hf : f_X9_removeTag V a1 = some (k, r, Vz)) : MX l E ad yX9_removeTag cX9_removeTag 2 (some .int) 7 1 6 [.ref (ad 248), .int a1] V k (some (.int r)) Vz := by
  refine entX (E := E) (ad := ad) (V := V) "LetterRepository" hT (by decide +kernel) rfl (Nat.le_of_ble_eq_true rfl) ?_
  intro p e s m below meth c ls hC hY hI hl
  have hx := hC.1
  have hb := hC.2.1
  have hl : lv_has ls 2 [(0, .ref (ad 248)), (1, .int a1)] := hl
  unfold f_X9_removeTag at hf
  refine lv_aload_n hx hb dX9_removeTag_0 rfl (lv_at hl 0 rfl) ?_
  refine g_248_store hC hI tw_1_213 dX9_removeTag_1 ?_
  refine lv_iload_n hx hb dX9_removeTag_4 rfl (lv_at hl 1 rfl) ?_
  obtain ⟨r5, V5, q5, hf⟩ := gbd hf
  refine k_X8_refusalOfUntag hS hC hI hl.1 q5 tw_4_112 ⟨Nat.le_of_ble_eq_true rfl, Nat.le_of_ble_eq_true rfl⟩ ⟨Nat.le_of_ble_eq_true rfl, Nat.le_of_ble_eq_true rfl⟩ (Nat.le_of_ble_eq_true rfl) dX9_removeTag_5 (fun H locs hI => ?_)
  obtain ⟨q8, V8, e8, hf⟩ := gbw hf
  refine kx_X9_refuse hS hC hY hI hl.1 e8 tw_2_239 ⟨Nat.le_of_ble_eq_true rfl, Nat.le_of_ble_eq_true rfl⟩ ⟨Nat.le_of_ble_eq_true rfl, Nat.le_of_ble_eq_true rfl⟩ ⟨Nat.le_of_ble_eq_true rfl, Nat.le_of_ble_eq_true rfl⟩ (Nat.le_of_ble_eq_true rfl) dX9_removeTag_8 (fun h0 => hx3 ((if_neg h0).symm.trans hf)) (fun h0 H locs hI => ?_)
  have hf := (if_pos h0).symm.trans hf
  refine lv_aload_n hx hb dX9_removeTag_11 rfl (lv_at hl 0 rfl) ?_
  obtain ⟨V12, q12, hf⟩ := gbv hf
  refine k_X9_remember hC hI hl.1 q12 tw_2_5 ⟨Nat.le_of_ble_eq_true rfl, Nat.le_of_ble_eq_true rfl⟩ ⟨Nat.le_of_ble_eq_true rfl, Nat.le_of_ble_eq_true rfl⟩ (Nat.le_of_ble_eq_true rfl) dX9_removeTag_12 (fun H locs hI => ?_)
  refine lv_aload_n hx hb dX9_removeTag_15 rfl (lv_at hl 0 rfl) ?_
  refine g_248_store hC hI tw_1_213 dX9_removeTag_16 ?_
  refine lv_iload_n hx hb dX9_removeTag_19 rfl (lv_at hl 1 rfl) ?_
  obtain ⟨r20, V20, q20, hf⟩ := gbd hf
  refine k_X8_takeTag hC hI hl.1 q20 tw_4_116 ⟨Nat.le_of_ble_eq_true rfl, Nat.le_of_ble_eq_true rfl⟩ ⟨Nat.le_of_ble_eq_true rfl, Nat.le_of_ble_eq_true rfl⟩ (Nat.le_of_ble_eq_true rfl) dX9_removeTag_20 (fun H locs hI => ?_)
  exact x_iret hC hI hf ⟨Nat.le_of_ble_eq_true rfl, Nat.le_of_ble_eq_true rfl⟩ dX9_removeTag_23
theorem kx_X9_removeTag {p : Program} {l : Launch} {e : Env} {R : Room} {cells slots mc ms : Nat} {s : State} {m : MethodId} {args : Array Value} {below : List Frame} {meth : Method} {c : Code} {H : Heap} {locs : List Loc} {Qc : Array Value → State → Outcome → State → Prop} {E : En} {ad : Nat → Nat} {V : Mem} {ow : String} {b : ByteArray} {n : Nat} {ret : Option FieldType} {pc index : Nat} {ls : Array Slot} {rest : List Value} {a1 : Int32} {k1 k : Nat} {r : Int32} {V1 Vz : Mem} (hS : SF E) (hC : Cx p s m args c meth E ow b n ret) (hY : Cy l c) (hI : In E ad V s H locs) (hsz : ls.size = n) (hf : f_X9_removeTag V a1 = some (k1, r, V1)) (hl : Cond.methodLink ow index yX9_removeTag ∈ TB) (hR : 7 + 1 ≤ R.frames ∧ 8 + (2 + 11) + 40 * 7 ≤ R.locals) (hcs : cells + 1 ≤ R.cells ∧ slots + 6 ≤ R.slots) (hc : cells + 1 ≤ mc ∧ slots + 6 ≤ ms) (hw : (rest.map fun v => v.category).sum ≤ 8) (hdg : decode b pc = .ok (.invokevirtual index, 3)) (hx : k1 ≠ 0 → k1 = k ∧ V1 = Vz) (kk : k1 = 0 → ∀ (H1 : Heap) (locs1 : List Loc), In E ad V1 s H1 locs1 → W p l e R s m args below meth c H1 locs1 (cells + 1) (slots + 6) (vx_MQ below Qc (QX E ad k Vz) args s mc ms (ours E)) (F0 m (pc + 3) ls ((.int r) :: rest))) : W p l e R s m args below meth c H locs cells slots (vx_MQ below Qc (QX E ad k Vz) args s mc ms (ours E)) (F0 m pc ls (.int a1 :: .ref (ad 248) :: rest)) :=
  after_callX hC hY hI (xrunV_tb (As := [.int a1]) (rest := rest) hC hI hsz (m_X9_removeTag l hY.2 E ad V a1 hS k1 r V1 hf) cv_X9_removeTag hl (by decide) (ce_248 _) rfl rfl rfl hR hcs hw hdg) hc hx kk

theorem dX9_archive_0 : decode cX9_archive 0 = .ok (.aload_n 0, 1) := by decide +kernel
theorem dX9_archive_1 : decode cX9_archive 1 = .ok (.invokevirtual 58, 3) := by decide +kernel
theorem dX9_archive_4 : decode cX9_archive 4 = .ok (.aload_n 0, 1) := by decide +kernel
theorem dX9_archive_5 : decode cX9_archive 5 = .ok (.getfield 10, 3) := by decide +kernel
theorem dX9_archive_8 : decode cX9_archive 8 = .ok (.invokevirtual 127, 3) := by decide +kernel
theorem dX9_archive_11 : decode cX9_archive 11 = .ok (.ireturn, 1) := by decide +kernel
def f_X9_archive (V : Mem) : Option (Int32 × Mem) :=
  bv (f_X9_remember V) fun V1 =>
  bd (f_X8_archiveUnused V1) fun r8 V8 =>
  some (r8, V8)
theorem cv_X9_archive : CalV yX9_archive cX9_archive 1 (some .int) 0 := ⟨⟨⟨by decide +kernel, by decide +kernel⟩, tw_1_1, tw_2_4, by decide +kernel⟩, tw_2_2, tw_2_3⟩
set_option maxRecDepth 100000 in
set_option maxHeartbeats 4000000 in
theorem m_X9_archive (l : Launch) (E : En) (ad : Nat → Nat) (V : Mem) (r : Int32) (Vz : Mem) (hf : f_X9_archive V = some (r, Vz)) : MR l E ad yX9_archive cX9_archive 1 (some .int) 32 [.ref (ad 248)] V (some (.int r)) Vz := by
  refine ent (E := E) (ad := ad) (V := V) "LetterRepository" (by decide +kernel) rfl (Nat.le_of_ble_eq_true rfl) ?_
  intro p e s m below meth c ls hC hI hl
  have hx := hC.1
  have hb := hC.2.1
  have hl : lv_has ls 1 [(0, .ref (ad 248))] := hl
  unfold f_X9_archive at hf
  refine lv_aload_n hx hb dX9_archive_0 rfl (lv_at hl 0 rfl) ?_
  obtain ⟨V1, q1, hf⟩ := gbv hf
  refine k_X9_remember hC hI hl.1 q1 tw_2_5 ⟨Nat.le_of_ble_eq_true rfl, Nat.le_of_ble_eq_true rfl⟩ ⟨Nat.le_refl _, Nat.le_refl _⟩ (Nat.le_of_ble_eq_true rfl) dX9_archive_1 (fun H locs hI => ?_)
  refine lv_aload_n hx hb dX9_archive_4 rfl (lv_at hl 0 rfl) ?_
  refine g_248_store hC hI tw_1_213 dX9_archive_5 ?_
  obtain ⟨r8, V8, q8, hf⟩ := gbd hf
  refine k_X8_archiveUnused hC hI hl.1 q8 tw_2_41 ⟨Nat.le_of_ble_eq_true rfl, Nat.le_of_ble_eq_true rfl⟩ ⟨Nat.le_refl _, Nat.le_refl _⟩ (Nat.le_of_ble_eq_true rfl) dX9_archive_8 (fun H locs hI => ?_)
  exact r_iret2 hC hI hf dX9_archive_11
theorem k_X9_archive {p : Program} {l : Launch} {e : Env} {R : Room} {cells slots : Nat} {s : State} {m : MethodId} {args : Array Value} {below : List Frame} {meth : Method} {c : Code} {H : Heap} {locs : List Loc} {Q : State → Prop} {E : En} {ad : Nat → Nat} {V : Mem} {ow : String} {b : ByteArray} {n : Nat} {ret : Option FieldType} {pc index : Nat} {ls : Array Slot} {rest : List Value} {r : Int32} {V1 : Mem} (hC : Cx p s m args c meth E ow b n ret) (hI : In E ad V s H locs) (hsz : ls.size = n) (hf : f_X9_archive V = some (r, V1)) (hl : Cond.methodLink ow index yX9_archive ∈ TB) (hR : 32 + 1 ≤ R.frames ∧ 8 + (1 + 11) + 40 * 32 ≤ R.locals) (hcs : cells ≤ R.cells ∧ slots ≤ R.slots) (hw : (rest.map fun v => v.category).sum ≤ 8) (hdg : decode b pc = .ok (.invokevirtual index, 3)) (kk : ∀ (H1 : Heap) (locs1 : List Loc), In E ad V1 s H1 locs1 → W p l e R s m args below meth c H1 locs1 cells slots Q (F0 m (pc + 3) ls ((.int r) :: rest))) : W p l e R s m args below meth c H locs cells slots Q (F0 m pc ls (.ref (ad 248) :: rest)) :=
  r_calV (As := []) (rest := rest) hC hI hsz (m_X9_archive l E ad V r _ hf) cv_X9_archive hl (by decide) (ce_248 _) rfl rfl rfl hR hcs hw hdg kk

theorem dX9_revisionCount_0 : decode cX9_revisionCount 0 = .ok (.aload_n 0, 1) := by decide +kernel
theorem dX9_revisionCount_1 : decode cX9_revisionCount 1 = .ok (.getfield 10, 3) := by decide +kernel
theorem dX9_revisionCount_4 : decode cX9_revisionCount 4 = .ok (.getfield 131, 3) := by decide +kernel
theorem dX9_revisionCount_7 : decode cX9_revisionCount 7 = .ok (.getfield 135, 3) := by decide +kernel
theorem dX9_revisionCount_10 : decode cX9_revisionCount 10 = .ok (.ireturn, 1) := by decide +kernel
def f_X9_revisionCount (V : Mem) : Option (Int32 × Mem) :=
  some ((V 1 1), V)
theorem cv_X9_revisionCount : CalV yX9_revisionCount cX9_revisionCount 1 (some .int) 0 := ⟨⟨⟨by decide +kernel, by decide +kernel⟩, tw_1_1, tw_2_93, by decide +kernel⟩, tw_2_91, tw_2_92⟩
set_option maxRecDepth 100000 in
set_option maxHeartbeats 4000000 in
theorem m_X9_revisionCount (l : Launch) (E : En) (ad : Nat → Nat) (V : Mem) (r : Int32) (Vz : Mem) (hf : f_X9_revisionCount V = some (r, Vz)) : MR l E ad yX9_revisionCount cX9_revisionCount 1 (some .int) 1 [.ref (ad 248)] V (some (.int r)) Vz := by
  refine ent (E := E) (ad := ad) (V := V) "LetterRepository" (by decide +kernel) rfl (Nat.le_of_ble_eq_true rfl) ?_
  intro p e s m below meth c ls hC hI hl
  have hx := hC.1
  have hb := hC.2.1
  have hl : lv_has ls 1 [(0, .ref (ad 248))] := hl
  unfold f_X9_revisionCount at hf
  refine lv_aload_n hx hb dX9_revisionCount_0 rfl (lv_at hl 0 rfl) ?_
  refine g_248_store hC hI tw_1_213 dX9_revisionCount_1 ?_
  refine gN_0_revisions hC hI tw_1_100 dX9_revisionCount_4 ?_
  refine gN_1_count hC hI tw_1_78 dX9_revisionCount_7 ?_
  exact r_iret2 hC hI hf dX9_revisionCount_10
theorem k_X9_revisionCount {p : Program} {l : Launch} {e : Env} {R : Room} {cells slots : Nat} {s : State} {m : MethodId} {args : Array Value} {below : List Frame} {meth : Method} {c : Code} {H : Heap} {locs : List Loc} {Q : State → Prop} {E : En} {ad : Nat → Nat} {V : Mem} {ow : String} {b : ByteArray} {n : Nat} {ret : Option FieldType} {pc index : Nat} {ls : Array Slot} {rest : List Value} {r : Int32} {V1 : Mem} (hC : Cx p s m args c meth E ow b n ret) (hI : In E ad V s H locs) (hsz : ls.size = n) (hf : f_X9_revisionCount V = some (r, V1)) (hl : Cond.methodLink ow index yX9_revisionCount ∈ TB) (hR : 1 + 1 ≤ R.frames ∧ 8 + (1 + 11) + 40 * 1 ≤ R.locals) (hcs : cells ≤ R.cells ∧ slots ≤ R.slots) (hw : (rest.map fun v => v.category).sum ≤ 8) (hdg : decode b pc = .ok (.invokevirtual index, 3)) (kk : ∀ (H1 : Heap) (locs1 : List Loc), In E ad V1 s H1 locs1 → W p l e R s m args below meth c H1 locs1 cells slots Q (F0 m (pc + 3) ls ((.int r) :: rest))) : W p l e R s m args below meth c H locs cells slots Q (F0 m pc ls (.ref (ad 248) :: rest)) :=
  r_calV (As := []) (rest := rest) hC hI hsz (m_X9_revisionCount l E ad V r _ hf) cv_X9_revisionCount hl (by decide) (ce_248 _) rfl rfl rfl hR hcs hw hdg kk

theorem dX9_requireRevision_0 : decode cX9_requireRevision 0 = .ok (.aload_n 0, 1) := by decide +kernel
theorem dX9_requireRevision_1 : decode cX9_requireRevision 1 = .ok (.getfield 10, 3) := by decide +kernel
theorem dX9_requireRevision_4 : decode cX9_requireRevision 4 = .ok (.getfield 131, 3) := by decide +kernel
theorem dX9_requireRevision_7 : decode cX9_requireRevision 7 = .ok (.iload_n 1, 1) := by decide +kernel
theorem dX9_requireRevision_8 : decode cX9_requireRevision 8 = .ok (.invokevirtual 420, 3) := by decide +kernel
theorem dX9_requireRevision_11 : decode cX9_requireRevision 11 = .ok (.ifCond .ne 14, 3) := by decide +kernel
theorem dX9_requireRevision_14 : decode cX9_requireRevision 14 = .ok (.new 253, 3) := by decide +kernel
theorem dX9_requireRevision_17 : decode cX9_requireRevision 17 = .ok (.dup, 1) := by decide +kernel
theorem dX9_requireRevision_18 : decode cX9_requireRevision 18 = .ok (.ldc_w 423, 3) := by decide +kernel
theorem dX9_requireRevision_21 : decode cX9_requireRevision 21 = .ok (.invokespecial 257, 3) := by decide +kernel
theorem dX9_requireRevision_24 : decode cX9_requireRevision 24 = .ok (.athrow, 1) := by decide +kernel
theorem dX9_requireRevision_25 : decode cX9_requireRevision 25 = .ok (.return_, 1) := by decide +kernel
def f_X9_requireRevision (V : Mem) (a1 : Int32) : Option (Nat × Mem) :=
  bd (f_X6_has V a1) fun r8 V8 =>
  if r8 = 0 then
    some (3, V8)
  else
    some (0, V8)
theorem cv_X9_requireRevision : CalV yX9_requireRevision cX9_requireRevision 2 none 1 := ⟨⟨⟨by decide +kernel, by decide +kernel⟩, tw_1_1, tw_4_130, by decide +kernel⟩, tw_4_129, tp_8⟩
set_option maxRecDepth 100000 in
set_option maxHeartbeats 4000000 in
theorem m_X9_requireRevision (l : Launch) (hT : l.stackTraces = false) (E : En) (ad : Nat → Nat) (V : Mem) (a1 : Int32) (hS : SF E) (k : Nat) (Vz : Mem) (hf : f_X9_requireRevision V a1 = some (k, Vz)) : MX l E ad yX9_requireRevision cX9_requireRevision 2 none 6 1 6 [.ref (ad 248), .int a1] V k none Vz := by
  refine entX (E := E) (ad := ad) (V := V) "LetterRepository" hT (by decide +kernel) rfl (Nat.le_of_ble_eq_true rfl) ?_
  intro p e s m below meth c ls hC hY hI hl
  have hx := hC.1
  have hb := hC.2.1
  have hl : lv_has ls 2 [(0, .ref (ad 248)), (1, .int a1)] := hl
  unfold f_X9_requireRevision at hf
  refine lv_aload_n hx hb dX9_requireRevision_0 rfl (lv_at hl 0 rfl) ?_
  refine g_248_store hC hI tw_1_213 dX9_requireRevision_1 ?_
  refine gN_0_revisions hC hI tw_1_100 dX9_requireRevision_4 ?_
  refine lv_iload_n hx hb dX9_requireRevision_7 rfl (lv_at hl 1 rfl) ?_
  obtain ⟨r8, V8, q8, hf⟩ := gbd hf
  refine k_X6_has hC hI hl.1 q8 tw_4_131 ⟨Nat.le_of_ble_eq_true rfl, Nat.le_of_ble_eq_true rfl⟩ ⟨Nat.le_of_ble_eq_true rfl, Nat.le_of_ble_eq_true rfl⟩ (Nat.le_of_ble_eq_true rfl) dX9_requireRevision_8 (fun H locs hI => ?_)
  refine lv_if_ne (tgt := 25) hx hb dX9_requireRevision_11 (by decide) (fun c11 => ?_) (fun c11 => ?_)
  · have hf := gf hf c11
    exact x_vret hC hI hf ⟨Nat.le_of_ble_eq_true rfl, Nat.le_of_ble_eq_true rfl⟩ dX9_requireRevision_25
  · have hf := gt hf c11
    exact x_thr3w hS hC hY hI hl.1 (List.Mem.tail _ (List.Mem.tail _ (List.Mem.tail _ (List.Mem.tail _ (List.Mem.tail _ (List.Mem.tail _ (List.Mem.tail _ (List.Mem.tail _ (List.Mem.tail _ (List.Mem.tail _ (List.Mem.tail _ (List.Mem.tail _ (List.Mem.tail _ (List.Mem.tail _ (List.Mem.tail _ (List.Mem.head _)))))))))))))))) (hx2 hf) ⟨Nat.le_of_ble_eq_true rfl, Nat.le_of_ble_eq_true rfl, Nat.le_of_ble_eq_true rfl, Nat.le_of_ble_eq_true rfl⟩ ⟨Nat.le_of_ble_eq_true rfl, Nat.le_of_ble_eq_true rfl⟩ dX9_requireRevision_14 dX9_requireRevision_17 dX9_requireRevision_18 dX9_requireRevision_21 dX9_requireRevision_24
theorem kx_X9_requireRevision {p : Program} {l : Launch} {e : Env} {R : Room} {cells slots mc ms : Nat} {s : State} {m : MethodId} {args : Array Value} {below : List Frame} {meth : Method} {c : Code} {H : Heap} {locs : List Loc} {Qc : Array Value → State → Outcome → State → Prop} {E : En} {ad : Nat → Nat} {V : Mem} {ow : String} {b : ByteArray} {n : Nat} {ret : Option FieldType} {pc index : Nat} {ls : Array Slot} {rest : List Value} {a1 : Int32} {k1 k : Nat} {V1 Vz : Mem} (hS : SF E) (hC : Cx p s m args c meth E ow b n ret) (hY : Cy l c) (hI : In E ad V s H locs) (hsz : ls.size = n) (hf : f_X9_requireRevision V a1 = some (k1, V1)) (hl : Cond.methodLink ow index yX9_requireRevision ∈ TB) (hR : 6 + 1 ≤ R.frames ∧ 8 + (2 + 11) + 40 * 6 ≤ R.locals) (hcs : cells + 1 ≤ R.cells ∧ slots + 6 ≤ R.slots) (hc : cells + 1 ≤ mc ∧ slots + 6 ≤ ms) (hw : (rest.map fun v => v.category).sum ≤ 8) (hdg : decode b pc = .ok (.invokevirtual index, 3)) (hx : k1 ≠ 0 → k1 = k ∧ V1 = Vz) (kk : k1 = 0 → ∀ (H1 : Heap) (locs1 : List Loc), In E ad V1 s H1 locs1 → W p l e R s m args below meth c H1 locs1 (cells + 1) (slots + 6) (vx_MQ below Qc (QX E ad k Vz) args s mc ms (ours E)) (F0 m (pc + 3) ls (rest))) : W p l e R s m args below meth c H locs cells slots (vx_MQ below Qc (QX E ad k Vz) args s mc ms (ours E)) (F0 m pc ls (.int a1 :: .ref (ad 248) :: rest)) :=
  after_callX hC hY hI (xrunV_tb (As := [.int a1]) (rest := rest) hC hI hsz (m_X9_requireRevision l hY.2 E ad V a1 hS k1 V1 hf) cv_X9_requireRevision hl (by decide) (ce_248 _) rfl rfl rfl hR hcs hw hdg) hc hx kk

theorem dX9_isArchived_0 : decode cX9_isArchived 0 = .ok (.aload_n 0, 1) := by decide +kernel
theorem dX9_isArchived_1 : decode cX9_isArchived 1 = .ok (.iload_n 1, 1) := by decide +kernel
theorem dX9_isArchived_2 : decode cX9_isArchived 2 = .ok (.invokevirtual 140, 3) := by decide +kernel
theorem dX9_isArchived_5 : decode cX9_isArchived 5 = .ok (.aload_n 0, 1) := by decide +kernel
theorem dX9_isArchived_6 : decode cX9_isArchived 6 = .ok (.getfield 10, 3) := by decide +kernel
theorem dX9_isArchived_9 : decode cX9_isArchived 9 = .ok (.getfield 131, 3) := by decide +kernel
theorem dX9_isArchived_12 : decode cX9_isArchived 12 = .ok (.iload_n 1, 1) := by decide +kernel
theorem dX9_isArchived_13 : decode cX9_isArchived 13 = .ok (.invokevirtual 144, 3) := by decide +kernel
theorem dX9_isArchived_16 : decode cX9_isArchived 16 = .ok (.ireturn, 1) := by decide +kernel
def f_X9_isArchived (V : Mem) (a1 : Int32) : Option (Nat × Int32 × Mem) :=
  bw 0 (f_X9_requireRevision V a1) fun V2 =>
  bd (f_X6_inArchive V2 a1) fun r13 V13 =>
  if r13 = 0 ∨ r13 = 1 then
    some (0, r13, V13)
  else none
theorem cv_X9_isArchived : CalV yX9_isArchived cX9_isArchived 2 (some .boolean) 1 := ⟨⟨⟨by decide +kernel, by decide +kernel⟩, tw_1_1, tw_4_126, by decide +kernel⟩, tw_4_124, tw_4_125⟩
set_option maxRecDepth 100000 in
set_option maxHeartbeats 4000000 in
theorem m_X9_isArchived (l : Launch) (hT : l.stackTraces = false) (E : En) (ad : Nat → Nat) (V : Mem) (a1 : Int32) (hS : SF E) (k : Nat) (r : Int32) (Vz : Mem) (hf : f_X9_isArchived V a1 = some (k, r, Vz)) : MX l E ad yX9_isArchived cX9_isArchived 2 (some .boolean) 7 1 6 [.ref (ad 248), .int a1] V k (some (.int r)) Vz := by
  refine entX (E := E) (ad := ad) (V := V) "LetterRepository" hT (by decide +kernel) rfl (Nat.le_of_ble_eq_true rfl) ?_
  intro p e s m below meth c ls hC hY hI hl
  have hx := hC.1
  have hb := hC.2.1
  have hl : lv_has ls 2 [(0, .ref (ad 248)), (1, .int a1)] := hl
  unfold f_X9_isArchived at hf
  refine lv_aload_n hx hb dX9_isArchived_0 rfl (lv_at hl 0 rfl) ?_
  refine lv_iload_n hx hb dX9_isArchived_1 rfl (lv_at hl 1 rfl) ?_
  obtain ⟨q2, V2, e2, hf⟩ := gbw hf
  refine kx_X9_requireRevision hS hC hY hI hl.1 e2 tw_4_127 ⟨Nat.le_of_ble_eq_true rfl, Nat.le_of_ble_eq_true rfl⟩ ⟨Nat.le_of_ble_eq_true rfl, Nat.le_of_ble_eq_true rfl⟩ ⟨Nat.le_of_ble_eq_true rfl, Nat.le_of_ble_eq_true rfl⟩ (Nat.le_of_ble_eq_true rfl) dX9_isArchived_2 (fun h0 => hx3 ((if_neg h0).symm.trans hf)) (fun h0 H locs hI => ?_)
  have hf := (if_pos h0).symm.trans hf
  refine lv_aload_n hx hb dX9_isArchived_5 rfl (lv_at hl 0 rfl) ?_
  refine g_248_store hC hI tw_1_213 dX9_isArchived_6 ?_
  refine gN_0_revisions hC hI tw_1_100 dX9_isArchived_9 ?_
  refine lv_iload_n hx hb dX9_isArchived_12 rfl (lv_at hl 1 rfl) ?_
  obtain ⟨r13, V13, q13, hf⟩ := gbd hf
  refine k_X6_inArchive hC hI hl.1 q13 tw_4_133 ⟨Nat.le_of_ble_eq_true rfl, Nat.le_of_ble_eq_true rfl⟩ ⟨Nat.le_of_ble_eq_true rfl, Nat.le_of_ble_eq_true rfl⟩ (Nat.le_of_ble_eq_true rfl) dX9_isArchived_13 (fun H locs hI => ?_)
  obtain ⟨h16, hf⟩ := gi hf
  exact x_zret hC hI h16 hf ⟨Nat.le_of_ble_eq_true rfl, Nat.le_of_ble_eq_true rfl⟩ dX9_isArchived_16
theorem kx_X9_isArchived {p : Program} {l : Launch} {e : Env} {R : Room} {cells slots mc ms : Nat} {s : State} {m : MethodId} {args : Array Value} {below : List Frame} {meth : Method} {c : Code} {H : Heap} {locs : List Loc} {Qc : Array Value → State → Outcome → State → Prop} {E : En} {ad : Nat → Nat} {V : Mem} {ow : String} {b : ByteArray} {n : Nat} {ret : Option FieldType} {pc index : Nat} {ls : Array Slot} {rest : List Value} {a1 : Int32} {k1 k : Nat} {r : Int32} {V1 Vz : Mem} (hS : SF E) (hC : Cx p s m args c meth E ow b n ret) (hY : Cy l c) (hI : In E ad V s H locs) (hsz : ls.size = n) (hf : f_X9_isArchived V a1 = some (k1, r, V1)) (hl : Cond.methodLink ow index yX9_isArchived ∈ TB) (hR : 7 + 1 ≤ R.frames ∧ 8 + (2 + 11) + 40 * 7 ≤ R.locals) (hcs : cells + 1 ≤ R.cells ∧ slots + 6 ≤ R.slots) (hc : cells + 1 ≤ mc ∧ slots + 6 ≤ ms) (hw : (rest.map fun v => v.category).sum ≤ 8) (hdg : decode b pc = .ok (.invokevirtual index, 3)) (hx : k1 ≠ 0 → k1 = k ∧ V1 = Vz) (kk : k1 = 0 → ∀ (H1 : Heap) (locs1 : List Loc), In E ad V1 s H1 locs1 → W p l e R s m args below meth c H1 locs1 (cells + 1) (slots + 6) (vx_MQ below Qc (QX E ad k Vz) args s mc ms (ours E)) (F0 m (pc + 3) ls ((.int r) :: rest))) : W p l e R s m args below meth c H locs cells slots (vx_MQ below Qc (QX E ad k Vz) args s mc ms (ours E)) (F0 m pc ls (.int a1 :: .ref (ad 248) :: rest)) :=
  after_callX hC hY hI (xrunV_tb (As := [.int a1]) (rest := rest) hC hI hsz (m_X9_isArchived l hY.2 E ad V a1 hS k1 r V1 hf) cv_X9_isArchived hl (by decide) (ce_248 _) rfl rfl rfl hR hcs hw hdg) hc hx kk

theorem dX9_requirePresent_0 : decode cX9_requirePresent 0 = .ok (.iload_n 0, 1) := by decide +kernel
theorem dX9_requirePresent_1 : decode cX9_requirePresent 1 = .ok (.iconst (-1), 1) := by decide +kernel
theorem dX9_requirePresent_2 : decode cX9_requirePresent 2 = .ok (.if_icmp .ne 14, 3) := by decide +kernel
theorem dX9_requirePresent_5 : decode cX9_requirePresent 5 = .ok (.new 253, 3) := by decide +kernel
theorem dX9_requirePresent_8 : decode cX9_requirePresent 8 = .ok (.dup, 1) := by decide +kernel
theorem dX9_requirePresent_9 : decode cX9_requirePresent 9 = .ok (.ldc_w 425, 3) := by decide +kernel
theorem dX9_requirePresent_12 : decode cX9_requirePresent 12 = .ok (.invokespecial 257, 3) := by decide +kernel
theorem dX9_requirePresent_15 : decode cX9_requirePresent 15 = .ok (.athrow, 1) := by decide +kernel
theorem dX9_requirePresent_16 : decode cX9_requirePresent 16 = .ok (.iload_n 0, 1) := by decide +kernel
theorem dX9_requirePresent_17 : decode cX9_requirePresent 17 = .ok (.ireturn, 1) := by decide +kernel
def f_X9_requirePresent (V : Mem) (a0 : Int32) : Option (Nat × Int32 × Mem) :=
  if a0 = (-1) then
    some (3, 0, V)
  else
    some (0, a0, V)
theorem cv_X9_requirePresent : CalS yX9_requirePresent cX9_requirePresent 1 (some .int) 1 := ⟨⟨⟨by decide +kernel, by decide +kernel⟩, tw_1_1, tw_4_144, by decide +kernel⟩, tw_4_143⟩
set_option maxRecDepth 100000 in
set_option maxHeartbeats 4000000 in
theorem m_X9_requirePresent (l : Launch) (hT : l.stackTraces = false) (E : En) (ad : Nat → Nat) (V : Mem) (a0 : Int32) (hS : SF E) (k : Nat) (r : Int32) (Vz : Mem) (hf : f_X9_requirePresent V a0 = some (k, r, Vz)) : MX l E ad yX9_requirePresent cX9_requirePresent 1 (some .int) 6 1 6 [.int a0] V k (some (.int r)) Vz := by
  refine entX (E := E) (ad := ad) (V := V) "LetterRepository" hT (by decide +kernel) rfl (Nat.le_of_ble_eq_true rfl) ?_
  intro p e s m below meth c ls hC hY hI hl
  have hx := hC.1
  have hb := hC.2.1
  have hl : lv_has ls 1 [(0, .int a0)] := hl
  unfold f_X9_requirePresent at hf
  refine lv_iload_n hx hb dX9_requirePresent_0 rfl (lv_at hl 0 rfl) ?_
  refine lv_iconst (v := (-1)) hx hb dX9_requirePresent_1 rfl ?_
  refine lv_icmp_ne (tgt := 16) hx hb dX9_requirePresent_2 (by decide) (fun c2 => ?_) (fun c2 => ?_)
  · have hf := gf hf c2
    refine lv_iload_n hx hb dX9_requirePresent_16 rfl (lv_at hl 0 rfl) ?_
    exact x_iret hC hI hf ⟨Nat.le_of_ble_eq_true rfl, Nat.le_of_ble_eq_true rfl⟩ dX9_requirePresent_17
  · have hf := gt hf c2
    exact x_thr3w hS hC hY hI hl.1 (List.Mem.tail _ (List.Mem.tail _ (List.Mem.tail _ (List.Mem.tail _ (List.Mem.tail _ (List.Mem.tail _ (List.Mem.tail _ (List.Mem.tail _ (List.Mem.tail _ (List.Mem.tail _ (List.Mem.tail _ (List.Mem.tail _ (List.Mem.tail _ (List.Mem.tail _ (List.Mem.tail _ (List.Mem.tail _ (List.Mem.head _))))))))))))))))) (hx3 hf) ⟨Nat.le_of_ble_eq_true rfl, Nat.le_of_ble_eq_true rfl, Nat.le_of_ble_eq_true rfl, Nat.le_of_ble_eq_true rfl⟩ ⟨Nat.le_of_ble_eq_true rfl, Nat.le_of_ble_eq_true rfl⟩ dX9_requirePresent_5 dX9_requirePresent_8 dX9_requirePresent_9 dX9_requirePresent_12 dX9_requirePresent_15
theorem kx_X9_requirePresent {p : Program} {l : Launch} {e : Env} {R : Room} {cells slots mc ms : Nat} {s : State} {m : MethodId} {args : Array Value} {below : List Frame} {meth : Method} {c : Code} {H : Heap} {locs : List Loc} {Qc : Array Value → State → Outcome → State → Prop} {E : En} {ad : Nat → Nat} {V : Mem} {ow : String} {b : ByteArray} {n : Nat} {ret : Option FieldType} {pc index : Nat} {ls : Array Slot} {rest : List Value} {a0 : Int32} {k1 k : Nat} {r : Int32} {V1 Vz : Mem} (hS : SF E) (hC : Cx p s m args c meth E ow b n ret) (hY : Cy l c) (hI : In E ad V s H locs) (hsz : ls.size = n) (hf : f_X9_requirePresent V a0 = some (k1, r, V1)) (hl : Cond.methodLink ow index yX9_requirePresent ∈ TB) (hR : 6 + 1 ≤ R.frames ∧ 8 + (1 + 11) + 40 * 6 ≤ R.locals) (hcs : cells + 1 ≤ R.cells ∧ slots + 6 ≤ R.slots) (hc : cells + 1 ≤ mc ∧ slots + 6 ≤ ms) (hw : (rest.map fun v => v.category).sum ≤ 8) (hdg : decode b pc = .ok (.invokestatic index, 3)) (hx : k1 ≠ 0 → k1 = k ∧ V1 = Vz) (kk : k1 = 0 → ∀ (H1 : Heap) (locs1 : List Loc), In E ad V1 s H1 locs1 → W p l e R s m args below meth c H1 locs1 (cells + 1) (slots + 6) (vx_MQ below Qc (QX E ad k Vz) args s mc ms (ours E)) (F0 m (pc + 3) ls ((.int r) :: rest))) : W p l e R s m args below meth c H locs cells slots (vx_MQ below Qc (QX E ad k Vz) args s mc ms (ours E)) (F0 m pc ls (.int a0 :: rest)) :=
  after_callX hC hY hI (xrunS_tb (As := [.int a0]) (rest := rest) hC hI hsz (m_X9_requirePresent l hY.2 E ad V a0 hS k1 r V1 hf) cv_X9_requirePresent hl rfl rfl hR hcs hw hdg) hc hx kk

theorem dX9_firstParent_0 : decode cX9_firstParent 0 = .ok (.aload_n 0, 1) := by decide +kernel
theorem dX9_firstParent_1 : decode cX9_firstParent 1 = .ok (.iload_n 1, 1) := by decide +kernel
theorem dX9_firstParent_2 : decode cX9_firstParent 2 = .ok (.invokevirtual 140, 3) := by decide +kernel
theorem dX9_firstParent_5 : decode cX9_firstParent 5 = .ok (.aload_n 0, 1) := by decide +kernel
theorem dX9_firstParent_6 : decode cX9_firstParent 6 = .ok (.getfield 10, 3) := by decide +kernel
theorem dX9_firstParent_9 : decode cX9_firstParent 9 = .ok (.getfield 131, 3) := by decide +kernel
theorem dX9_firstParent_12 : decode cX9_firstParent 12 = .ok (.iload_n 1, 1) := by decide +kernel
theorem dX9_firstParent_13 : decode cX9_firstParent 13 = .ok (.invokevirtual 148, 3) := by decide +kernel
theorem dX9_firstParent_16 : decode cX9_firstParent 16 = .ok (.invokestatic 151, 3) := by decide +kernel
theorem dX9_firstParent_19 : decode cX9_firstParent 19 = .ok (.ireturn, 1) := by decide +kernel
def f_X9_firstParent (V : Mem) (a1 : Int32) : Option (Nat × Int32 × Mem) :=
  bw 0 (f_X9_requireRevision V a1) fun V2 =>
  bd (f_X6_firstParentOf V2 a1) fun r13 V13 =>
  bx 0 (f_X9_requirePresent V13 r13) fun r16 V16 =>
  some (0, r16, V16)
theorem cv_X9_firstParent : CalV yX9_firstParent cX9_firstParent 2 (some .int) 1 := ⟨⟨⟨by decide +kernel, by decide +kernel⟩, tw_1_1, tw_4_140, by decide +kernel⟩, tw_4_138, tw_4_139⟩
set_option maxRecDepth 100000 in
set_option maxHeartbeats 4000000 in
theorem m_X9_firstParent (l : Launch) (hT : l.stackTraces = false) (E : En) (ad : Nat → Nat) (V : Mem) (a1 : Int32) (hS : SF E) (k : Nat) (r : Int32) (Vz : Mem) (hf : f_X9_firstParent V a1 = some (k, r, Vz)) : MX l E ad yX9_firstParent cX9_firstParent 2 (some .int) 7 2 12 [.ref (ad 248), .int a1] V k (some (.int r)) Vz := by
  refine entX (E := E) (ad := ad) (V := V) "LetterRepository" hT (by decide +kernel) rfl (Nat.le_of_ble_eq_true rfl) ?_
  intro p e s m below meth c ls hC hY hI hl
  have hx := hC.1
  have hb := hC.2.1
  have hl : lv_has ls 2 [(0, .ref (ad 248)), (1, .int a1)] := hl
  unfold f_X9_firstParent at hf
  refine lv_aload_n hx hb dX9_firstParent_0 rfl (lv_at hl 0 rfl) ?_
  refine lv_iload_n hx hb dX9_firstParent_1 rfl (lv_at hl 1 rfl) ?_
  obtain ⟨q2, V2, e2, hf⟩ := gbw hf
  refine kx_X9_requireRevision hS hC hY hI hl.1 e2 tw_4_127 ⟨Nat.le_of_ble_eq_true rfl, Nat.le_of_ble_eq_true rfl⟩ ⟨Nat.le_of_ble_eq_true rfl, Nat.le_of_ble_eq_true rfl⟩ ⟨Nat.le_of_ble_eq_true rfl, Nat.le_of_ble_eq_true rfl⟩ (Nat.le_of_ble_eq_true rfl) dX9_firstParent_2 (fun h0 => hx3 ((if_neg h0).symm.trans hf)) (fun h0 H locs hI => ?_)
  have hf := (if_pos h0).symm.trans hf
  refine lv_aload_n hx hb dX9_firstParent_5 rfl (lv_at hl 0 rfl) ?_
  refine g_248_store hC hI tw_1_213 dX9_firstParent_6 ?_
  refine gN_0_revisions hC hI tw_1_100 dX9_firstParent_9 ?_
  refine lv_iload_n hx hb dX9_firstParent_12 rfl (lv_at hl 1 rfl) ?_
  obtain ⟨r13, V13, q13, hf⟩ := gbd hf
  refine k_X6_firstParentOf hC hI hl.1 q13 tw_4_141 ⟨Nat.le_of_ble_eq_true rfl, Nat.le_of_ble_eq_true rfl⟩ ⟨Nat.le_of_ble_eq_true rfl, Nat.le_of_ble_eq_true rfl⟩ (Nat.le_of_ble_eq_true rfl) dX9_firstParent_13 (fun H locs hI => ?_)
  obtain ⟨q16, r16, V16, e16, hf⟩ := gbx hf
  refine kx_X9_requirePresent hS hC hY hI hl.1 e16 tw_4_142 ⟨Nat.le_of_ble_eq_true rfl, Nat.le_of_ble_eq_true rfl⟩ ⟨Nat.le_of_ble_eq_true rfl, Nat.le_of_ble_eq_true rfl⟩ ⟨Nat.le_of_ble_eq_true rfl, Nat.le_of_ble_eq_true rfl⟩ (Nat.le_of_ble_eq_true rfl) dX9_firstParent_16 (fun h0 => hx3 ((if_neg h0).symm.trans hf)) (fun h0 H locs hI => ?_)
  have hf := (if_pos h0).symm.trans hf
  exact x_iret hC hI hf ⟨Nat.le_of_ble_eq_true rfl, Nat.le_of_ble_eq_true rfl⟩ dX9_firstParent_19
theorem kx_X9_firstParent {p : Program} {l : Launch} {e : Env} {R : Room} {cells slots mc ms : Nat} {s : State} {m : MethodId} {args : Array Value} {below : List Frame} {meth : Method} {c : Code} {H : Heap} {locs : List Loc} {Qc : Array Value → State → Outcome → State → Prop} {E : En} {ad : Nat → Nat} {V : Mem} {ow : String} {b : ByteArray} {n : Nat} {ret : Option FieldType} {pc index : Nat} {ls : Array Slot} {rest : List Value} {a1 : Int32} {k1 k : Nat} {r : Int32} {V1 Vz : Mem} (hS : SF E) (hC : Cx p s m args c meth E ow b n ret) (hY : Cy l c) (hI : In E ad V s H locs) (hsz : ls.size = n) (hf : f_X9_firstParent V a1 = some (k1, r, V1)) (hl : Cond.methodLink ow index yX9_firstParent ∈ TB) (hR : 7 + 1 ≤ R.frames ∧ 8 + (2 + 11) + 40 * 7 ≤ R.locals) (hcs : cells + 2 ≤ R.cells ∧ slots + 12 ≤ R.slots) (hc : cells + 2 ≤ mc ∧ slots + 12 ≤ ms) (hw : (rest.map fun v => v.category).sum ≤ 8) (hdg : decode b pc = .ok (.invokevirtual index, 3)) (hx : k1 ≠ 0 → k1 = k ∧ V1 = Vz) (kk : k1 = 0 → ∀ (H1 : Heap) (locs1 : List Loc), In E ad V1 s H1 locs1 → W p l e R s m args below meth c H1 locs1 (cells + 2) (slots + 12) (vx_MQ below Qc (QX E ad k Vz) args s mc ms (ours E)) (F0 m (pc + 3) ls ((.int r) :: rest))) : W p l e R s m args below meth c H locs cells slots (vx_MQ below Qc (QX E ad k Vz) args s mc ms (ours E)) (F0 m pc ls (.int a1 :: .ref (ad 248) :: rest)) :=
  after_callX hC hY hI (xrunV_tb (As := [.int a1]) (rest := rest) hC hI hsz (m_X9_firstParent l hY.2 E ad V a1 hS k1 r V1 hf) cv_X9_firstParent hl (by decide) (ce_248 _) rfl rfl rfl hR hcs hw hdg) hc hx kk

theorem dX9_secondParent_0 : decode cX9_secondParent 0 = .ok (.aload_n 0, 1) := by decide +kernel
theorem dX9_secondParent_1 : decode cX9_secondParent 1 = .ok (.iload_n 1, 1) := by decide +kernel
theorem dX9_secondParent_2 : decode cX9_secondParent 2 = .ok (.invokevirtual 140, 3) := by decide +kernel
theorem dX9_secondParent_5 : decode cX9_secondParent 5 = .ok (.aload_n 0, 1) := by decide +kernel
theorem dX9_secondParent_6 : decode cX9_secondParent 6 = .ok (.getfield 10, 3) := by decide +kernel
theorem dX9_secondParent_9 : decode cX9_secondParent 9 = .ok (.getfield 131, 3) := by decide +kernel
theorem dX9_secondParent_12 : decode cX9_secondParent 12 = .ok (.iload_n 1, 1) := by decide +kernel
theorem dX9_secondParent_13 : decode cX9_secondParent 13 = .ok (.invokevirtual 154, 3) := by decide +kernel
theorem dX9_secondParent_16 : decode cX9_secondParent 16 = .ok (.invokestatic 151, 3) := by decide +kernel
theorem dX9_secondParent_19 : decode cX9_secondParent 19 = .ok (.ireturn, 1) := by decide +kernel
def f_X9_secondParent (V : Mem) (a1 : Int32) : Option (Nat × Int32 × Mem) :=
  bw 0 (f_X9_requireRevision V a1) fun V2 =>
  bd (f_X6_secondParentOf V2 a1) fun r13 V13 =>
  bx 0 (f_X9_requirePresent V13 r13) fun r16 V16 =>
  some (0, r16, V16)
theorem cv_X9_secondParent : CalV yX9_secondParent cX9_secondParent 2 (some .int) 1 := ⟨⟨⟨by decide +kernel, by decide +kernel⟩, tw_1_1, tw_4_152, by decide +kernel⟩, tw_4_150, tw_4_151⟩
set_option maxRecDepth 100000 in
set_option maxHeartbeats 4000000 in
theorem m_X9_secondParent (l : Launch) (hT : l.stackTraces = false) (E : En) (ad : Nat → Nat) (V : Mem) (a1 : Int32) (hS : SF E) (k : Nat) (r : Int32) (Vz : Mem) (hf : f_X9_secondParent V a1 = some (k, r, Vz)) : MX l E ad yX9_secondParent cX9_secondParent 2 (some .int) 7 2 12 [.ref (ad 248), .int a1] V k (some (.int r)) Vz := by
  refine entX (E := E) (ad := ad) (V := V) "LetterRepository" hT (by decide +kernel) rfl (Nat.le_of_ble_eq_true rfl) ?_
  intro p e s m below meth c ls hC hY hI hl
  have hx := hC.1
  have hb := hC.2.1
  have hl : lv_has ls 2 [(0, .ref (ad 248)), (1, .int a1)] := hl
  unfold f_X9_secondParent at hf
  refine lv_aload_n hx hb dX9_secondParent_0 rfl (lv_at hl 0 rfl) ?_
  refine lv_iload_n hx hb dX9_secondParent_1 rfl (lv_at hl 1 rfl) ?_
  obtain ⟨q2, V2, e2, hf⟩ := gbw hf
  refine kx_X9_requireRevision hS hC hY hI hl.1 e2 tw_4_127 ⟨Nat.le_of_ble_eq_true rfl, Nat.le_of_ble_eq_true rfl⟩ ⟨Nat.le_of_ble_eq_true rfl, Nat.le_of_ble_eq_true rfl⟩ ⟨Nat.le_of_ble_eq_true rfl, Nat.le_of_ble_eq_true rfl⟩ (Nat.le_of_ble_eq_true rfl) dX9_secondParent_2 (fun h0 => hx3 ((if_neg h0).symm.trans hf)) (fun h0 H locs hI => ?_)
  have hf := (if_pos h0).symm.trans hf
  refine lv_aload_n hx hb dX9_secondParent_5 rfl (lv_at hl 0 rfl) ?_
  refine g_248_store hC hI tw_1_213 dX9_secondParent_6 ?_
  refine gN_0_revisions hC hI tw_1_100 dX9_secondParent_9 ?_
  refine lv_iload_n hx hb dX9_secondParent_12 rfl (lv_at hl 1 rfl) ?_
  obtain ⟨r13, V13, q13, hf⟩ := gbd hf
  refine k_X6_secondParentOf hC hI hl.1 q13 tw_4_153 ⟨Nat.le_of_ble_eq_true rfl, Nat.le_of_ble_eq_true rfl⟩ ⟨Nat.le_of_ble_eq_true rfl, Nat.le_of_ble_eq_true rfl⟩ (Nat.le_of_ble_eq_true rfl) dX9_secondParent_13 (fun H locs hI => ?_)
  obtain ⟨q16, r16, V16, e16, hf⟩ := gbx hf
  refine kx_X9_requirePresent hS hC hY hI hl.1 e16 tw_4_142 ⟨Nat.le_of_ble_eq_true rfl, Nat.le_of_ble_eq_true rfl⟩ ⟨Nat.le_of_ble_eq_true rfl, Nat.le_of_ble_eq_true rfl⟩ ⟨Nat.le_of_ble_eq_true rfl, Nat.le_of_ble_eq_true rfl⟩ (Nat.le_of_ble_eq_true rfl) dX9_secondParent_16 (fun h0 => hx3 ((if_neg h0).symm.trans hf)) (fun h0 H locs hI => ?_)
  have hf := (if_pos h0).symm.trans hf
  exact x_iret hC hI hf ⟨Nat.le_of_ble_eq_true rfl, Nat.le_of_ble_eq_true rfl⟩ dX9_secondParent_19
theorem kx_X9_secondParent {p : Program} {l : Launch} {e : Env} {R : Room} {cells slots mc ms : Nat} {s : State} {m : MethodId} {args : Array Value} {below : List Frame} {meth : Method} {c : Code} {H : Heap} {locs : List Loc} {Qc : Array Value → State → Outcome → State → Prop} {E : En} {ad : Nat → Nat} {V : Mem} {ow : String} {b : ByteArray} {n : Nat} {ret : Option FieldType} {pc index : Nat} {ls : Array Slot} {rest : List Value} {a1 : Int32} {k1 k : Nat} {r : Int32} {V1 Vz : Mem} (hS : SF E) (hC : Cx p s m args c meth E ow b n ret) (hY : Cy l c) (hI : In E ad V s H locs) (hsz : ls.size = n) (hf : f_X9_secondParent V a1 = some (k1, r, V1)) (hl : Cond.methodLink ow index yX9_secondParent ∈ TB) (hR : 7 + 1 ≤ R.frames ∧ 8 + (2 + 11) + 40 * 7 ≤ R.locals) (hcs : cells + 2 ≤ R.cells ∧ slots + 12 ≤ R.slots) (hc : cells + 2 ≤ mc ∧ slots + 12 ≤ ms) (hw : (rest.map fun v => v.category).sum ≤ 8) (hdg : decode b pc = .ok (.invokevirtual index, 3)) (hx : k1 ≠ 0 → k1 = k ∧ V1 = Vz) (kk : k1 = 0 → ∀ (H1 : Heap) (locs1 : List Loc), In E ad V1 s H1 locs1 → W p l e R s m args below meth c H1 locs1 (cells + 2) (slots + 12) (vx_MQ below Qc (QX E ad k Vz) args s mc ms (ours E)) (F0 m (pc + 3) ls ((.int r) :: rest))) : W p l e R s m args below meth c H locs cells slots (vx_MQ below Qc (QX E ad k Vz) args s mc ms (ours E)) (F0 m pc ls (.int a1 :: .ref (ad 248) :: rest)) :=
  after_callX hC hY hI (xrunV_tb (As := [.int a1]) (rest := rest) hC hI hsz (m_X9_secondParent l hY.2 E ad V a1 hS k1 r V1 hf) cv_X9_secondParent hl (by decide) (ce_248 _) rfl rfl rfl hR hcs hw hdg) hc hx kk

theorem dX9_authorOf_0 : decode cX9_authorOf 0 = .ok (.aload_n 0, 1) := by decide +kernel
theorem dX9_authorOf_1 : decode cX9_authorOf 1 = .ok (.iload_n 1, 1) := by decide +kernel
theorem dX9_authorOf_2 : decode cX9_authorOf 2 = .ok (.invokevirtual 140, 3) := by decide +kernel
theorem dX9_authorOf_5 : decode cX9_authorOf 5 = .ok (.aload_n 0, 1) := by decide +kernel
theorem dX9_authorOf_6 : decode cX9_authorOf 6 = .ok (.getfield 10, 3) := by decide +kernel
theorem dX9_authorOf_9 : decode cX9_authorOf 9 = .ok (.getfield 131, 3) := by decide +kernel
theorem dX9_authorOf_12 : decode cX9_authorOf 12 = .ok (.iload_n 1, 1) := by decide +kernel
theorem dX9_authorOf_13 : decode cX9_authorOf 13 = .ok (.invokevirtual 157, 3) := by decide +kernel
theorem dX9_authorOf_16 : decode cX9_authorOf 16 = .ok (.ireturn, 1) := by decide +kernel
def f_X9_authorOf (V : Mem) (a1 : Int32) : Option (Nat × Int32 × Mem) :=
  bw 0 (f_X9_requireRevision V a1) fun V2 =>
  bd (f_X6_writerOf V2 a1) fun r13 V13 =>
  some (0, r13, V13)
theorem cv_X9_authorOf : CalV yX9_authorOf cX9_authorOf 2 (some .int) 1 := ⟨⟨⟨by decide +kernel, by decide +kernel⟩, tw_1_1, tw_4_160, by decide +kernel⟩, tw_4_158, tw_4_159⟩
set_option maxRecDepth 100000 in
set_option maxHeartbeats 4000000 in
theorem m_X9_authorOf (l : Launch) (hT : l.stackTraces = false) (E : En) (ad : Nat → Nat) (V : Mem) (a1 : Int32) (hS : SF E) (k : Nat) (r : Int32) (Vz : Mem) (hf : f_X9_authorOf V a1 = some (k, r, Vz)) : MX l E ad yX9_authorOf cX9_authorOf 2 (some .int) 7 1 6 [.ref (ad 248), .int a1] V k (some (.int r)) Vz := by
  refine entX (E := E) (ad := ad) (V := V) "LetterRepository" hT (by decide +kernel) rfl (Nat.le_of_ble_eq_true rfl) ?_
  intro p e s m below meth c ls hC hY hI hl
  have hx := hC.1
  have hb := hC.2.1
  have hl : lv_has ls 2 [(0, .ref (ad 248)), (1, .int a1)] := hl
  unfold f_X9_authorOf at hf
  refine lv_aload_n hx hb dX9_authorOf_0 rfl (lv_at hl 0 rfl) ?_
  refine lv_iload_n hx hb dX9_authorOf_1 rfl (lv_at hl 1 rfl) ?_
  obtain ⟨q2, V2, e2, hf⟩ := gbw hf
  refine kx_X9_requireRevision hS hC hY hI hl.1 e2 tw_4_127 ⟨Nat.le_of_ble_eq_true rfl, Nat.le_of_ble_eq_true rfl⟩ ⟨Nat.le_of_ble_eq_true rfl, Nat.le_of_ble_eq_true rfl⟩ ⟨Nat.le_of_ble_eq_true rfl, Nat.le_of_ble_eq_true rfl⟩ (Nat.le_of_ble_eq_true rfl) dX9_authorOf_2 (fun h0 => hx3 ((if_neg h0).symm.trans hf)) (fun h0 H locs hI => ?_)
  have hf := (if_pos h0).symm.trans hf
  refine lv_aload_n hx hb dX9_authorOf_5 rfl (lv_at hl 0 rfl) ?_
  refine g_248_store hC hI tw_1_213 dX9_authorOf_6 ?_
  refine gN_0_revisions hC hI tw_1_100 dX9_authorOf_9 ?_
  refine lv_iload_n hx hb dX9_authorOf_12 rfl (lv_at hl 1 rfl) ?_
  obtain ⟨r13, V13, q13, hf⟩ := gbd hf
  refine k_X6_writerOf hC hI hl.1 q13 tw_4_161 ⟨Nat.le_of_ble_eq_true rfl, Nat.le_of_ble_eq_true rfl⟩ ⟨Nat.le_of_ble_eq_true rfl, Nat.le_of_ble_eq_true rfl⟩ (Nat.le_of_ble_eq_true rfl) dX9_authorOf_13 (fun H locs hI => ?_)
  exact x_iret hC hI hf ⟨Nat.le_of_ble_eq_true rfl, Nat.le_of_ble_eq_true rfl⟩ dX9_authorOf_16
theorem kx_X9_authorOf {p : Program} {l : Launch} {e : Env} {R : Room} {cells slots mc ms : Nat} {s : State} {m : MethodId} {args : Array Value} {below : List Frame} {meth : Method} {c : Code} {H : Heap} {locs : List Loc} {Qc : Array Value → State → Outcome → State → Prop} {E : En} {ad : Nat → Nat} {V : Mem} {ow : String} {b : ByteArray} {n : Nat} {ret : Option FieldType} {pc index : Nat} {ls : Array Slot} {rest : List Value} {a1 : Int32} {k1 k : Nat} {r : Int32} {V1 Vz : Mem} (hS : SF E) (hC : Cx p s m args c meth E ow b n ret) (hY : Cy l c) (hI : In E ad V s H locs) (hsz : ls.size = n) (hf : f_X9_authorOf V a1 = some (k1, r, V1)) (hl : Cond.methodLink ow index yX9_authorOf ∈ TB) (hR : 7 + 1 ≤ R.frames ∧ 8 + (2 + 11) + 40 * 7 ≤ R.locals) (hcs : cells + 1 ≤ R.cells ∧ slots + 6 ≤ R.slots) (hc : cells + 1 ≤ mc ∧ slots + 6 ≤ ms) (hw : (rest.map fun v => v.category).sum ≤ 8) (hdg : decode b pc = .ok (.invokevirtual index, 3)) (hx : k1 ≠ 0 → k1 = k ∧ V1 = Vz) (kk : k1 = 0 → ∀ (H1 : Heap) (locs1 : List Loc), In E ad V1 s H1 locs1 → W p l e R s m args below meth c H1 locs1 (cells + 1) (slots + 6) (vx_MQ below Qc (QX E ad k Vz) args s mc ms (ours E)) (F0 m (pc + 3) ls ((.int r) :: rest))) : W p l e R s m args below meth c H locs cells slots (vx_MQ below Qc (QX E ad k Vz) args s mc ms (ours E)) (F0 m pc ls (.int a1 :: .ref (ad 248) :: rest)) :=
  after_callX hC hY hI (xrunV_tb (As := [.int a1]) (rest := rest) hC hI hsz (m_X9_authorOf l hY.2 E ad V a1 hS k1 r V1 hf) cv_X9_authorOf hl (by decide) (ce_248 _) rfl rfl rfl hR hcs hw hdg) hc hx kk

theorem dX9_generation_0 : decode cX9_generation 0 = .ok (.aload_n 0, 1) := by decide +kernel
theorem dX9_generation_1 : decode cX9_generation 1 = .ok (.iload_n 1, 1) := by decide +kernel
theorem dX9_generation_2 : decode cX9_generation 2 = .ok (.invokevirtual 140, 3) := by decide +kernel
theorem dX9_generation_5 : decode cX9_generation 5 = .ok (.aload_n 0, 1) := by decide +kernel
theorem dX9_generation_6 : decode cX9_generation 6 = .ok (.getfield 10, 3) := by decide +kernel
theorem dX9_generation_9 : decode cX9_generation 9 = .ok (.getfield 131, 3) := by decide +kernel
theorem dX9_generation_12 : decode cX9_generation 12 = .ok (.iload_n 1, 1) := by decide +kernel
theorem dX9_generation_13 : decode cX9_generation 13 = .ok (.invokevirtual 160, 3) := by decide +kernel
theorem dX9_generation_16 : decode cX9_generation 16 = .ok (.ireturn, 1) := by decide +kernel
def f_X9_generation (V : Mem) (a1 : Int32) : Option (Nat × Int32 × Mem) :=
  bw 0 (f_X9_requireRevision V a1) fun V2 =>
  bd (f_X6_generationOf V2 a1) fun r13 V13 =>
  some (0, r13, V13)
theorem cv_X9_generation : CalV yX9_generation cX9_generation 2 (some .int) 1 := ⟨⟨⟨by decide +kernel, by decide +kernel⟩, tw_1_1, tw_4_168, by decide +kernel⟩, tw_4_166, tw_4_167⟩
set_option maxRecDepth 100000 in
set_option maxHeartbeats 4000000 in
theorem m_X9_generation (l : Launch) (hT : l.stackTraces = false) (E : En) (ad : Nat → Nat) (V : Mem) (a1 : Int32) (hS : SF E) (k : Nat) (r : Int32) (Vz : Mem) (hf : f_X9_generation V a1 = some (k, r, Vz)) : MX l E ad yX9_generation cX9_generation 2 (some .int) 7 1 6 [.ref (ad 248), .int a1] V k (some (.int r)) Vz := by
  refine entX (E := E) (ad := ad) (V := V) "LetterRepository" hT (by decide +kernel) rfl (Nat.le_of_ble_eq_true rfl) ?_
  intro p e s m below meth c ls hC hY hI hl
  have hx := hC.1
  have hb := hC.2.1
  have hl : lv_has ls 2 [(0, .ref (ad 248)), (1, .int a1)] := hl
  unfold f_X9_generation at hf
  refine lv_aload_n hx hb dX9_generation_0 rfl (lv_at hl 0 rfl) ?_
  refine lv_iload_n hx hb dX9_generation_1 rfl (lv_at hl 1 rfl) ?_
  obtain ⟨q2, V2, e2, hf⟩ := gbw hf
  refine kx_X9_requireRevision hS hC hY hI hl.1 e2 tw_4_127 ⟨Nat.le_of_ble_eq_true rfl, Nat.le_of_ble_eq_true rfl⟩ ⟨Nat.le_of_ble_eq_true rfl, Nat.le_of_ble_eq_true rfl⟩ ⟨Nat.le_of_ble_eq_true rfl, Nat.le_of_ble_eq_true rfl⟩ (Nat.le_of_ble_eq_true rfl) dX9_generation_2 (fun h0 => hx3 ((if_neg h0).symm.trans hf)) (fun h0 H locs hI => ?_)
  have hf := (if_pos h0).symm.trans hf
  refine lv_aload_n hx hb dX9_generation_5 rfl (lv_at hl 0 rfl) ?_
  refine g_248_store hC hI tw_1_213 dX9_generation_6 ?_
  refine gN_0_revisions hC hI tw_1_100 dX9_generation_9 ?_
  refine lv_iload_n hx hb dX9_generation_12 rfl (lv_at hl 1 rfl) ?_
  obtain ⟨r13, V13, q13, hf⟩ := gbd hf
  refine k_X6_generationOf hC hI hl.1 q13 tw_4_169 ⟨Nat.le_of_ble_eq_true rfl, Nat.le_of_ble_eq_true rfl⟩ ⟨Nat.le_of_ble_eq_true rfl, Nat.le_of_ble_eq_true rfl⟩ (Nat.le_of_ble_eq_true rfl) dX9_generation_13 (fun H locs hI => ?_)
  exact x_iret hC hI hf ⟨Nat.le_of_ble_eq_true rfl, Nat.le_of_ble_eq_true rfl⟩ dX9_generation_16
theorem kx_X9_generation {p : Program} {l : Launch} {e : Env} {R : Room} {cells slots mc ms : Nat} {s : State} {m : MethodId} {args : Array Value} {below : List Frame} {meth : Method} {c : Code} {H : Heap} {locs : List Loc} {Qc : Array Value → State → Outcome → State → Prop} {E : En} {ad : Nat → Nat} {V : Mem} {ow : String} {b : ByteArray} {n : Nat} {ret : Option FieldType} {pc index : Nat} {ls : Array Slot} {rest : List Value} {a1 : Int32} {k1 k : Nat} {r : Int32} {V1 Vz : Mem} (hS : SF E) (hC : Cx p s m args c meth E ow b n ret) (hY : Cy l c) (hI : In E ad V s H locs) (hsz : ls.size = n) (hf : f_X9_generation V a1 = some (k1, r, V1)) (hl : Cond.methodLink ow index yX9_generation ∈ TB) (hR : 7 + 1 ≤ R.frames ∧ 8 + (2 + 11) + 40 * 7 ≤ R.locals) (hcs : cells + 1 ≤ R.cells ∧ slots + 6 ≤ R.slots) (hc : cells + 1 ≤ mc ∧ slots + 6 ≤ ms) (hw : (rest.map fun v => v.category).sum ≤ 8) (hdg : decode b pc = .ok (.invokevirtual index, 3)) (hx : k1 ≠ 0 → k1 = k ∧ V1 = Vz) (kk : k1 = 0 → ∀ (H1 : Heap) (locs1 : List Loc), In E ad V1 s H1 locs1 → W p l e R s m args below meth c H1 locs1 (cells + 1) (slots + 6) (vx_MQ below Qc (QX E ad k Vz) args s mc ms (ours E)) (F0 m (pc + 3) ls ((.int r) :: rest))) : W p l e R s m args below meth c H locs cells slots (vx_MQ below Qc (QX E ad k Vz) args s mc ms (ours E)) (F0 m pc ls (.int a1 :: .ref (ad 248) :: rest)) :=
  after_callX hC hY hI (xrunV_tb (As := [.int a1]) (rest := rest) hC hI hsz (m_X9_generation l hY.2 E ad V a1 hS k1 r V1 hf) cv_X9_generation hl (by decide) (ce_248 _) rfl rfl rfl hR hcs hw hdg) hc hx kk

theorem dX9_requireField_0 : decode cX9_requireField 0 = .ok (.iload_n 0, 1) := by decide +kernel
theorem dX9_requireField_1 : decode cX9_requireField 1 = .ok (.invokestatic 415, 3) := by decide +kernel
theorem dX9_requireField_4 : decode cX9_requireField 4 = .ok (.ifCond .ne 14, 3) := by decide +kernel
theorem dX9_requireField_7 : decode cX9_requireField 7 = .ok (.new 319, 3) := by decide +kernel
theorem dX9_requireField_10 : decode cX9_requireField 10 = .ok (.dup, 1) := by decide +kernel
theorem dX9_requireField_11 : decode cX9_requireField 11 = .ok (.ldc_w 418, 3) := by decide +kernel
theorem dX9_requireField_14 : decode cX9_requireField 14 = .ok (.invokespecial 323, 3) := by decide +kernel
theorem dX9_requireField_17 : decode cX9_requireField 17 = .ok (.athrow, 1) := by decide +kernel
theorem dX9_requireField_18 : decode cX9_requireField 18 = .ok (.return_, 1) := by decide +kernel
def f_X9_requireField (V : Mem) (a0 : Int32) : Option (Nat × Mem) :=
  bd (f_X9_isField V a0) fun r1 V1 =>
  if r1 = 0 then
    some (1, V1)
  else
    some (0, V1)
theorem cv_X9_requireField : CalS yX9_requireField cX9_requireField 1 none 1 := ⟨⟨⟨by decide +kernel, by decide +kernel⟩, tw_1_1, tw_4_179, by decide +kernel⟩, tw_4_178⟩
set_option maxRecDepth 100000 in
set_option maxHeartbeats 4000000 in
theorem m_X9_requireField (l : Launch) (hT : l.stackTraces = false) (E : En) (ad : Nat → Nat) (V : Mem) (a0 : Int32) (hS : SF E) (k : Nat) (Vz : Mem) (hf : f_X9_requireField V a0 = some (k, Vz)) : MX l E ad yX9_requireField cX9_requireField 1 none 6 1 6 [.int a0] V k none Vz := by
  refine entX (E := E) (ad := ad) (V := V) "LetterRepository" hT (by decide +kernel) rfl (Nat.le_of_ble_eq_true rfl) ?_
  intro p e s m below meth c ls hC hY hI hl
  have hx := hC.1
  have hb := hC.2.1
  have hl : lv_has ls 1 [(0, .int a0)] := hl
  unfold f_X9_requireField at hf
  refine lv_iload_n hx hb dX9_requireField_0 rfl (lv_at hl 0 rfl) ?_
  obtain ⟨r1, V1, q1, hf⟩ := gbd hf
  refine k_X9_isField hC hI hl.1 q1 tw_4_180 ⟨Nat.le_of_ble_eq_true rfl, Nat.le_of_ble_eq_true rfl⟩ ⟨Nat.le_of_ble_eq_true rfl, Nat.le_of_ble_eq_true rfl⟩ (Nat.le_of_ble_eq_true rfl) dX9_requireField_1 (fun H locs hI => ?_)
  refine lv_if_ne (tgt := 18) hx hb dX9_requireField_4 (by decide) (fun c4 => ?_) (fun c4 => ?_)
  · have hf := gf hf c4
    exact x_vret hC hI hf ⟨Nat.le_of_ble_eq_true rfl, Nat.le_of_ble_eq_true rfl⟩ dX9_requireField_18
  · have hf := gt hf c4
    exact x_thr1w hS hC hY hI hl.1 (List.Mem.tail _ (List.Mem.tail _ (List.Mem.tail _ (List.Mem.tail _ (List.Mem.tail _ (List.Mem.tail _ (List.Mem.tail _ (List.Mem.tail _ (List.Mem.tail _ (List.Mem.tail _ (List.Mem.tail _ (List.Mem.tail _ (List.Mem.tail _ (List.Mem.tail _ (List.Mem.head _))))))))))))))) (hx2 hf) ⟨Nat.le_of_ble_eq_true rfl, Nat.le_of_ble_eq_true rfl, Nat.le_of_ble_eq_true rfl, Nat.le_of_ble_eq_true rfl⟩ ⟨Nat.le_of_ble_eq_true rfl, Nat.le_of_ble_eq_true rfl⟩ dX9_requireField_7 dX9_requireField_10 dX9_requireField_11 dX9_requireField_14 dX9_requireField_17
theorem kx_X9_requireField {p : Program} {l : Launch} {e : Env} {R : Room} {cells slots mc ms : Nat} {s : State} {m : MethodId} {args : Array Value} {below : List Frame} {meth : Method} {c : Code} {H : Heap} {locs : List Loc} {Qc : Array Value → State → Outcome → State → Prop} {E : En} {ad : Nat → Nat} {V : Mem} {ow : String} {b : ByteArray} {n : Nat} {ret : Option FieldType} {pc index : Nat} {ls : Array Slot} {rest : List Value} {a0 : Int32} {k1 k : Nat} {V1 Vz : Mem} (hS : SF E) (hC : Cx p s m args c meth E ow b n ret) (hY : Cy l c) (hI : In E ad V s H locs) (hsz : ls.size = n) (hf : f_X9_requireField V a0 = some (k1, V1)) (hl : Cond.methodLink ow index yX9_requireField ∈ TB) (hR : 6 + 1 ≤ R.frames ∧ 8 + (1 + 11) + 40 * 6 ≤ R.locals) (hcs : cells + 1 ≤ R.cells ∧ slots + 6 ≤ R.slots) (hc : cells + 1 ≤ mc ∧ slots + 6 ≤ ms) (hw : (rest.map fun v => v.category).sum ≤ 8) (hdg : decode b pc = .ok (.invokestatic index, 3)) (hx : k1 ≠ 0 → k1 = k ∧ V1 = Vz) (kk : k1 = 0 → ∀ (H1 : Heap) (locs1 : List Loc), In E ad V1 s H1 locs1 → W p l e R s m args below meth c H1 locs1 (cells + 1) (slots + 6) (vx_MQ below Qc (QX E ad k Vz) args s mc ms (ours E)) (F0 m (pc + 3) ls (rest))) : W p l e R s m args below meth c H locs cells slots (vx_MQ below Qc (QX E ad k Vz) args s mc ms (ours E)) (F0 m pc ls (.int a0 :: rest)) :=
  after_callX hC hY hI (xrunS_tb (As := [.int a0]) (rest := rest) hC hI hsz (m_X9_requireField l hY.2 E ad V a0 hS k1 V1 hf) cv_X9_requireField hl rfl rfl hR hcs hw hdg) hc hx kk

theorem dX9_letterIn_0 : decode cX9_letterIn 0 = .ok (.aload_n 0, 1) := by decide +kernel
theorem dX9_letterIn_1 : decode cX9_letterIn 1 = .ok (.iload_n 1, 1) := by decide +kernel
theorem dX9_letterIn_2 : decode cX9_letterIn 2 = .ok (.invokevirtual 140, 3) := by decide +kernel
theorem dX9_letterIn_5 : decode cX9_letterIn 5 = .ok (.iload_n 2, 1) := by decide +kernel
theorem dX9_letterIn_6 : decode cX9_letterIn 6 = .ok (.invokestatic 163, 3) := by decide +kernel
theorem dX9_letterIn_9 : decode cX9_letterIn 9 = .ok (.aload_n 0, 1) := by decide +kernel
theorem dX9_letterIn_10 : decode cX9_letterIn 10 = .ok (.getfield 10, 3) := by decide +kernel
theorem dX9_letterIn_13 : decode cX9_letterIn 13 = .ok (.getfield 131, 3) := by decide +kernel
theorem dX9_letterIn_16 : decode cX9_letterIn 16 = .ok (.iload_n 1, 1) := by decide +kernel
theorem dX9_letterIn_17 : decode cX9_letterIn 17 = .ok (.iload_n 2, 1) := by decide +kernel
theorem dX9_letterIn_18 : decode cX9_letterIn 18 = .ok (.invokevirtual 166, 3) := by decide +kernel
theorem dX9_letterIn_21 : decode cX9_letterIn 21 = .ok (.i2c, 1) := by decide +kernel
theorem dX9_letterIn_22 : decode cX9_letterIn 22 = .ok (.ireturn, 1) := by decide +kernel
def f_X9_letterIn (V : Mem) (a1 : Int32) (a2 : Int32) : Option (Nat × Int32 × Mem) :=
  bw 0 (f_X9_requireRevision V a1) fun V2 =>
  bw 0 (f_X9_requireField V2 a2) fun V6 =>
  bd (f_X6_letterOf V6 a1 a2) fun r18 V18 =>
  some (0, (((r18 : Int32).toUInt32 % 65536).toInt32), V18)
theorem cv_X9_letterIn : CalV yX9_letterIn cX9_letterIn 3 (some .char) 2 := ⟨⟨⟨by decide +kernel, by decide +kernel⟩, tw_1_1, tw_4_176, by decide +kernel⟩, tw_4_174, tw_4_175⟩
set_option maxRecDepth 100000 in
set_option maxHeartbeats 4000000 in
theorem m_X9_letterIn (l : Launch) (hT : l.stackTraces = false) (E : En) (ad : Nat → Nat) (V : Mem) (a1 : Int32) (a2 : Int32) (hS : SF E) (k : Nat) (r : Int32) (Vz : Mem) (hf : f_X9_letterIn V a1 a2 = some (k, r, Vz)) : MX l E ad yX9_letterIn cX9_letterIn 3 (some .char) 7 2 12 [.ref (ad 248), .int a1, .int a2] V k (some (.int r)) Vz := by
  refine entX (E := E) (ad := ad) (V := V) "LetterRepository" hT (by decide +kernel) rfl (Nat.le_of_ble_eq_true rfl) ?_
  intro p e s m below meth c ls hC hY hI hl
  have hx := hC.1
  have hb := hC.2.1
  have hl : lv_has ls 3 [(0, .ref (ad 248)), (1, .int a1), (2, .int a2)] := hl
  unfold f_X9_letterIn at hf
  refine lv_aload_n hx hb dX9_letterIn_0 rfl (lv_at hl 0 rfl) ?_
  refine lv_iload_n hx hb dX9_letterIn_1 rfl (lv_at hl 1 rfl) ?_
  obtain ⟨q2, V2, e2, hf⟩ := gbw hf
  refine kx_X9_requireRevision hS hC hY hI hl.1 e2 tw_4_127 ⟨Nat.le_of_ble_eq_true rfl, Nat.le_of_ble_eq_true rfl⟩ ⟨Nat.le_of_ble_eq_true rfl, Nat.le_of_ble_eq_true rfl⟩ ⟨Nat.le_of_ble_eq_true rfl, Nat.le_of_ble_eq_true rfl⟩ (Nat.le_of_ble_eq_true rfl) dX9_letterIn_2 (fun h0 => hx3 ((if_neg h0).symm.trans hf)) (fun h0 H locs hI => ?_)
  have hf := (if_pos h0).symm.trans hf
  refine lv_iload_n hx hb dX9_letterIn_5 rfl (lv_at hl 2 rfl) ?_
  obtain ⟨q6, V6, e6, hf⟩ := gbw hf
  refine kx_X9_requireField hS hC hY hI hl.1 e6 tw_4_177 ⟨Nat.le_of_ble_eq_true rfl, Nat.le_of_ble_eq_true rfl⟩ ⟨Nat.le_of_ble_eq_true rfl, Nat.le_of_ble_eq_true rfl⟩ ⟨Nat.le_of_ble_eq_true rfl, Nat.le_of_ble_eq_true rfl⟩ (Nat.le_of_ble_eq_true rfl) dX9_letterIn_6 (fun h0 => hx3 ((if_neg h0).symm.trans hf)) (fun h0 H locs hI => ?_)
  have hf := (if_pos h0).symm.trans hf
  refine lv_aload_n hx hb dX9_letterIn_9 rfl (lv_at hl 0 rfl) ?_
  refine g_248_store hC hI tw_1_213 dX9_letterIn_10 ?_
  refine gN_0_revisions hC hI tw_1_100 dX9_letterIn_13 ?_
  refine lv_iload_n hx hb dX9_letterIn_16 rfl (lv_at hl 1 rfl) ?_
  refine lv_iload_n hx hb dX9_letterIn_17 rfl (lv_at hl 2 rfl) ?_
  obtain ⟨r18, V18, q18, hf⟩ := gbd hf
  refine k_X6_letterOf hC hI hl.1 q18 tw_4_182 ⟨Nat.le_of_ble_eq_true rfl, Nat.le_of_ble_eq_true rfl⟩ ⟨Nat.le_of_ble_eq_true rfl, Nat.le_of_ble_eq_true rfl⟩ (Nat.le_of_ble_eq_true rfl) dX9_letterIn_18 (fun H locs hI => ?_)
  refine lv_i2c hx hb dX9_letterIn_21 rfl ?_
  exact x_cret hC hI hf ⟨Nat.le_of_ble_eq_true rfl, Nat.le_of_ble_eq_true rfl⟩ dX9_letterIn_22
theorem kx_X9_letterIn {p : Program} {l : Launch} {e : Env} {R : Room} {cells slots mc ms : Nat} {s : State} {m : MethodId} {args : Array Value} {below : List Frame} {meth : Method} {c : Code} {H : Heap} {locs : List Loc} {Qc : Array Value → State → Outcome → State → Prop} {E : En} {ad : Nat → Nat} {V : Mem} {ow : String} {b : ByteArray} {n : Nat} {ret : Option FieldType} {pc index : Nat} {ls : Array Slot} {rest : List Value} {a1 : Int32} {a2 : Int32} {k1 k : Nat} {r : Int32} {V1 Vz : Mem} (hS : SF E) (hC : Cx p s m args c meth E ow b n ret) (hY : Cy l c) (hI : In E ad V s H locs) (hsz : ls.size = n) (hf : f_X9_letterIn V a1 a2 = some (k1, r, V1)) (hl : Cond.methodLink ow index yX9_letterIn ∈ TB) (hR : 7 + 1 ≤ R.frames ∧ 8 + (3 + 11) + 40 * 7 ≤ R.locals) (hcs : cells + 2 ≤ R.cells ∧ slots + 12 ≤ R.slots) (hc : cells + 2 ≤ mc ∧ slots + 12 ≤ ms) (hw : (rest.map fun v => v.category).sum ≤ 8) (hdg : decode b pc = .ok (.invokevirtual index, 3)) (hx : k1 ≠ 0 → k1 = k ∧ V1 = Vz) (kk : k1 = 0 → ∀ (H1 : Heap) (locs1 : List Loc), In E ad V1 s H1 locs1 → W p l e R s m args below meth c H1 locs1 (cells + 2) (slots + 12) (vx_MQ below Qc (QX E ad k Vz) args s mc ms (ours E)) (F0 m (pc + 3) ls ((.int r) :: rest))) : W p l e R s m args below meth c H locs cells slots (vx_MQ below Qc (QX E ad k Vz) args s mc ms (ours E)) (F0 m pc ls (.int a2 :: .int a1 :: .ref (ad 248) :: rest)) :=
  after_callX hC hY hI (xrunV_tb (As := [.int a1, .int a2]) (rest := rest) hC hI hsz (m_X9_letterIn l hY.2 E ad V a1 a2 hS k1 r V1 hf) cv_X9_letterIn hl (by decide) (ce_248 _) rfl rfl rfl hR hcs hw hdg) hc hx kk

theorem dX9_isAncestor_0 : decode cX9_isAncestor 0 = .ok (.aload_n 0, 1) := by decide +kernel
theorem dX9_isAncestor_1 : decode cX9_isAncestor 1 = .ok (.iload_n 1, 1) := by decide +kernel
theorem dX9_isAncestor_2 : decode cX9_isAncestor 2 = .ok (.invokevirtual 140, 3) := by decide +kernel
theorem dX9_isAncestor_5 : decode cX9_isAncestor 5 = .ok (.aload_n 0, 1) := by decide +kernel
theorem dX9_isAncestor_6 : decode cX9_isAncestor 6 = .ok (.iload_n 2, 1) := by decide +kernel
theorem dX9_isAncestor_7 : decode cX9_isAncestor 7 = .ok (.invokevirtual 140, 3) := by decide +kernel
theorem dX9_isAncestor_10 : decode cX9_isAncestor 10 = .ok (.aload_n 0, 1) := by decide +kernel
theorem dX9_isAncestor_11 : decode cX9_isAncestor 11 = .ok (.getfield 10, 3) := by decide +kernel
theorem dX9_isAncestor_14 : decode cX9_isAncestor 14 = .ok (.getfield 131, 3) := by decide +kernel
theorem dX9_isAncestor_17 : decode cX9_isAncestor 17 = .ok (.iload_n 2, 1) := by decide +kernel
theorem dX9_isAncestor_18 : decode cX9_isAncestor 18 = .ok (.invokevirtual 169, 3) := by decide +kernel
theorem dX9_isAncestor_21 : decode cX9_isAncestor 21 = .ok (.iload_n 1, 1) := by decide +kernel
theorem dX9_isAncestor_22 : decode cX9_isAncestor 22 = .ok (.invokestatic 172, 3) := by decide +kernel
theorem dX9_isAncestor_25 : decode cX9_isAncestor 25 = .ok (.ireturn, 1) := by decide +kernel
def f_X9_isAncestor (V : Mem) (a1 : Int32) (a2 : Int32) : Option (Nat × Int32 × Mem) :=
  bw 0 (f_X9_requireRevision V a1) fun V2 =>
  bw 0 (f_X9_requireRevision V2 a2) fun V7 =>
  bd (f_X6_ancestorSetOf V7 a2) fun r18 V18 =>
  bd (f_X9_contains V18 r18 a1) fun r22 V22 =>
  if r22 = 0 ∨ r22 = 1 then
    some (0, r22, V22)
  else none
theorem cv_X9_isAncestor : CalV yX9_isAncestor cX9_isAncestor 3 (some .boolean) 2 := ⟨⟨⟨by decide +kernel, by decide +kernel⟩, tw_1_1, tw_4_189, by decide +kernel⟩, tw_4_187, tw_4_188⟩
set_option maxRecDepth 100000 in
set_option maxHeartbeats 4000000 in
theorem m_X9_isAncestor (l : Launch) (hT : l.stackTraces = false) (E : En) (ad : Nat → Nat) (V : Mem) (a1 : Int32) (a2 : Int32) (hS : SF E) (k : Nat) (r : Int32) (Vz : Mem) (hf : f_X9_isAncestor V a1 a2 = some (k, r, Vz)) : MX l E ad yX9_isAncestor cX9_isAncestor 3 (some .boolean) 7 2 12 [.ref (ad 248), .int a1, .int a2] V k (some (.int r)) Vz := by
  refine entX (E := E) (ad := ad) (V := V) "LetterRepository" hT (by decide +kernel) rfl (Nat.le_of_ble_eq_true rfl) ?_
  intro p e s m below meth c ls hC hY hI hl
  have hx := hC.1
  have hb := hC.2.1
  have hl : lv_has ls 3 [(0, .ref (ad 248)), (1, .int a1), (2, .int a2)] := hl
  unfold f_X9_isAncestor at hf
  refine lv_aload_n hx hb dX9_isAncestor_0 rfl (lv_at hl 0 rfl) ?_
  refine lv_iload_n hx hb dX9_isAncestor_1 rfl (lv_at hl 1 rfl) ?_
  obtain ⟨q2, V2, e2, hf⟩ := gbw hf
  refine kx_X9_requireRevision hS hC hY hI hl.1 e2 tw_4_127 ⟨Nat.le_of_ble_eq_true rfl, Nat.le_of_ble_eq_true rfl⟩ ⟨Nat.le_of_ble_eq_true rfl, Nat.le_of_ble_eq_true rfl⟩ ⟨Nat.le_of_ble_eq_true rfl, Nat.le_of_ble_eq_true rfl⟩ (Nat.le_of_ble_eq_true rfl) dX9_isAncestor_2 (fun h0 => hx3 ((if_neg h0).symm.trans hf)) (fun h0 H locs hI => ?_)
  have hf := (if_pos h0).symm.trans hf
  refine lv_aload_n hx hb dX9_isAncestor_5 rfl (lv_at hl 0 rfl) ?_
  refine lv_iload_n hx hb dX9_isAncestor_6 rfl (lv_at hl 2 rfl) ?_
  obtain ⟨q7, V7, e7, hf⟩ := gbw hf
  refine kx_X9_requireRevision hS hC hY hI hl.1 e7 tw_4_127 ⟨Nat.le_of_ble_eq_true rfl, Nat.le_of_ble_eq_true rfl⟩ ⟨Nat.le_of_ble_eq_true rfl, Nat.le_of_ble_eq_true rfl⟩ ⟨Nat.le_of_ble_eq_true rfl, Nat.le_of_ble_eq_true rfl⟩ (Nat.le_of_ble_eq_true rfl) dX9_isAncestor_7 (fun h0 => hx3 ((if_neg h0).symm.trans hf)) (fun h0 H locs hI => ?_)
  have hf := (if_pos h0).symm.trans hf
  refine lv_aload_n hx hb dX9_isAncestor_10 rfl (lv_at hl 0 rfl) ?_
  refine g_248_store hC hI tw_1_213 dX9_isAncestor_11 ?_
  refine gN_0_revisions hC hI tw_1_100 dX9_isAncestor_14 ?_
  refine lv_iload_n hx hb dX9_isAncestor_17 rfl (lv_at hl 2 rfl) ?_
  obtain ⟨r18, V18, q18, hf⟩ := gbd hf
  refine k_X6_ancestorSetOf hC hI hl.1 q18 tw_4_190 ⟨Nat.le_of_ble_eq_true rfl, Nat.le_of_ble_eq_true rfl⟩ ⟨Nat.le_of_ble_eq_true rfl, Nat.le_of_ble_eq_true rfl⟩ (Nat.le_of_ble_eq_true rfl) dX9_isAncestor_18 (fun H locs hI => ?_)
  refine lv_iload_n hx hb dX9_isAncestor_21 rfl (lv_at hl 1 rfl) ?_
  obtain ⟨r22, V22, q22, hf⟩ := gbd hf
  refine k_X9_contains hC hI hl.1 q22 tw_4_191 ⟨Nat.le_of_ble_eq_true rfl, Nat.le_of_ble_eq_true rfl⟩ ⟨Nat.le_of_ble_eq_true rfl, Nat.le_of_ble_eq_true rfl⟩ (Nat.le_of_ble_eq_true rfl) dX9_isAncestor_22 (fun H locs hI => ?_)
  obtain ⟨h25, hf⟩ := gi hf
  exact x_zret hC hI h25 hf ⟨Nat.le_of_ble_eq_true rfl, Nat.le_of_ble_eq_true rfl⟩ dX9_isAncestor_25
theorem kx_X9_isAncestor {p : Program} {l : Launch} {e : Env} {R : Room} {cells slots mc ms : Nat} {s : State} {m : MethodId} {args : Array Value} {below : List Frame} {meth : Method} {c : Code} {H : Heap} {locs : List Loc} {Qc : Array Value → State → Outcome → State → Prop} {E : En} {ad : Nat → Nat} {V : Mem} {ow : String} {b : ByteArray} {n : Nat} {ret : Option FieldType} {pc index : Nat} {ls : Array Slot} {rest : List Value} {a1 : Int32} {a2 : Int32} {k1 k : Nat} {r : Int32} {V1 Vz : Mem} (hS : SF E) (hC : Cx p s m args c meth E ow b n ret) (hY : Cy l c) (hI : In E ad V s H locs) (hsz : ls.size = n) (hf : f_X9_isAncestor V a1 a2 = some (k1, r, V1)) (hl : Cond.methodLink ow index yX9_isAncestor ∈ TB) (hR : 7 + 1 ≤ R.frames ∧ 8 + (3 + 11) + 40 * 7 ≤ R.locals) (hcs : cells + 2 ≤ R.cells ∧ slots + 12 ≤ R.slots) (hc : cells + 2 ≤ mc ∧ slots + 12 ≤ ms) (hw : (rest.map fun v => v.category).sum ≤ 8) (hdg : decode b pc = .ok (.invokevirtual index, 3)) (hx : k1 ≠ 0 → k1 = k ∧ V1 = Vz) (kk : k1 = 0 → ∀ (H1 : Heap) (locs1 : List Loc), In E ad V1 s H1 locs1 → W p l e R s m args below meth c H1 locs1 (cells + 2) (slots + 12) (vx_MQ below Qc (QX E ad k Vz) args s mc ms (ours E)) (F0 m (pc + 3) ls ((.int r) :: rest))) : W p l e R s m args below meth c H locs cells slots (vx_MQ below Qc (QX E ad k Vz) args s mc ms (ours E)) (F0 m pc ls (.int a2 :: .int a1 :: .ref (ad 248) :: rest)) :=
  after_callX hC hY hI (xrunV_tb (As := [.int a1, .int a2]) (rest := rest) hC hI hsz (m_X9_isAncestor l hY.2 E ad V a1 a2 hS k1 r V1 hf) cv_X9_isAncestor hl (by decide) (ce_248 _) rfl rfl rfl hR hcs hw hdg) hc hx kk

theorem dX9_ancestorCount_0 : decode cX9_ancestorCount 0 = .ok (.aload_n 0, 1) := by decide +kernel
theorem dX9_ancestorCount_1 : decode cX9_ancestorCount 1 = .ok (.iload_n 1, 1) := by decide +kernel
theorem dX9_ancestorCount_2 : decode cX9_ancestorCount 2 = .ok (.invokevirtual 140, 3) := by decide +kernel
theorem dX9_ancestorCount_5 : decode cX9_ancestorCount 5 = .ok (.aload_n 0, 1) := by decide +kernel
theorem dX9_ancestorCount_6 : decode cX9_ancestorCount 6 = .ok (.getfield 10, 3) := by decide +kernel
theorem dX9_ancestorCount_9 : decode cX9_ancestorCount 9 = .ok (.getfield 131, 3) := by decide +kernel
theorem dX9_ancestorCount_12 : decode cX9_ancestorCount 12 = .ok (.iload_n 1, 1) := by decide +kernel
theorem dX9_ancestorCount_13 : decode cX9_ancestorCount 13 = .ok (.invokevirtual 169, 3) := by decide +kernel
theorem dX9_ancestorCount_16 : decode cX9_ancestorCount 16 = .ok (.invokestatic 176, 3) := by decide +kernel
theorem dX9_ancestorCount_19 : decode cX9_ancestorCount 19 = .ok (.ireturn, 1) := by decide +kernel
def f_X9_ancestorCount (V : Mem) (a1 : Int32) : Option (Nat × Int32 × Mem) :=
  bw 0 (f_X9_requireRevision V a1) fun V2 =>
  bd (f_X6_ancestorSetOf V2 a1) fun r13 V13 =>
  bd (f_J6_bitCount_0f7a4 V13 r13) fun r16 V16 =>
  some (0, r16, V16)
theorem cv_X9_ancestorCount : CalV yX9_ancestorCount cX9_ancestorCount 2 (some .int) 1 := ⟨⟨⟨by decide +kernel, by decide +kernel⟩, tw_1_1, tw_4_198, by decide +kernel⟩, tw_4_196, tw_4_197⟩
set_option maxRecDepth 100000 in
set_option maxHeartbeats 4000000 in
theorem m_X9_ancestorCount (l : Launch) (hT : l.stackTraces = false) (E : En) (ad : Nat → Nat) (V : Mem) (a1 : Int32) (hS : SF E) (k : Nat) (r : Int32) (Vz : Mem) (hf : f_X9_ancestorCount V a1 = some (k, r, Vz)) : MX l E ad yX9_ancestorCount cX9_ancestorCount 2 (some .int) 7 1 6 [.ref (ad 248), .int a1] V k (some (.int r)) Vz := by
  refine entX (E := E) (ad := ad) (V := V) "LetterRepository" hT (by decide +kernel) rfl (Nat.le_of_ble_eq_true rfl) ?_
  intro p e s m below meth c ls hC hY hI hl
  have hx := hC.1
  have hb := hC.2.1
  have hl : lv_has ls 2 [(0, .ref (ad 248)), (1, .int a1)] := hl
  unfold f_X9_ancestorCount at hf
  refine lv_aload_n hx hb dX9_ancestorCount_0 rfl (lv_at hl 0 rfl) ?_
  refine lv_iload_n hx hb dX9_ancestorCount_1 rfl (lv_at hl 1 rfl) ?_
  obtain ⟨q2, V2, e2, hf⟩ := gbw hf
  refine kx_X9_requireRevision hS hC hY hI hl.1 e2 tw_4_127 ⟨Nat.le_of_ble_eq_true rfl, Nat.le_of_ble_eq_true rfl⟩ ⟨Nat.le_of_ble_eq_true rfl, Nat.le_of_ble_eq_true rfl⟩ ⟨Nat.le_of_ble_eq_true rfl, Nat.le_of_ble_eq_true rfl⟩ (Nat.le_of_ble_eq_true rfl) dX9_ancestorCount_2 (fun h0 => hx3 ((if_neg h0).symm.trans hf)) (fun h0 H locs hI => ?_)
  have hf := (if_pos h0).symm.trans hf
  refine lv_aload_n hx hb dX9_ancestorCount_5 rfl (lv_at hl 0 rfl) ?_
  refine g_248_store hC hI tw_1_213 dX9_ancestorCount_6 ?_
  refine gN_0_revisions hC hI tw_1_100 dX9_ancestorCount_9 ?_
  refine lv_iload_n hx hb dX9_ancestorCount_12 rfl (lv_at hl 1 rfl) ?_
  obtain ⟨r13, V13, q13, hf⟩ := gbd hf
  refine k_X6_ancestorSetOf hC hI hl.1 q13 tw_4_190 ⟨Nat.le_of_ble_eq_true rfl, Nat.le_of_ble_eq_true rfl⟩ ⟨Nat.le_of_ble_eq_true rfl, Nat.le_of_ble_eq_true rfl⟩ (Nat.le_of_ble_eq_true rfl) dX9_ancestorCount_13 (fun H locs hI => ?_)
  obtain ⟨r16, V16, q16, hf⟩ := gbd hf
  refine k_J6_bitCount_0f7a4 hC hI hl.1 q16 tw_2_123 ⟨Nat.le_of_ble_eq_true rfl, Nat.le_of_ble_eq_true rfl⟩ ⟨Nat.le_of_ble_eq_true rfl, Nat.le_of_ble_eq_true rfl⟩ (Nat.le_of_ble_eq_true rfl) dX9_ancestorCount_16 (fun H locs hI => ?_)
  exact x_iret hC hI hf ⟨Nat.le_of_ble_eq_true rfl, Nat.le_of_ble_eq_true rfl⟩ dX9_ancestorCount_19
theorem kx_X9_ancestorCount {p : Program} {l : Launch} {e : Env} {R : Room} {cells slots mc ms : Nat} {s : State} {m : MethodId} {args : Array Value} {below : List Frame} {meth : Method} {c : Code} {H : Heap} {locs : List Loc} {Qc : Array Value → State → Outcome → State → Prop} {E : En} {ad : Nat → Nat} {V : Mem} {ow : String} {b : ByteArray} {n : Nat} {ret : Option FieldType} {pc index : Nat} {ls : Array Slot} {rest : List Value} {a1 : Int32} {k1 k : Nat} {r : Int32} {V1 Vz : Mem} (hS : SF E) (hC : Cx p s m args c meth E ow b n ret) (hY : Cy l c) (hI : In E ad V s H locs) (hsz : ls.size = n) (hf : f_X9_ancestorCount V a1 = some (k1, r, V1)) (hl : Cond.methodLink ow index yX9_ancestorCount ∈ TB) (hR : 7 + 1 ≤ R.frames ∧ 8 + (2 + 11) + 40 * 7 ≤ R.locals) (hcs : cells + 1 ≤ R.cells ∧ slots + 6 ≤ R.slots) (hc : cells + 1 ≤ mc ∧ slots + 6 ≤ ms) (hw : (rest.map fun v => v.category).sum ≤ 8) (hdg : decode b pc = .ok (.invokevirtual index, 3)) (hx : k1 ≠ 0 → k1 = k ∧ V1 = Vz) (kk : k1 = 0 → ∀ (H1 : Heap) (locs1 : List Loc), In E ad V1 s H1 locs1 → W p l e R s m args below meth c H1 locs1 (cells + 1) (slots + 6) (vx_MQ below Qc (QX E ad k Vz) args s mc ms (ours E)) (F0 m (pc + 3) ls ((.int r) :: rest))) : W p l e R s m args below meth c H locs cells slots (vx_MQ below Qc (QX E ad k Vz) args s mc ms (ours E)) (F0 m pc ls (.int a1 :: .ref (ad 248) :: rest)) :=
  after_callX hC hY hI (xrunV_tb (As := [.int a1]) (rest := rest) hC hI hsz (m_X9_ancestorCount l hY.2 E ad V a1 hS k1 r V1 hf) cv_X9_ancestorCount hl (by decide) (ce_248 _) rfl rfl rfl hR hcs hw hdg) hc hx kk

theorem dX9_commonAncestor_0 : decode cX9_commonAncestor 0 = .ok (.aload_n 0, 1) := by decide +kernel
theorem dX9_commonAncestor_1 : decode cX9_commonAncestor 1 = .ok (.iload_n 1, 1) := by decide +kernel
theorem dX9_commonAncestor_2 : decode cX9_commonAncestor 2 = .ok (.invokevirtual 140, 3) := by decide +kernel
theorem dX9_commonAncestor_5 : decode cX9_commonAncestor 5 = .ok (.aload_n 0, 1) := by decide +kernel
theorem dX9_commonAncestor_6 : decode cX9_commonAncestor 6 = .ok (.iload_n 2, 1) := by decide +kernel
theorem dX9_commonAncestor_7 : decode cX9_commonAncestor 7 = .ok (.invokevirtual 140, 3) := by decide +kernel
theorem dX9_commonAncestor_10 : decode cX9_commonAncestor 10 = .ok (.aload_n 0, 1) := by decide +kernel
theorem dX9_commonAncestor_11 : decode cX9_commonAncestor 11 = .ok (.getfield 10, 3) := by decide +kernel
theorem dX9_commonAncestor_14 : decode cX9_commonAncestor 14 = .ok (.getfield 131, 3) := by decide +kernel
theorem dX9_commonAncestor_17 : decode cX9_commonAncestor 17 = .ok (.iload_n 1, 1) := by decide +kernel
theorem dX9_commonAncestor_18 : decode cX9_commonAncestor 18 = .ok (.iload_n 2, 1) := by decide +kernel
theorem dX9_commonAncestor_19 : decode cX9_commonAncestor 19 = .ok (.invokevirtual 181, 3) := by decide +kernel
theorem dX9_commonAncestor_22 : decode cX9_commonAncestor 22 = .ok (.ireturn, 1) := by decide +kernel
def f_X9_commonAncestor (V : Mem) (a1 : Int32) (a2 : Int32) : Option (Nat × Int32 × Mem) :=
  bw 0 (f_X9_requireRevision V a1) fun V2 =>
  bw 0 (f_X9_requireRevision V2 a2) fun V7 =>
  bd (f_X6_latestCommon V7 a1 a2) fun r19 V19 =>
  some (0, r19, V19)
theorem cv_X9_commonAncestor : CalV yX9_commonAncestor cX9_commonAncestor 3 (some .int) 2 := ⟨⟨⟨by decide +kernel, by decide +kernel⟩, tw_1_1, tw_4_205, by decide +kernel⟩, tw_4_203, tw_4_204⟩
set_option maxRecDepth 100000 in
set_option maxHeartbeats 4000000 in
theorem m_X9_commonAncestor (l : Launch) (hT : l.stackTraces = false) (E : En) (ad : Nat → Nat) (V : Mem) (a1 : Int32) (a2 : Int32) (hS : SF E) (k : Nat) (r : Int32) (Vz : Mem) (hf : f_X9_commonAncestor V a1 a2 = some (k, r, Vz)) : MX l E ad yX9_commonAncestor cX9_commonAncestor 3 (some .int) 31 2 12 [.ref (ad 248), .int a1, .int a2] V k (some (.int r)) Vz := by
  refine entX (E := E) (ad := ad) (V := V) "LetterRepository" hT (by decide +kernel) rfl (Nat.le_of_ble_eq_true rfl) ?_
  intro p e s m below meth c ls hC hY hI hl
  have hx := hC.1
  have hb := hC.2.1
  have hl : lv_has ls 3 [(0, .ref (ad 248)), (1, .int a1), (2, .int a2)] := hl
  unfold f_X9_commonAncestor at hf
  refine lv_aload_n hx hb dX9_commonAncestor_0 rfl (lv_at hl 0 rfl) ?_
  refine lv_iload_n hx hb dX9_commonAncestor_1 rfl (lv_at hl 1 rfl) ?_
  obtain ⟨q2, V2, e2, hf⟩ := gbw hf
  refine kx_X9_requireRevision hS hC hY hI hl.1 e2 tw_4_127 ⟨Nat.le_of_ble_eq_true rfl, Nat.le_of_ble_eq_true rfl⟩ ⟨Nat.le_of_ble_eq_true rfl, Nat.le_of_ble_eq_true rfl⟩ ⟨Nat.le_of_ble_eq_true rfl, Nat.le_of_ble_eq_true rfl⟩ (Nat.le_of_ble_eq_true rfl) dX9_commonAncestor_2 (fun h0 => hx3 ((if_neg h0).symm.trans hf)) (fun h0 H locs hI => ?_)
  have hf := (if_pos h0).symm.trans hf
  refine lv_aload_n hx hb dX9_commonAncestor_5 rfl (lv_at hl 0 rfl) ?_
  refine lv_iload_n hx hb dX9_commonAncestor_6 rfl (lv_at hl 2 rfl) ?_
  obtain ⟨q7, V7, e7, hf⟩ := gbw hf
  refine kx_X9_requireRevision hS hC hY hI hl.1 e7 tw_4_127 ⟨Nat.le_of_ble_eq_true rfl, Nat.le_of_ble_eq_true rfl⟩ ⟨Nat.le_of_ble_eq_true rfl, Nat.le_of_ble_eq_true rfl⟩ ⟨Nat.le_of_ble_eq_true rfl, Nat.le_of_ble_eq_true rfl⟩ (Nat.le_of_ble_eq_true rfl) dX9_commonAncestor_7 (fun h0 => hx3 ((if_neg h0).symm.trans hf)) (fun h0 H locs hI => ?_)
  have hf := (if_pos h0).symm.trans hf
  refine lv_aload_n hx hb dX9_commonAncestor_10 rfl (lv_at hl 0 rfl) ?_
  refine g_248_store hC hI tw_1_213 dX9_commonAncestor_11 ?_
  refine gN_0_revisions hC hI tw_1_100 dX9_commonAncestor_14 ?_
  refine lv_iload_n hx hb dX9_commonAncestor_17 rfl (lv_at hl 1 rfl) ?_
  refine lv_iload_n hx hb dX9_commonAncestor_18 rfl (lv_at hl 2 rfl) ?_
  obtain ⟨r19, V19, q19, hf⟩ := gbd hf
  refine k_X6_latestCommon hC hI hl.1 q19 tw_4_206 ⟨Nat.le_of_ble_eq_true rfl, Nat.le_of_ble_eq_true rfl⟩ ⟨Nat.le_of_ble_eq_true rfl, Nat.le_of_ble_eq_true rfl⟩ (Nat.le_of_ble_eq_true rfl) dX9_commonAncestor_19 (fun H locs hI => ?_)
  exact x_iret hC hI hf ⟨Nat.le_of_ble_eq_true rfl, Nat.le_of_ble_eq_true rfl⟩ dX9_commonAncestor_22
theorem kx_X9_commonAncestor {p : Program} {l : Launch} {e : Env} {R : Room} {cells slots mc ms : Nat} {s : State} {m : MethodId} {args : Array Value} {below : List Frame} {meth : Method} {c : Code} {H : Heap} {locs : List Loc} {Qc : Array Value → State → Outcome → State → Prop} {E : En} {ad : Nat → Nat} {V : Mem} {ow : String} {b : ByteArray} {n : Nat} {ret : Option FieldType} {pc index : Nat} {ls : Array Slot} {rest : List Value} {a1 : Int32} {a2 : Int32} {k1 k : Nat} {r : Int32} {V1 Vz : Mem} (hS : SF E) (hC : Cx p s m args c meth E ow b n ret) (hY : Cy l c) (hI : In E ad V s H locs) (hsz : ls.size = n) (hf : f_X9_commonAncestor V a1 a2 = some (k1, r, V1)) (hl : Cond.methodLink ow index yX9_commonAncestor ∈ TB) (hR : 31 + 1 ≤ R.frames ∧ 8 + (3 + 11) + 40 * 31 ≤ R.locals) (hcs : cells + 2 ≤ R.cells ∧ slots + 12 ≤ R.slots) (hc : cells + 2 ≤ mc ∧ slots + 12 ≤ ms) (hw : (rest.map fun v => v.category).sum ≤ 8) (hdg : decode b pc = .ok (.invokevirtual index, 3)) (hx : k1 ≠ 0 → k1 = k ∧ V1 = Vz) (kk : k1 = 0 → ∀ (H1 : Heap) (locs1 : List Loc), In E ad V1 s H1 locs1 → W p l e R s m args below meth c H1 locs1 (cells + 2) (slots + 12) (vx_MQ below Qc (QX E ad k Vz) args s mc ms (ours E)) (F0 m (pc + 3) ls ((.int r) :: rest))) : W p l e R s m args below meth c H locs cells slots (vx_MQ below Qc (QX E ad k Vz) args s mc ms (ours E)) (F0 m pc ls (.int a2 :: .int a1 :: .ref (ad 248) :: rest)) :=
  after_callX hC hY hI (xrunV_tb (As := [.int a1, .int a2]) (rest := rest) hC hI hsz (m_X9_commonAncestor l hY.2 E ad V a1 a2 hS k1 r V1 hf) cv_X9_commonAncestor hl (by decide) (ce_248 _) rfl rfl rfl hR hcs hw hdg) hc hx kk

theorem dX9_commonAncestorBySets_0 : decode cX9_commonAncestorBySets 0 = .ok (.aload_n 0, 1) := by decide +kernel
theorem dX9_commonAncestorBySets_1 : decode cX9_commonAncestorBySets 1 = .ok (.iload_n 1, 1) := by decide +kernel
theorem dX9_commonAncestorBySets_2 : decode cX9_commonAncestorBySets 2 = .ok (.invokevirtual 140, 3) := by decide +kernel
theorem dX9_commonAncestorBySets_5 : decode cX9_commonAncestorBySets 5 = .ok (.aload_n 0, 1) := by decide +kernel
theorem dX9_commonAncestorBySets_6 : decode cX9_commonAncestorBySets 6 = .ok (.iload_n 2, 1) := by decide +kernel
theorem dX9_commonAncestorBySets_7 : decode cX9_commonAncestorBySets 7 = .ok (.invokevirtual 140, 3) := by decide +kernel
theorem dX9_commonAncestorBySets_10 : decode cX9_commonAncestorBySets 10 = .ok (.aload_n 0, 1) := by decide +kernel
theorem dX9_commonAncestorBySets_11 : decode cX9_commonAncestorBySets 11 = .ok (.getfield 10, 3) := by decide +kernel
theorem dX9_commonAncestorBySets_14 : decode cX9_commonAncestorBySets 14 = .ok (.getfield 131, 3) := by decide +kernel
theorem dX9_commonAncestorBySets_17 : decode cX9_commonAncestorBySets 17 = .ok (.iload_n 1, 1) := by decide +kernel
theorem dX9_commonAncestorBySets_18 : decode cX9_commonAncestorBySets 18 = .ok (.iload_n 2, 1) := by decide +kernel
theorem dX9_commonAncestorBySets_19 : decode cX9_commonAncestorBySets 19 = .ok (.invokevirtual 184, 3) := by decide +kernel
theorem dX9_commonAncestorBySets_22 : decode cX9_commonAncestorBySets 22 = .ok (.ireturn, 1) := by decide +kernel
def f_X9_commonAncestorBySets (V : Mem) (a1 : Int32) (a2 : Int32) : Option (Nat × Int32 × Mem) :=
  bw 0 (f_X9_requireRevision V a1) fun V2 =>
  bw 0 (f_X9_requireRevision V2 a2) fun V7 =>
  bd (f_X6_latestCommonBySets V7 a1 a2) fun r19 V19 =>
  some (0, r19, V19)
theorem cv_X9_commonAncestorBySets : CalV yX9_commonAncestorBySets cX9_commonAncestorBySets 3 (some .int) 2 := ⟨⟨⟨by decide +kernel, by decide +kernel⟩, tw_1_1, tw_4_213, by decide +kernel⟩, tw_4_211, tw_4_212⟩
set_option maxRecDepth 100000 in
set_option maxHeartbeats 4000000 in
theorem m_X9_commonAncestorBySets (l : Launch) (hT : l.stackTraces = false) (E : En) (ad : Nat → Nat) (V : Mem) (a1 : Int32) (a2 : Int32) (hS : SF E) (k : Nat) (r : Int32) (Vz : Mem) (hf : f_X9_commonAncestorBySets V a1 a2 = some (k, r, Vz)) : MX l E ad yX9_commonAncestorBySets cX9_commonAncestorBySets 3 (some .int) 7 2 12 [.ref (ad 248), .int a1, .int a2] V k (some (.int r)) Vz := by
  refine entX (E := E) (ad := ad) (V := V) "LetterRepository" hT (by decide +kernel) rfl (Nat.le_of_ble_eq_true rfl) ?_
  intro p e s m below meth c ls hC hY hI hl
  have hx := hC.1
  have hb := hC.2.1
  have hl : lv_has ls 3 [(0, .ref (ad 248)), (1, .int a1), (2, .int a2)] := hl
  unfold f_X9_commonAncestorBySets at hf
  refine lv_aload_n hx hb dX9_commonAncestorBySets_0 rfl (lv_at hl 0 rfl) ?_
  refine lv_iload_n hx hb dX9_commonAncestorBySets_1 rfl (lv_at hl 1 rfl) ?_
  obtain ⟨q2, V2, e2, hf⟩ := gbw hf
  refine kx_X9_requireRevision hS hC hY hI hl.1 e2 tw_4_127 ⟨Nat.le_of_ble_eq_true rfl, Nat.le_of_ble_eq_true rfl⟩ ⟨Nat.le_of_ble_eq_true rfl, Nat.le_of_ble_eq_true rfl⟩ ⟨Nat.le_of_ble_eq_true rfl, Nat.le_of_ble_eq_true rfl⟩ (Nat.le_of_ble_eq_true rfl) dX9_commonAncestorBySets_2 (fun h0 => hx3 ((if_neg h0).symm.trans hf)) (fun h0 H locs hI => ?_)
  have hf := (if_pos h0).symm.trans hf
  refine lv_aload_n hx hb dX9_commonAncestorBySets_5 rfl (lv_at hl 0 rfl) ?_
  refine lv_iload_n hx hb dX9_commonAncestorBySets_6 rfl (lv_at hl 2 rfl) ?_
  obtain ⟨q7, V7, e7, hf⟩ := gbw hf
  refine kx_X9_requireRevision hS hC hY hI hl.1 e7 tw_4_127 ⟨Nat.le_of_ble_eq_true rfl, Nat.le_of_ble_eq_true rfl⟩ ⟨Nat.le_of_ble_eq_true rfl, Nat.le_of_ble_eq_true rfl⟩ ⟨Nat.le_of_ble_eq_true rfl, Nat.le_of_ble_eq_true rfl⟩ (Nat.le_of_ble_eq_true rfl) dX9_commonAncestorBySets_7 (fun h0 => hx3 ((if_neg h0).symm.trans hf)) (fun h0 H locs hI => ?_)
  have hf := (if_pos h0).symm.trans hf
  refine lv_aload_n hx hb dX9_commonAncestorBySets_10 rfl (lv_at hl 0 rfl) ?_
  refine g_248_store hC hI tw_1_213 dX9_commonAncestorBySets_11 ?_
  refine gN_0_revisions hC hI tw_1_100 dX9_commonAncestorBySets_14 ?_
  refine lv_iload_n hx hb dX9_commonAncestorBySets_17 rfl (lv_at hl 1 rfl) ?_
  refine lv_iload_n hx hb dX9_commonAncestorBySets_18 rfl (lv_at hl 2 rfl) ?_
  obtain ⟨r19, V19, q19, hf⟩ := gbd hf
  refine k_X6_latestCommonBySets hC hI hl.1 q19 tw_4_214 ⟨Nat.le_of_ble_eq_true rfl, Nat.le_of_ble_eq_true rfl⟩ ⟨Nat.le_of_ble_eq_true rfl, Nat.le_of_ble_eq_true rfl⟩ (Nat.le_of_ble_eq_true rfl) dX9_commonAncestorBySets_19 (fun H locs hI => ?_)
  exact x_iret hC hI hf ⟨Nat.le_of_ble_eq_true rfl, Nat.le_of_ble_eq_true rfl⟩ dX9_commonAncestorBySets_22
theorem kx_X9_commonAncestorBySets {p : Program} {l : Launch} {e : Env} {R : Room} {cells slots mc ms : Nat} {s : State} {m : MethodId} {args : Array Value} {below : List Frame} {meth : Method} {c : Code} {H : Heap} {locs : List Loc} {Qc : Array Value → State → Outcome → State → Prop} {E : En} {ad : Nat → Nat} {V : Mem} {ow : String} {b : ByteArray} {n : Nat} {ret : Option FieldType} {pc index : Nat} {ls : Array Slot} {rest : List Value} {a1 : Int32} {a2 : Int32} {k1 k : Nat} {r : Int32} {V1 Vz : Mem} (hS : SF E) (hC : Cx p s m args c meth E ow b n ret) (hY : Cy l c) (hI : In E ad V s H locs) (hsz : ls.size = n) (hf : f_X9_commonAncestorBySets V a1 a2 = some (k1, r, V1)) (hl : Cond.methodLink ow index yX9_commonAncestorBySets ∈ TB) (hR : 7 + 1 ≤ R.frames ∧ 8 + (3 + 11) + 40 * 7 ≤ R.locals) (hcs : cells + 2 ≤ R.cells ∧ slots + 12 ≤ R.slots) (hc : cells + 2 ≤ mc ∧ slots + 12 ≤ ms) (hw : (rest.map fun v => v.category).sum ≤ 8) (hdg : decode b pc = .ok (.invokevirtual index, 3)) (hx : k1 ≠ 0 → k1 = k ∧ V1 = Vz) (kk : k1 = 0 → ∀ (H1 : Heap) (locs1 : List Loc), In E ad V1 s H1 locs1 → W p l e R s m args below meth c H1 locs1 (cells + 2) (slots + 12) (vx_MQ below Qc (QX E ad k Vz) args s mc ms (ours E)) (F0 m (pc + 3) ls ((.int r) :: rest))) : W p l e R s m args below meth c H locs cells slots (vx_MQ below Qc (QX E ad k Vz) args s mc ms (ours E)) (F0 m pc ls (.int a2 :: .int a1 :: .ref (ad 248) :: rest)) :=
  after_callX hC hY hI (xrunV_tb (As := [.int a1, .int a2]) (rest := rest) hC hI hsz (m_X9_commonAncestorBySets l hY.2 E ad V a1 a2 hS k1 r V1 hf) cv_X9_commonAncestorBySets hl (by decide) (ce_248 _) rfl rfl rfl hR hcs hw hdg) hc hx kk

theorem dX9_distance_0 : decode cX9_distance 0 = .ok (.aload_n 0, 1) := by decide +kernel
theorem dX9_distance_1 : decode cX9_distance 1 = .ok (.iload_n 1, 1) := by decide +kernel
theorem dX9_distance_2 : decode cX9_distance 2 = .ok (.invokevirtual 140, 3) := by decide +kernel
theorem dX9_distance_5 : decode cX9_distance 5 = .ok (.aload_n 0, 1) := by decide +kernel
theorem dX9_distance_6 : decode cX9_distance 6 = .ok (.iload_n 2, 1) := by decide +kernel
theorem dX9_distance_7 : decode cX9_distance 7 = .ok (.invokevirtual 140, 3) := by decide +kernel
theorem dX9_distance_10 : decode cX9_distance 10 = .ok (.aload_n 0, 1) := by decide +kernel
theorem dX9_distance_11 : decode cX9_distance 11 = .ok (.getfield 10, 3) := by decide +kernel
theorem dX9_distance_14 : decode cX9_distance 14 = .ok (.getfield 131, 3) := by decide +kernel
theorem dX9_distance_17 : decode cX9_distance 17 = .ok (.iload_n 1, 1) := by decide +kernel
theorem dX9_distance_18 : decode cX9_distance 18 = .ok (.iload_n 2, 1) := by decide +kernel
theorem dX9_distance_19 : decode cX9_distance 19 = .ok (.invokevirtual 187, 3) := by decide +kernel
theorem dX9_distance_22 : decode cX9_distance 22 = .ok (.ireturn, 1) := by decide +kernel
def f_X9_distance (V : Mem) (a1 : Int32) (a2 : Int32) : Option (Nat × Int32 × Mem) :=
  bw 0 (f_X9_requireRevision V a1) fun V2 =>
  bw 0 (f_X9_requireRevision V2 a2) fun V7 =>
  bd (f_X6_stepsBetween V7 a1 a2) fun r19 V19 =>
  some (0, r19, V19)
theorem cv_X9_distance : CalV yX9_distance cX9_distance 3 (some .int) 2 := ⟨⟨⟨by decide +kernel, by decide +kernel⟩, tw_1_1, tw_4_221, by decide +kernel⟩, tw_4_219, tw_4_220⟩
set_option maxRecDepth 100000 in
set_option maxHeartbeats 4000000 in
theorem m_X9_distance (l : Launch) (hT : l.stackTraces = false) (E : En) (ad : Nat → Nat) (V : Mem) (a1 : Int32) (a2 : Int32) (hS : SF E) (k : Nat) (r : Int32) (Vz : Mem) (hf : f_X9_distance V a1 a2 = some (k, r, Vz)) : MX l E ad yX9_distance cX9_distance 3 (some .int) 7 2 12 [.ref (ad 248), .int a1, .int a2] V k (some (.int r)) Vz := by
  refine entX (E := E) (ad := ad) (V := V) "LetterRepository" hT (by decide +kernel) rfl (Nat.le_of_ble_eq_true rfl) ?_
  intro p e s m below meth c ls hC hY hI hl
  have hx := hC.1
  have hb := hC.2.1
  have hl : lv_has ls 3 [(0, .ref (ad 248)), (1, .int a1), (2, .int a2)] := hl
  unfold f_X9_distance at hf
  refine lv_aload_n hx hb dX9_distance_0 rfl (lv_at hl 0 rfl) ?_
  refine lv_iload_n hx hb dX9_distance_1 rfl (lv_at hl 1 rfl) ?_
  obtain ⟨q2, V2, e2, hf⟩ := gbw hf
  refine kx_X9_requireRevision hS hC hY hI hl.1 e2 tw_4_127 ⟨Nat.le_of_ble_eq_true rfl, Nat.le_of_ble_eq_true rfl⟩ ⟨Nat.le_of_ble_eq_true rfl, Nat.le_of_ble_eq_true rfl⟩ ⟨Nat.le_of_ble_eq_true rfl, Nat.le_of_ble_eq_true rfl⟩ (Nat.le_of_ble_eq_true rfl) dX9_distance_2 (fun h0 => hx3 ((if_neg h0).symm.trans hf)) (fun h0 H locs hI => ?_)
  have hf := (if_pos h0).symm.trans hf
  refine lv_aload_n hx hb dX9_distance_5 rfl (lv_at hl 0 rfl) ?_
  refine lv_iload_n hx hb dX9_distance_6 rfl (lv_at hl 2 rfl) ?_
  obtain ⟨q7, V7, e7, hf⟩ := gbw hf
  refine kx_X9_requireRevision hS hC hY hI hl.1 e7 tw_4_127 ⟨Nat.le_of_ble_eq_true rfl, Nat.le_of_ble_eq_true rfl⟩ ⟨Nat.le_of_ble_eq_true rfl, Nat.le_of_ble_eq_true rfl⟩ ⟨Nat.le_of_ble_eq_true rfl, Nat.le_of_ble_eq_true rfl⟩ (Nat.le_of_ble_eq_true rfl) dX9_distance_7 (fun h0 => hx3 ((if_neg h0).symm.trans hf)) (fun h0 H locs hI => ?_)
  have hf := (if_pos h0).symm.trans hf
  refine lv_aload_n hx hb dX9_distance_10 rfl (lv_at hl 0 rfl) ?_
  refine g_248_store hC hI tw_1_213 dX9_distance_11 ?_
  refine gN_0_revisions hC hI tw_1_100 dX9_distance_14 ?_
  refine lv_iload_n hx hb dX9_distance_17 rfl (lv_at hl 1 rfl) ?_
  refine lv_iload_n hx hb dX9_distance_18 rfl (lv_at hl 2 rfl) ?_
  obtain ⟨r19, V19, q19, hf⟩ := gbd hf
  refine k_X6_stepsBetween hC hI hl.1 q19 tw_4_222 ⟨Nat.le_of_ble_eq_true rfl, Nat.le_of_ble_eq_true rfl⟩ ⟨Nat.le_of_ble_eq_true rfl, Nat.le_of_ble_eq_true rfl⟩ (Nat.le_of_ble_eq_true rfl) dX9_distance_19 (fun H locs hI => ?_)
  exact x_iret hC hI hf ⟨Nat.le_of_ble_eq_true rfl, Nat.le_of_ble_eq_true rfl⟩ dX9_distance_22
theorem kx_X9_distance {p : Program} {l : Launch} {e : Env} {R : Room} {cells slots mc ms : Nat} {s : State} {m : MethodId} {args : Array Value} {below : List Frame} {meth : Method} {c : Code} {H : Heap} {locs : List Loc} {Qc : Array Value → State → Outcome → State → Prop} {E : En} {ad : Nat → Nat} {V : Mem} {ow : String} {b : ByteArray} {n : Nat} {ret : Option FieldType} {pc index : Nat} {ls : Array Slot} {rest : List Value} {a1 : Int32} {a2 : Int32} {k1 k : Nat} {r : Int32} {V1 Vz : Mem} (hS : SF E) (hC : Cx p s m args c meth E ow b n ret) (hY : Cy l c) (hI : In E ad V s H locs) (hsz : ls.size = n) (hf : f_X9_distance V a1 a2 = some (k1, r, V1)) (hl : Cond.methodLink ow index yX9_distance ∈ TB) (hR : 7 + 1 ≤ R.frames ∧ 8 + (3 + 11) + 40 * 7 ≤ R.locals) (hcs : cells + 2 ≤ R.cells ∧ slots + 12 ≤ R.slots) (hc : cells + 2 ≤ mc ∧ slots + 12 ≤ ms) (hw : (rest.map fun v => v.category).sum ≤ 8) (hdg : decode b pc = .ok (.invokevirtual index, 3)) (hx : k1 ≠ 0 → k1 = k ∧ V1 = Vz) (kk : k1 = 0 → ∀ (H1 : Heap) (locs1 : List Loc), In E ad V1 s H1 locs1 → W p l e R s m args below meth c H1 locs1 (cells + 2) (slots + 12) (vx_MQ below Qc (QX E ad k Vz) args s mc ms (ours E)) (F0 m (pc + 3) ls ((.int r) :: rest))) : W p l e R s m args below meth c H locs cells slots (vx_MQ below Qc (QX E ad k Vz) args s mc ms (ours E)) (F0 m pc ls (.int a2 :: .int a1 :: .ref (ad 248) :: rest)) :=
  after_callX hC hY hI (xrunV_tb (As := [.int a1, .int a2]) (rest := rest) hC hI hsz (m_X9_distance l hY.2 E ad V a1 a2 hS k1 r V1 hf) cv_X9_distance hl (by decide) (ce_248 _) rfl rfl rfl hR hcs hw hdg) hc hx kk

theorem dX9_differences_0 : decode cX9_differences 0 = .ok (.aload_n 0, 1) := by decide +kernel
theorem dX9_differences_1 : decode cX9_differences 1 = .ok (.iload_n 1, 1) := by decide +kernel
theorem dX9_differences_2 : decode cX9_differences 2 = .ok (.invokevirtual 140, 3) := by decide +kernel
theorem dX9_differences_5 : decode cX9_differences 5 = .ok (.aload_n 0, 1) := by decide +kernel
theorem dX9_differences_6 : decode cX9_differences 6 = .ok (.iload_n 2, 1) := by decide +kernel
theorem dX9_differences_7 : decode cX9_differences 7 = .ok (.invokevirtual 140, 3) := by decide +kernel
theorem dX9_differences_10 : decode cX9_differences 10 = .ok (.aload_n 0, 1) := by decide +kernel
theorem dX9_differences_11 : decode cX9_differences 11 = .ok (.getfield 10, 3) := by decide +kernel
theorem dX9_differences_14 : decode cX9_differences 14 = .ok (.getfield 131, 3) := by decide +kernel
theorem dX9_differences_17 : decode cX9_differences 17 = .ok (.iload_n 1, 1) := by decide +kernel
theorem dX9_differences_18 : decode cX9_differences 18 = .ok (.iload_n 2, 1) := by decide +kernel
theorem dX9_differences_19 : decode cX9_differences 19 = .ok (.invokevirtual 190, 3) := by decide +kernel
theorem dX9_differences_22 : decode cX9_differences 22 = .ok (.ireturn, 1) := by decide +kernel
def f_X9_differences (V : Mem) (a1 : Int32) (a2 : Int32) : Option (Nat × Int32 × Mem) :=
  bw 0 (f_X9_requireRevision V a1) fun V2 =>
  bw 0 (f_X9_requireRevision V2 a2) fun V7 =>
  bd (f_X6_differingFields V7 a1 a2) fun r19 V19 =>
  some (0, r19, V19)
theorem cv_X9_differences : CalV yX9_differences cX9_differences 3 (some .int) 2 := ⟨⟨⟨by decide +kernel, by decide +kernel⟩, tw_1_1, tw_4_236, by decide +kernel⟩, tw_4_234, tw_4_235⟩
set_option maxRecDepth 100000 in
set_option maxHeartbeats 4000000 in
theorem m_X9_differences (l : Launch) (hT : l.stackTraces = false) (E : En) (ad : Nat → Nat) (V : Mem) (a1 : Int32) (a2 : Int32) (hS : SF E) (k : Nat) (r : Int32) (Vz : Mem) (hf : f_X9_differences V a1 a2 = some (k, r, Vz)) : MX l E ad yX9_differences cX9_differences 3 (some .int) 7 2 12 [.ref (ad 248), .int a1, .int a2] V k (some (.int r)) Vz := by
  refine entX (E := E) (ad := ad) (V := V) "LetterRepository" hT (by decide +kernel) rfl (Nat.le_of_ble_eq_true rfl) ?_
  intro p e s m below meth c ls hC hY hI hl
  have hx := hC.1
  have hb := hC.2.1
  have hl : lv_has ls 3 [(0, .ref (ad 248)), (1, .int a1), (2, .int a2)] := hl
  unfold f_X9_differences at hf
  refine lv_aload_n hx hb dX9_differences_0 rfl (lv_at hl 0 rfl) ?_
  refine lv_iload_n hx hb dX9_differences_1 rfl (lv_at hl 1 rfl) ?_
  obtain ⟨q2, V2, e2, hf⟩ := gbw hf
  refine kx_X9_requireRevision hS hC hY hI hl.1 e2 tw_4_127 ⟨Nat.le_of_ble_eq_true rfl, Nat.le_of_ble_eq_true rfl⟩ ⟨Nat.le_of_ble_eq_true rfl, Nat.le_of_ble_eq_true rfl⟩ ⟨Nat.le_of_ble_eq_true rfl, Nat.le_of_ble_eq_true rfl⟩ (Nat.le_of_ble_eq_true rfl) dX9_differences_2 (fun h0 => hx3 ((if_neg h0).symm.trans hf)) (fun h0 H locs hI => ?_)
  have hf := (if_pos h0).symm.trans hf
  refine lv_aload_n hx hb dX9_differences_5 rfl (lv_at hl 0 rfl) ?_
  refine lv_iload_n hx hb dX9_differences_6 rfl (lv_at hl 2 rfl) ?_
  obtain ⟨q7, V7, e7, hf⟩ := gbw hf
  refine kx_X9_requireRevision hS hC hY hI hl.1 e7 tw_4_127 ⟨Nat.le_of_ble_eq_true rfl, Nat.le_of_ble_eq_true rfl⟩ ⟨Nat.le_of_ble_eq_true rfl, Nat.le_of_ble_eq_true rfl⟩ ⟨Nat.le_of_ble_eq_true rfl, Nat.le_of_ble_eq_true rfl⟩ (Nat.le_of_ble_eq_true rfl) dX9_differences_7 (fun h0 => hx3 ((if_neg h0).symm.trans hf)) (fun h0 H locs hI => ?_)
  have hf := (if_pos h0).symm.trans hf
  refine lv_aload_n hx hb dX9_differences_10 rfl (lv_at hl 0 rfl) ?_
  refine g_248_store hC hI tw_1_213 dX9_differences_11 ?_
  refine gN_0_revisions hC hI tw_1_100 dX9_differences_14 ?_
  refine lv_iload_n hx hb dX9_differences_17 rfl (lv_at hl 1 rfl) ?_
  refine lv_iload_n hx hb dX9_differences_18 rfl (lv_at hl 2 rfl) ?_
  obtain ⟨r19, V19, q19, hf⟩ := gbd hf
  refine k_X6_differingFields hC hI hl.1 q19 tw_4_237 ⟨Nat.le_of_ble_eq_true rfl, Nat.le_of_ble_eq_true rfl⟩ ⟨Nat.le_of_ble_eq_true rfl, Nat.le_of_ble_eq_true rfl⟩ (Nat.le_of_ble_eq_true rfl) dX9_differences_19 (fun H locs hI => ?_)
  exact x_iret hC hI hf ⟨Nat.le_of_ble_eq_true rfl, Nat.le_of_ble_eq_true rfl⟩ dX9_differences_22
theorem kx_X9_differences {p : Program} {l : Launch} {e : Env} {R : Room} {cells slots mc ms : Nat} {s : State} {m : MethodId} {args : Array Value} {below : List Frame} {meth : Method} {c : Code} {H : Heap} {locs : List Loc} {Qc : Array Value → State → Outcome → State → Prop} {E : En} {ad : Nat → Nat} {V : Mem} {ow : String} {b : ByteArray} {n : Nat} {ret : Option FieldType} {pc index : Nat} {ls : Array Slot} {rest : List Value} {a1 : Int32} {a2 : Int32} {k1 k : Nat} {r : Int32} {V1 Vz : Mem} (hS : SF E) (hC : Cx p s m args c meth E ow b n ret) (hY : Cy l c) (hI : In E ad V s H locs) (hsz : ls.size = n) (hf : f_X9_differences V a1 a2 = some (k1, r, V1)) (hl : Cond.methodLink ow index yX9_differences ∈ TB) (hR : 7 + 1 ≤ R.frames ∧ 8 + (3 + 11) + 40 * 7 ≤ R.locals) (hcs : cells + 2 ≤ R.cells ∧ slots + 12 ≤ R.slots) (hc : cells + 2 ≤ mc ∧ slots + 12 ≤ ms) (hw : (rest.map fun v => v.category).sum ≤ 8) (hdg : decode b pc = .ok (.invokevirtual index, 3)) (hx : k1 ≠ 0 → k1 = k ∧ V1 = Vz) (kk : k1 = 0 → ∀ (H1 : Heap) (locs1 : List Loc), In E ad V1 s H1 locs1 → W p l e R s m args below meth c H1 locs1 (cells + 2) (slots + 12) (vx_MQ below Qc (QX E ad k Vz) args s mc ms (ours E)) (F0 m (pc + 3) ls ((.int r) :: rest))) : W p l e R s m args below meth c H locs cells slots (vx_MQ below Qc (QX E ad k Vz) args s mc ms (ours E)) (F0 m pc ls (.int a2 :: .int a1 :: .ref (ad 248) :: rest)) :=
  after_callX hC hY hI (xrunV_tb (As := [.int a1, .int a2]) (rest := rest) hC hI hsz (m_X9_differences l hY.2 E ad V a1 a2 hS k1 r V1 hf) cv_X9_differences hl (by decide) (ce_248 _) rfl rfl rfl hR hcs hw hdg) hc hx kk

theorem dX9_originOf_0 : decode cX9_originOf 0 = .ok (.aload_n 0, 1) := by decide +kernel
theorem dX9_originOf_1 : decode cX9_originOf 1 = .ok (.iload_n 1, 1) := by decide +kernel
theorem dX9_originOf_2 : decode cX9_originOf 2 = .ok (.invokevirtual 140, 3) := by decide +kernel
theorem dX9_originOf_5 : decode cX9_originOf 5 = .ok (.iload_n 2, 1) := by decide +kernel
theorem dX9_originOf_6 : decode cX9_originOf 6 = .ok (.invokestatic 163, 3) := by decide +kernel
theorem dX9_originOf_9 : decode cX9_originOf 9 = .ok (.aload_n 0, 1) := by decide +kernel
theorem dX9_originOf_10 : decode cX9_originOf 10 = .ok (.getfield 10, 3) := by decide +kernel
theorem dX9_originOf_13 : decode cX9_originOf 13 = .ok (.getfield 131, 3) := by decide +kernel
theorem dX9_originOf_16 : decode cX9_originOf 16 = .ok (.iload_n 1, 1) := by decide +kernel
theorem dX9_originOf_17 : decode cX9_originOf 17 = .ok (.iload_n 2, 1) := by decide +kernel
theorem dX9_originOf_18 : decode cX9_originOf 18 = .ok (.invokevirtual 193, 3) := by decide +kernel
theorem dX9_originOf_21 : decode cX9_originOf 21 = .ok (.ireturn, 1) := by decide +kernel
def f_X9_originOf (V : Mem) (a1 : Int32) (a2 : Int32) : Option (Nat × Int32 × Mem) :=
  bw 0 (f_X9_requireRevision V a1) fun V2 =>
  bw 0 (f_X9_requireField V2 a2) fun V6 =>
  bd (f_X6_sourceOf V6 a1 a2) fun r18 V18 =>
  some (0, r18, V18)
theorem cv_X9_originOf : CalV yX9_originOf cX9_originOf 3 (some .int) 2 := ⟨⟨⟨by decide +kernel, by decide +kernel⟩, tw_1_1, tw_5_7, by decide +kernel⟩, tw_5_5, tw_5_6⟩
set_option maxRecDepth 100000 in
set_option maxHeartbeats 4000000 in
theorem m_X9_originOf (l : Launch) (hT : l.stackTraces = false) (E : En) (ad : Nat → Nat) (V : Mem) (a1 : Int32) (a2 : Int32) (hS : SF E) (k : Nat) (r : Int32) (Vz : Mem) (hf : f_X9_originOf V a1 a2 = some (k, r, Vz)) : MX l E ad yX9_originOf cX9_originOf 3 (some .int) 7 2 12 [.ref (ad 248), .int a1, .int a2] V k (some (.int r)) Vz := by
  refine entX (E := E) (ad := ad) (V := V) "LetterRepository" hT (by decide +kernel) rfl (Nat.le_of_ble_eq_true rfl) ?_
  intro p e s m below meth c ls hC hY hI hl
  have hx := hC.1
  have hb := hC.2.1
  have hl : lv_has ls 3 [(0, .ref (ad 248)), (1, .int a1), (2, .int a2)] := hl
  unfold f_X9_originOf at hf
  refine lv_aload_n hx hb dX9_originOf_0 rfl (lv_at hl 0 rfl) ?_
  refine lv_iload_n hx hb dX9_originOf_1 rfl (lv_at hl 1 rfl) ?_
  obtain ⟨q2, V2, e2, hf⟩ := gbw hf
  refine kx_X9_requireRevision hS hC hY hI hl.1 e2 tw_4_127 ⟨Nat.le_of_ble_eq_true rfl, Nat.le_of_ble_eq_true rfl⟩ ⟨Nat.le_of_ble_eq_true rfl, Nat.le_of_ble_eq_true rfl⟩ ⟨Nat.le_of_ble_eq_true rfl, Nat.le_of_ble_eq_true rfl⟩ (Nat.le_of_ble_eq_true rfl) dX9_originOf_2 (fun h0 => hx3 ((if_neg h0).symm.trans hf)) (fun h0 H locs hI => ?_)
  have hf := (if_pos h0).symm.trans hf
  refine lv_iload_n hx hb dX9_originOf_5 rfl (lv_at hl 2 rfl) ?_
  obtain ⟨q6, V6, e6, hf⟩ := gbw hf
  refine kx_X9_requireField hS hC hY hI hl.1 e6 tw_4_177 ⟨Nat.le_of_ble_eq_true rfl, Nat.le_of_ble_eq_true rfl⟩ ⟨Nat.le_of_ble_eq_true rfl, Nat.le_of_ble_eq_true rfl⟩ ⟨Nat.le_of_ble_eq_true rfl, Nat.le_of_ble_eq_true rfl⟩ (Nat.le_of_ble_eq_true rfl) dX9_originOf_6 (fun h0 => hx3 ((if_neg h0).symm.trans hf)) (fun h0 H locs hI => ?_)
  have hf := (if_pos h0).symm.trans hf
  refine lv_aload_n hx hb dX9_originOf_9 rfl (lv_at hl 0 rfl) ?_
  refine g_248_store hC hI tw_1_213 dX9_originOf_10 ?_
  refine gN_0_revisions hC hI tw_1_100 dX9_originOf_13 ?_
  refine lv_iload_n hx hb dX9_originOf_16 rfl (lv_at hl 1 rfl) ?_
  refine lv_iload_n hx hb dX9_originOf_17 rfl (lv_at hl 2 rfl) ?_
  obtain ⟨r18, V18, q18, hf⟩ := gbd hf
  refine k_X6_sourceOf hC hI hl.1 q18 tw_5_8 ⟨Nat.le_of_ble_eq_true rfl, Nat.le_of_ble_eq_true rfl⟩ ⟨Nat.le_of_ble_eq_true rfl, Nat.le_of_ble_eq_true rfl⟩ (Nat.le_of_ble_eq_true rfl) dX9_originOf_18 (fun H locs hI => ?_)
  exact x_iret hC hI hf ⟨Nat.le_of_ble_eq_true rfl, Nat.le_of_ble_eq_true rfl⟩ dX9_originOf_21
theorem kx_X9_originOf {p : Program} {l : Launch} {e : Env} {R : Room} {cells slots mc ms : Nat} {s : State} {m : MethodId} {args : Array Value} {below : List Frame} {meth : Method} {c : Code} {H : Heap} {locs : List Loc} {Qc : Array Value → State → Outcome → State → Prop} {E : En} {ad : Nat → Nat} {V : Mem} {ow : String} {b : ByteArray} {n : Nat} {ret : Option FieldType} {pc index : Nat} {ls : Array Slot} {rest : List Value} {a1 : Int32} {a2 : Int32} {k1 k : Nat} {r : Int32} {V1 Vz : Mem} (hS : SF E) (hC : Cx p s m args c meth E ow b n ret) (hY : Cy l c) (hI : In E ad V s H locs) (hsz : ls.size = n) (hf : f_X9_originOf V a1 a2 = some (k1, r, V1)) (hl : Cond.methodLink ow index yX9_originOf ∈ TB) (hR : 7 + 1 ≤ R.frames ∧ 8 + (3 + 11) + 40 * 7 ≤ R.locals) (hcs : cells + 2 ≤ R.cells ∧ slots + 12 ≤ R.slots) (hc : cells + 2 ≤ mc ∧ slots + 12 ≤ ms) (hw : (rest.map fun v => v.category).sum ≤ 8) (hdg : decode b pc = .ok (.invokevirtual index, 3)) (hx : k1 ≠ 0 → k1 = k ∧ V1 = Vz) (kk : k1 = 0 → ∀ (H1 : Heap) (locs1 : List Loc), In E ad V1 s H1 locs1 → W p l e R s m args below meth c H1 locs1 (cells + 2) (slots + 12) (vx_MQ below Qc (QX E ad k Vz) args s mc ms (ours E)) (F0 m (pc + 3) ls ((.int r) :: rest))) : W p l e R s m args below meth c H locs cells slots (vx_MQ below Qc (QX E ad k Vz) args s mc ms (ours E)) (F0 m pc ls (.int a2 :: .int a1 :: .ref (ad 248) :: rest)) :=
  after_callX hC hY hI (xrunV_tb (As := [.int a1, .int a2]) (rest := rest) hC hI hsz (m_X9_originOf l hY.2 E ad V a1 a2 hS k1 r V1 hf) cv_X9_originOf hl (by decide) (ce_248 _) rfl rfl rfl hR hcs hw hdg) hc hx kk

theorem dX9_originByRecursion_0 : decode cX9_originByRecursion 0 = .ok (.aload_n 0, 1) := by decide +kernel
theorem dX9_originByRecursion_1 : decode cX9_originByRecursion 1 = .ok (.iload_n 1, 1) := by decide +kernel
theorem dX9_originByRecursion_2 : decode cX9_originByRecursion 2 = .ok (.invokevirtual 140, 3) := by decide +kernel
theorem dX9_originByRecursion_5 : decode cX9_originByRecursion 5 = .ok (.iload_n 2, 1) := by decide +kernel
theorem dX9_originByRecursion_6 : decode cX9_originByRecursion 6 = .ok (.invokestatic 163, 3) := by decide +kernel
theorem dX9_originByRecursion_9 : decode cX9_originByRecursion 9 = .ok (.aload_n 0, 1) := by decide +kernel
theorem dX9_originByRecursion_10 : decode cX9_originByRecursion 10 = .ok (.getfield 10, 3) := by decide +kernel
theorem dX9_originByRecursion_13 : decode cX9_originByRecursion 13 = .ok (.getfield 131, 3) := by decide +kernel
theorem dX9_originByRecursion_16 : decode cX9_originByRecursion 16 = .ok (.iload_n 1, 1) := by decide +kernel
theorem dX9_originByRecursion_17 : decode cX9_originByRecursion 17 = .ok (.iload_n 2, 1) := by decide +kernel
theorem dX9_originByRecursion_18 : decode cX9_originByRecursion 18 = .ok (.iconst 0, 1) := by decide +kernel
theorem dX9_originByRecursion_19 : decode cX9_originByRecursion 19 = .ok (.invokestatic 196, 3) := by decide +kernel
theorem dX9_originByRecursion_22 : decode cX9_originByRecursion 22 = .ok (.ireturn, 1) := by decide +kernel
def f_X9_originByRecursion (V : Mem) (a1 : Int32) (a2 : Int32) : Option (Nat × Int32 × Mem) :=
  bw 0 (f_X9_requireRevision V a1) fun V2 =>
  bw 0 (f_X9_requireField V2 a2) fun V6 =>
  bd (f_X6_sourceByRecursion V6 a1 a2 0) fun r19 V19 =>
  some (0, r19, V19)
theorem cv_X9_originByRecursion : CalV yX9_originByRecursion cX9_originByRecursion 3 (some .int) 2 := ⟨⟨⟨by decide +kernel, by decide +kernel⟩, tw_1_1, tw_5_15, by decide +kernel⟩, tw_5_13, tw_5_14⟩
set_option maxRecDepth 100000 in
set_option maxHeartbeats 4000000 in
theorem m_X9_originByRecursion (l : Launch) (hT : l.stackTraces = false) (E : En) (ad : Nat → Nat) (V : Mem) (a1 : Int32) (a2 : Int32) (hS : SF E) (k : Nat) (r : Int32) (Vz : Mem) (hf : f_X9_originByRecursion V a1 a2 = some (k, r, Vz)) : MX l E ad yX9_originByRecursion cX9_originByRecursion 3 (some .int) 31 2 12 [.ref (ad 248), .int a1, .int a2] V k (some (.int r)) Vz := by
  refine entX (E := E) (ad := ad) (V := V) "LetterRepository" hT (by decide +kernel) rfl (Nat.le_of_ble_eq_true rfl) ?_
  intro p e s m below meth c ls hC hY hI hl
  have hx := hC.1
  have hb := hC.2.1
  have hl : lv_has ls 3 [(0, .ref (ad 248)), (1, .int a1), (2, .int a2)] := hl
  unfold f_X9_originByRecursion at hf
  refine lv_aload_n hx hb dX9_originByRecursion_0 rfl (lv_at hl 0 rfl) ?_
  refine lv_iload_n hx hb dX9_originByRecursion_1 rfl (lv_at hl 1 rfl) ?_
  obtain ⟨q2, V2, e2, hf⟩ := gbw hf
  refine kx_X9_requireRevision hS hC hY hI hl.1 e2 tw_4_127 ⟨Nat.le_of_ble_eq_true rfl, Nat.le_of_ble_eq_true rfl⟩ ⟨Nat.le_of_ble_eq_true rfl, Nat.le_of_ble_eq_true rfl⟩ ⟨Nat.le_of_ble_eq_true rfl, Nat.le_of_ble_eq_true rfl⟩ (Nat.le_of_ble_eq_true rfl) dX9_originByRecursion_2 (fun h0 => hx3 ((if_neg h0).symm.trans hf)) (fun h0 H locs hI => ?_)
  have hf := (if_pos h0).symm.trans hf
  refine lv_iload_n hx hb dX9_originByRecursion_5 rfl (lv_at hl 2 rfl) ?_
  obtain ⟨q6, V6, e6, hf⟩ := gbw hf
  refine kx_X9_requireField hS hC hY hI hl.1 e6 tw_4_177 ⟨Nat.le_of_ble_eq_true rfl, Nat.le_of_ble_eq_true rfl⟩ ⟨Nat.le_of_ble_eq_true rfl, Nat.le_of_ble_eq_true rfl⟩ ⟨Nat.le_of_ble_eq_true rfl, Nat.le_of_ble_eq_true rfl⟩ (Nat.le_of_ble_eq_true rfl) dX9_originByRecursion_6 (fun h0 => hx3 ((if_neg h0).symm.trans hf)) (fun h0 H locs hI => ?_)
  have hf := (if_pos h0).symm.trans hf
  refine lv_aload_n hx hb dX9_originByRecursion_9 rfl (lv_at hl 0 rfl) ?_
  refine g_248_store hC hI tw_1_213 dX9_originByRecursion_10 ?_
  refine gN_0_revisions hC hI tw_1_100 dX9_originByRecursion_13 ?_
  refine lv_iload_n hx hb dX9_originByRecursion_16 rfl (lv_at hl 1 rfl) ?_
  refine lv_iload_n hx hb dX9_originByRecursion_17 rfl (lv_at hl 2 rfl) ?_
  refine lv_iconst (v := 0) hx hb dX9_originByRecursion_18 rfl ?_
  obtain ⟨r19, V19, q19, hf⟩ := gbd hf
  refine kN_X6_sourceByRecursion hC hI hl.1 q19 tw_5_16 ⟨Nat.le_of_ble_eq_true rfl, Nat.le_of_ble_eq_true rfl⟩ ⟨Nat.le_of_ble_eq_true rfl, Nat.le_of_ble_eq_true rfl⟩ (Nat.le_of_ble_eq_true rfl) dX9_originByRecursion_19 (fun H locs hI => ?_)
  exact x_iret hC hI hf ⟨Nat.le_of_ble_eq_true rfl, Nat.le_of_ble_eq_true rfl⟩ dX9_originByRecursion_22
theorem kx_X9_originByRecursion {p : Program} {l : Launch} {e : Env} {R : Room} {cells slots mc ms : Nat} {s : State} {m : MethodId} {args : Array Value} {below : List Frame} {meth : Method} {c : Code} {H : Heap} {locs : List Loc} {Qc : Array Value → State → Outcome → State → Prop} {E : En} {ad : Nat → Nat} {V : Mem} {ow : String} {b : ByteArray} {n : Nat} {ret : Option FieldType} {pc index : Nat} {ls : Array Slot} {rest : List Value} {a1 : Int32} {a2 : Int32} {k1 k : Nat} {r : Int32} {V1 Vz : Mem} (hS : SF E) (hC : Cx p s m args c meth E ow b n ret) (hY : Cy l c) (hI : In E ad V s H locs) (hsz : ls.size = n) (hf : f_X9_originByRecursion V a1 a2 = some (k1, r, V1)) (hl : Cond.methodLink ow index yX9_originByRecursion ∈ TB) (hR : 31 + 1 ≤ R.frames ∧ 8 + (3 + 11) + 40 * 31 ≤ R.locals) (hcs : cells + 2 ≤ R.cells ∧ slots + 12 ≤ R.slots) (hc : cells + 2 ≤ mc ∧ slots + 12 ≤ ms) (hw : (rest.map fun v => v.category).sum ≤ 8) (hdg : decode b pc = .ok (.invokevirtual index, 3)) (hx : k1 ≠ 0 → k1 = k ∧ V1 = Vz) (kk : k1 = 0 → ∀ (H1 : Heap) (locs1 : List Loc), In E ad V1 s H1 locs1 → W p l e R s m args below meth c H1 locs1 (cells + 2) (slots + 12) (vx_MQ below Qc (QX E ad k Vz) args s mc ms (ours E)) (F0 m (pc + 3) ls ((.int r) :: rest))) : W p l e R s m args below meth c H locs cells slots (vx_MQ below Qc (QX E ad k Vz) args s mc ms (ours E)) (F0 m pc ls (.int a2 :: .int a1 :: .ref (ad 248) :: rest)) :=
  after_callX hC hY hI (xrunV_tb (As := [.int a1, .int a2]) (rest := rest) hC hI hsz (m_X9_originByRecursion l hY.2 E ad V a1 a2 hS k1 r V1 hf) cv_X9_originByRecursion hl (by decide) (ce_248 _) rfl rfl rfl hR hcs hw hdg) hc hx kk

theorem dX9_revisionsBy_0 : decode cX9_revisionsBy 0 = .ok (.iload_n 1, 1) := by decide +kernel
theorem dX9_revisionsBy_1 : decode cX9_revisionsBy 1 = .ok (.invokestatic 200, 3) := by decide +kernel
theorem dX9_revisionsBy_4 : decode cX9_revisionsBy 4 = .ok (.ifCond .ne 13, 3) := by decide +kernel
theorem dX9_revisionsBy_7 : decode cX9_revisionsBy 7 = .ok (.new 203, 3) := by decide +kernel
theorem dX9_revisionsBy_10 : decode cX9_revisionsBy 10 = .ok (.dup, 1) := by decide +kernel
theorem dX9_revisionsBy_11 : decode cX9_revisionsBy 11 = .ok (.ldc 205, 2) := by decide +kernel
theorem dX9_revisionsBy_13 : decode cX9_revisionsBy 13 = .ok (.invokespecial 207, 3) := by decide +kernel
theorem dX9_revisionsBy_16 : decode cX9_revisionsBy 16 = .ok (.athrow, 1) := by decide +kernel
theorem dX9_revisionsBy_17 : decode cX9_revisionsBy 17 = .ok (.aload_n 0, 1) := by decide +kernel
theorem dX9_revisionsBy_18 : decode cX9_revisionsBy 18 = .ok (.getfield 10, 3) := by decide +kernel
theorem dX9_revisionsBy_21 : decode cX9_revisionsBy 21 = .ok (.getfield 131, 3) := by decide +kernel
theorem dX9_revisionsBy_24 : decode cX9_revisionsBy 24 = .ok (.iload_n 1, 1) := by decide +kernel
theorem dX9_revisionsBy_25 : decode cX9_revisionsBy 25 = .ok (.invokevirtual 210, 3) := by decide +kernel
theorem dX9_revisionsBy_28 : decode cX9_revisionsBy 28 = .ok (.ireturn, 1) := by decide +kernel
def f_X9_revisionsBy (V : Mem) (a1 : Int32) : Option (Nat × Int32 × Mem) :=
  bd (f_X9_isAuthor V a1) fun r1 V1 =>
  if r1 = 0 then
    some (2, 0, V1)
  else
    bd (f_X6_countBy V1 a1) fun r25 V25 =>
    some (0, r25, V25)
theorem cv_X9_revisionsBy : CalV yX9_revisionsBy cX9_revisionsBy 2 (some .int) 1 := ⟨⟨⟨by decide +kernel, by decide +kernel⟩, tw_1_1, tw_5_23, by decide +kernel⟩, tw_5_21, tw_5_22⟩
set_option maxRecDepth 100000 in
set_option maxHeartbeats 4000000 in
theorem m_X9_revisionsBy (l : Launch) (hT : l.stackTraces = false) (E : En) (ad : Nat → Nat) (V : Mem) (a1 : Int32) (hS : SF E) (k : Nat) (r : Int32) (Vz : Mem) (hf : f_X9_revisionsBy V a1 = some (k, r, Vz)) : MX l E ad yX9_revisionsBy cX9_revisionsBy 2 (some .int) 6 1 6 [.ref (ad 248), .int a1] V k (some (.int r)) Vz := by
  refine entX (E := E) (ad := ad) (V := V) "LetterRepository" hT (by decide +kernel) rfl (Nat.le_of_ble_eq_true rfl) ?_
  intro p e s m below meth c ls hC hY hI hl
  have hx := hC.1
  have hb := hC.2.1
  have hl : lv_has ls 2 [(0, .ref (ad 248)), (1, .int a1)] := hl
  unfold f_X9_revisionsBy at hf
  refine lv_iload_n hx hb dX9_revisionsBy_0 rfl (lv_at hl 1 rfl) ?_
  obtain ⟨r1, V1, q1, hf⟩ := gbd hf
  refine k_X9_isAuthor hC hI hl.1 q1 tw_5_24 ⟨Nat.le_of_ble_eq_true rfl, Nat.le_of_ble_eq_true rfl⟩ ⟨Nat.le_of_ble_eq_true rfl, Nat.le_of_ble_eq_true rfl⟩ (Nat.le_of_ble_eq_true rfl) dX9_revisionsBy_1 (fun H locs hI => ?_)
  refine lv_if_ne (tgt := 17) hx hb dX9_revisionsBy_4 (by decide) (fun c4 => ?_) (fun c4 => ?_)
  · have hf := gf hf c4
    refine lv_aload_n hx hb dX9_revisionsBy_17 rfl (lv_at hl 0 rfl) ?_
    refine g_248_store hC hI tw_1_213 dX9_revisionsBy_18 ?_
    refine gN_0_revisions hC hI tw_1_100 dX9_revisionsBy_21 ?_
    refine lv_iload_n hx hb dX9_revisionsBy_24 rfl (lv_at hl 1 rfl) ?_
    obtain ⟨r25, V25, q25, hf⟩ := gbd hf
    refine k_X6_countBy hC hI hl.1 q25 tw_2_98 ⟨Nat.le_of_ble_eq_true rfl, Nat.le_of_ble_eq_true rfl⟩ ⟨Nat.le_of_ble_eq_true rfl, Nat.le_of_ble_eq_true rfl⟩ (Nat.le_of_ble_eq_true rfl) dX9_revisionsBy_25 (fun H locs hI => ?_)
    exact x_iret hC hI hf ⟨Nat.le_of_ble_eq_true rfl, Nat.le_of_ble_eq_true rfl⟩ dX9_revisionsBy_28
  · have hf := gt hf c4
    exact x_thr2 hS hC hY hI hl.1 (List.Mem.head _) (hx3 hf) ⟨Nat.le_of_ble_eq_true rfl, Nat.le_of_ble_eq_true rfl, Nat.le_of_ble_eq_true rfl, Nat.le_of_ble_eq_true rfl⟩ ⟨Nat.le_of_ble_eq_true rfl, Nat.le_of_ble_eq_true rfl⟩ dX9_revisionsBy_7 dX9_revisionsBy_10 dX9_revisionsBy_11 dX9_revisionsBy_13 dX9_revisionsBy_16
theorem kx_X9_revisionsBy {p : Program} {l : Launch} {e : Env} {R : Room} {cells slots mc ms : Nat} {s : State} {m : MethodId} {args : Array Value} {below : List Frame} {meth : Method} {c : Code} {H : Heap} {locs : List Loc} {Qc : Array Value → State → Outcome → State → Prop} {E : En} {ad : Nat → Nat} {V : Mem} {ow : String} {b : ByteArray} {n : Nat} {ret : Option FieldType} {pc index : Nat} {ls : Array Slot} {rest : List Value} {a1 : Int32} {k1 k : Nat} {r : Int32} {V1 Vz : Mem} (hS : SF E) (hC : Cx p s m args c meth E ow b n ret) (hY : Cy l c) (hI : In E ad V s H locs) (hsz : ls.size = n) (hf : f_X9_revisionsBy V a1 = some (k1, r, V1)) (hl : Cond.methodLink ow index yX9_revisionsBy ∈ TB) (hR : 6 + 1 ≤ R.frames ∧ 8 + (2 + 11) + 40 * 6 ≤ R.locals) (hcs : cells + 1 ≤ R.cells ∧ slots + 6 ≤ R.slots) (hc : cells + 1 ≤ mc ∧ slots + 6 ≤ ms) (hw : (rest.map fun v => v.category).sum ≤ 8) (hdg : decode b pc = .ok (.invokevirtual index, 3)) (hx : k1 ≠ 0 → k1 = k ∧ V1 = Vz) (kk : k1 = 0 → ∀ (H1 : Heap) (locs1 : List Loc), In E ad V1 s H1 locs1 → W p l e R s m args below meth c H1 locs1 (cells + 1) (slots + 6) (vx_MQ below Qc (QX E ad k Vz) args s mc ms (ours E)) (F0 m (pc + 3) ls ((.int r) :: rest))) : W p l e R s m args below meth c H locs cells slots (vx_MQ below Qc (QX E ad k Vz) args s mc ms (ours E)) (F0 m pc ls (.int a1 :: .ref (ad 248) :: rest)) :=
  after_callX hC hY hI (xrunV_tb (As := [.int a1]) (rest := rest) hC hI hsz (m_X9_revisionsBy l hY.2 E ad V a1 hS k1 r V1 hf) cv_X9_revisionsBy hl (by decide) (ce_248 _) rfl rfl rfl hR hcs hw hdg) hc hx kk

theorem dX9_busiestAuthor_0 : decode cX9_busiestAuthor 0 = .ok (.iconst 0, 1) := by decide +kernel
theorem dX9_busiestAuthor_1 : decode cX9_busiestAuthor 1 = .ok (.istore_n 1, 1) := by decide +kernel
theorem dX9_busiestAuthor_2 : decode cX9_busiestAuthor 2 = .ok (.iconst 1, 1) := by decide +kernel
theorem dX9_busiestAuthor_3 : decode cX9_busiestAuthor 3 = .ok (.istore_n 2, 1) := by decide +kernel
theorem dX9_busiestAuthor_4 : decode cX9_busiestAuthor 4 = .ok (.iload_n 2, 1) := by decide +kernel
theorem dX9_busiestAuthor_5 : decode cX9_busiestAuthor 5 = .ok (.bipush 10, 2) := by decide +kernel
theorem dX9_busiestAuthor_7 : decode cX9_busiestAuthor 7 = .ok (.if_icmp .ge 36, 3) := by decide +kernel
theorem dX9_busiestAuthor_10 : decode cX9_busiestAuthor 10 = .ok (.aload_n 0, 1) := by decide +kernel
theorem dX9_busiestAuthor_11 : decode cX9_busiestAuthor 11 = .ok (.getfield 10, 3) := by decide +kernel
theorem dX9_busiestAuthor_14 : decode cX9_busiestAuthor 14 = .ok (.getfield 131, 3) := by decide +kernel
theorem dX9_busiestAuthor_17 : decode cX9_busiestAuthor 17 = .ok (.iload_n 2, 1) := by decide +kernel
theorem dX9_busiestAuthor_18 : decode cX9_busiestAuthor 18 = .ok (.invokevirtual 210, 3) := by decide +kernel
theorem dX9_busiestAuthor_21 : decode cX9_busiestAuthor 21 = .ok (.aload_n 0, 1) := by decide +kernel
theorem dX9_busiestAuthor_22 : decode cX9_busiestAuthor 22 = .ok (.getfield 10, 3) := by decide +kernel
theorem dX9_busiestAuthor_25 : decode cX9_busiestAuthor 25 = .ok (.getfield 131, 3) := by decide +kernel
theorem dX9_busiestAuthor_28 : decode cX9_busiestAuthor 28 = .ok (.iload_n 1, 1) := by decide +kernel
theorem dX9_busiestAuthor_29 : decode cX9_busiestAuthor 29 = .ok (.invokevirtual 210, 3) := by decide +kernel
theorem dX9_busiestAuthor_32 : decode cX9_busiestAuthor 32 = .ok (.if_icmp .le 5, 3) := by decide +kernel
theorem dX9_busiestAuthor_35 : decode cX9_busiestAuthor 35 = .ok (.iload_n 2, 1) := by decide +kernel
theorem dX9_busiestAuthor_36 : decode cX9_busiestAuthor 36 = .ok (.istore_n 1, 1) := by decide +kernel
theorem dX9_busiestAuthor_37 : decode cX9_busiestAuthor 37 = .ok (.iinc 2 1, 3) := by decide +kernel
theorem dX9_busiestAuthor_40 : decode cX9_busiestAuthor 40 = .ok (.goto (-36), 3) := by decide +kernel
theorem dX9_busiestAuthor_43 : decode cX9_busiestAuthor 43 = .ok (.iload_n 1, 1) := by decide +kernel
theorem dX9_busiestAuthor_44 : decode cX9_busiestAuthor 44 = .ok (.ireturn, 1) := by decide +kernel
def f_X9_busiestAuthor_L4 : Nat → Mem → Int32 → Int32 → Option (Int32 × Mem)
  | 0, _, _, _ => none
  | n4 + 1, V4, x1_4, x2_4 =>
    if 10 ≤ x2_4 then
      some (x1_4, V4)
    else
      bd (f_X6_countBy V4 x2_4) fun r18 V18 =>
      bd (f_X6_countBy V18 x1_4) fun r29 V29 =>
      jn (α := Mem → Int32 → Option (Int32 × Mem)) (fun j37 =>
        if r18 ≤ r29 then
          j37 V29 x1_4
        else
          j37 V29 x2_4
      ) (fun (V37 : Mem) (x1_37 : Int32) =>
        (f_X9_busiestAuthor_L4 n4) V37 x1_37 (x2_4 + 1)
      )
def f_X9_busiestAuthor (V : Mem) : Option (Int32 × Mem) :=
  f_X9_busiestAuthor_L4 FU V 0 1
theorem cv_X9_busiestAuthor : CalV yX9_busiestAuthor cX9_busiestAuthor 3 (some .int) 0 := ⟨⟨⟨by decide +kernel, by decide +kernel⟩, tw_1_1, tw_2_97, by decide +kernel⟩, tw_2_95, tw_2_96⟩
set_option maxRecDepth 100000 in
set_option maxHeartbeats 4000000 in
theorem m_X9_busiestAuthor (l : Launch) (E : En) (ad : Nat → Nat) (V : Mem) (r : Int32) (Vz : Mem) (hf : f_X9_busiestAuthor V = some (r, Vz)) : MR l E ad yX9_busiestAuthor cX9_busiestAuthor 3 (some .int) 4 [.ref (ad 248)] V (some (.int r)) Vz := by
  refine ent (E := E) (ad := ad) (V := V) "LetterRepository" (by decide +kernel) rfl (Nat.le_of_ble_eq_true rfl) ?_
  intro p e s m below meth c ls hC hI hl
  have hx := hC.1
  have hb := hC.2.1
  have hl : lv_has ls 3 [(0, .ref (ad 248))] := hl
  unfold f_X9_busiestAuthor at hf
  refine lv_iconst (v := 0) hx hb dX9_busiestAuthor_0 rfl ?_
  refine lv_istore_n (lv' := [(1, .int 0), (0, .ref (ad 248))]) hx hb dX9_busiestAuthor_1 rfl hl (Nat.lt_of_lt_of_eq (by decide) rfl) rfl (fun ls hl => ?_)
  refine lv_iconst (v := 1) hx hb dX9_busiestAuthor_2 rfl ?_
  refine lv_istore_n (lv' := [(2, .int 1), (1, .int 0), (0, .ref (ad 248))]) hx hb dX9_busiestAuthor_3 rfl hl (Nat.lt_of_lt_of_eq (by decide) rfl) rfl (fun ls hl => ?_)
  have L4 : ∀ (n4 : Nat) (V4 : Mem) (x1_4 : Int32) (x2_4 : Int32) (H : Heap) (locs : List Loc) (ls : Array Slot), f_X9_busiestAuthor_L4 n4 V4 x1_4 x2_4 = some (r, Vz) → In E ad V4 s H locs → lv_has ls 3 [(0, .ref (ad 248)), (1, .int x1_4), (2, .int x2_4)] → W p l e (rmd 4) s m ([.ref (ad 248)] : List Value).toArray below meth c H locs 0 0 (MQ below (QR E ad (some (.int r)) Vz) ([.ref (ad 248)] : List Value).toArray s 0 0 (ours E)) (F0 m 4 ls []) := by
    intro n4
    induction n4 with
    | zero => intro V4 x1_4 x2_4 H locs ls hf hI hl; cases hf
    | succ n4 ih4 =>
      intro V4 x1_4 x2_4 H locs ls hf hI hl
      rw [f_X9_busiestAuthor_L4.eq_2] at hf
      refine lv_iload_n hx hb dX9_busiestAuthor_4 rfl (lv_at hl 2 rfl) ?_
      refine lv_bipush (v := 10) hx hb dX9_busiestAuthor_5 rfl ?_
      refine lv_icmp_ge (tgt := 43) hx hb dX9_busiestAuthor_7 (by decide) (fun c7 => ?_) (fun c7 => ?_)
      · have hf := gt hf c7
        refine lv_iload_n hx hb dX9_busiestAuthor_43 rfl (lv_at hl 1 rfl) ?_
        exact r_iret2 hC hI hf dX9_busiestAuthor_44
      · have hf := gf hf c7
        refine lv_aload_n hx hb dX9_busiestAuthor_10 rfl (lv_at hl 0 rfl) ?_
        refine g_248_store hC hI tw_1_213 dX9_busiestAuthor_11 ?_
        refine gN_0_revisions hC hI tw_1_100 dX9_busiestAuthor_14 ?_
        refine lv_iload_n hx hb dX9_busiestAuthor_17 rfl (lv_at hl 2 rfl) ?_
        obtain ⟨r18, V18, q18, hf⟩ := gbd hf
        refine k_X6_countBy hC hI hl.1 q18 tw_2_98 ⟨Nat.le_of_ble_eq_true rfl, Nat.le_of_ble_eq_true rfl⟩ ⟨Nat.le_refl _, Nat.le_refl _⟩ (Nat.le_of_ble_eq_true rfl) dX9_busiestAuthor_18 (fun H locs hI => ?_)
        refine lv_aload_n hx hb dX9_busiestAuthor_21 rfl (lv_at hl 0 rfl) ?_
        refine g_248_store hC hI tw_1_213 dX9_busiestAuthor_22 ?_
        refine gN_0_revisions hC hI tw_1_100 dX9_busiestAuthor_25 ?_
        refine lv_iload_n hx hb dX9_busiestAuthor_28 rfl (lv_at hl 1 rfl) ?_
        obtain ⟨r29, V29, q29, hf⟩ := gbd hf
        refine k_X6_countBy hC hI hl.1 q29 tw_2_98 ⟨Nat.le_of_ble_eq_true rfl, Nat.le_of_ble_eq_true rfl⟩ ⟨Nat.le_refl _, Nat.le_refl _⟩ (Nat.le_of_ble_eq_true rfl) dX9_busiestAuthor_29 (fun H locs hI => ?_)
        obtain ⟨j37, hj37, hf⟩ := gj hf
        have J37 : ∀ (V37 : Mem) (x1_37 : Int32) (H : Heap) (locs : List Loc) (ls : Array Slot), j37 V37 x1_37 = some (r, Vz) → In E ad V37 s H locs → lv_has ls 3 [(0, .ref (ad 248)), (1, .int x1_37), (2, .int x2_4)] → W p l e (rmd 4) s m ([.ref (ad 248)] : List Value).toArray below meth c H locs 0 0 (MQ below (QR E ad (some (.int r)) Vz) ([.ref (ad 248)] : List Value).toArray s 0 0 (ours E)) (F0 m 37 ls []) := by
          intro V37 x1_37 H locs ls hf hI hl
          rw [hj37] at hf
          dsimp only at hf
          refine lv_iinc (v := (x2_4 + 1)) (lv' := [(2, .int (x2_4 + 1)), (0, .ref (ad 248)), (1, .int x1_37)]) hx hb dX9_busiestAuthor_37 hl (k := 2) rfl rfl (Nat.lt_of_lt_of_eq (by decide) rfl) rfl (fun ls hl => ?_)
          refine lv_goto (tgt := 4) hx hb dX9_busiestAuthor_40 (by decide) ?_
          exact ih4 _ _ _ _ _ _ hf hI (lv_sub hl [1, 2, 0] rfl)
        refine lv_icmp_le (tgt := 37) hx hb dX9_busiestAuthor_32 (by decide) (fun c32 => ?_) (fun c32 => ?_)
        · have hf := gt hf c32
          exact J37 _ _ _ _ _ hf hI (lv_sub hl [0, 1, 2] rfl)
        · have hf := gf hf c32
          refine lv_iload_n hx hb dX9_busiestAuthor_35 rfl (lv_at hl 2 rfl) ?_
          refine lv_istore_n (lv' := [(1, .int x2_4), (0, .ref (ad 248)), (2, .int x2_4)]) hx hb dX9_busiestAuthor_36 rfl hl (Nat.lt_of_lt_of_eq (by decide) rfl) rfl (fun ls hl => ?_)
          exact J37 _ _ _ _ _ hf hI (lv_sub hl [1, 0, 2] rfl)
  exact L4 _ _ _ _ _ _ _ hf hI (lv_sub hl [2, 1, 0] rfl)
theorem k_X9_busiestAuthor {p : Program} {l : Launch} {e : Env} {R : Room} {cells slots : Nat} {s : State} {m : MethodId} {args : Array Value} {below : List Frame} {meth : Method} {c : Code} {H : Heap} {locs : List Loc} {Q : State → Prop} {E : En} {ad : Nat → Nat} {V : Mem} {ow : String} {b : ByteArray} {n : Nat} {ret : Option FieldType} {pc index : Nat} {ls : Array Slot} {rest : List Value} {r : Int32} {V1 : Mem} (hC : Cx p s m args c meth E ow b n ret) (hI : In E ad V s H locs) (hsz : ls.size = n) (hf : f_X9_busiestAuthor V = some (r, V1)) (hl : Cond.methodLink ow index yX9_busiestAuthor ∈ TB) (hR : 4 + 1 ≤ R.frames ∧ 8 + (3 + 11) + 40 * 4 ≤ R.locals) (hcs : cells ≤ R.cells ∧ slots ≤ R.slots) (hw : (rest.map fun v => v.category).sum ≤ 8) (hdg : decode b pc = .ok (.invokevirtual index, 3)) (kk : ∀ (H1 : Heap) (locs1 : List Loc), In E ad V1 s H1 locs1 → W p l e R s m args below meth c H1 locs1 cells slots Q (F0 m (pc + 3) ls ((.int r) :: rest))) : W p l e R s m args below meth c H locs cells slots Q (F0 m pc ls (.ref (ad 248) :: rest)) :=
  r_calV (As := []) (rest := rest) hC hI hsz (m_X9_busiestAuthor l E ad V r _ hf) cv_X9_busiestAuthor hl (by decide) (ce_248 _) rfl rfl rfl hR hcs hw hdg kk

theorem dX9_branchCount_0 : decode cX9_branchCount 0 = .ok (.aload_n 0, 1) := by decide +kernel
theorem dX9_branchCount_1 : decode cX9_branchCount 1 = .ok (.getfield 10, 3) := by decide +kernel
theorem dX9_branchCount_4 : decode cX9_branchCount 4 = .ok (.getfield 213, 3) := by decide +kernel
theorem dX9_branchCount_7 : decode cX9_branchCount 7 = .ok (.ireturn, 1) := by decide +kernel
def f_X9_branchCount (V : Mem) : Option (Int32 × Mem) :=
  some ((V 0 0), V)
theorem cv_X9_branchCount : CalV yX9_branchCount cX9_branchCount 1 (some .int) 0 := ⟨⟨⟨by decide +kernel, by decide +kernel⟩, tw_1_1, tw_2_109, by decide +kernel⟩, tw_2_107, tw_2_108⟩
set_option maxRecDepth 100000 in
set_option maxHeartbeats 4000000 in
theorem m_X9_branchCount (l : Launch) (E : En) (ad : Nat → Nat) (V : Mem) (r : Int32) (Vz : Mem) (hf : f_X9_branchCount V = some (r, Vz)) : MR l E ad yX9_branchCount cX9_branchCount 1 (some .int) 1 [.ref (ad 248)] V (some (.int r)) Vz := by
  refine ent (E := E) (ad := ad) (V := V) "LetterRepository" (by decide +kernel) rfl (Nat.le_of_ble_eq_true rfl) ?_
  intro p e s m below meth c ls hC hI hl
  have hx := hC.1
  have hb := hC.2.1
  have hl : lv_has ls 1 [(0, .ref (ad 248))] := hl
  unfold f_X9_branchCount at hf
  refine lv_aload_n hx hb dX9_branchCount_0 rfl (lv_at hl 0 rfl) ?_
  refine g_248_store hC hI tw_1_213 dX9_branchCount_1 ?_
  refine gN_0_branchCount hC hI tw_1_105 dX9_branchCount_4 ?_
  exact r_iret2 hC hI hf dX9_branchCount_7
theorem k_X9_branchCount {p : Program} {l : Launch} {e : Env} {R : Room} {cells slots : Nat} {s : State} {m : MethodId} {args : Array Value} {below : List Frame} {meth : Method} {c : Code} {H : Heap} {locs : List Loc} {Q : State → Prop} {E : En} {ad : Nat → Nat} {V : Mem} {ow : String} {b : ByteArray} {n : Nat} {ret : Option FieldType} {pc index : Nat} {ls : Array Slot} {rest : List Value} {r : Int32} {V1 : Mem} (hC : Cx p s m args c meth E ow b n ret) (hI : In E ad V s H locs) (hsz : ls.size = n) (hf : f_X9_branchCount V = some (r, V1)) (hl : Cond.methodLink ow index yX9_branchCount ∈ TB) (hR : 1 + 1 ≤ R.frames ∧ 8 + (1 + 11) + 40 * 1 ≤ R.locals) (hcs : cells ≤ R.cells ∧ slots ≤ R.slots) (hw : (rest.map fun v => v.category).sum ≤ 8) (hdg : decode b pc = .ok (.invokevirtual index, 3)) (kk : ∀ (H1 : Heap) (locs1 : List Loc), In E ad V1 s H1 locs1 → W p l e R s m args below meth c H1 locs1 cells slots Q (F0 m (pc + 3) ls ((.int r) :: rest))) : W p l e R s m args below meth c H locs cells slots Q (F0 m pc ls (.ref (ad 248) :: rest)) :=
  r_calV (As := []) (rest := rest) hC hI hsz (m_X9_branchCount l E ad V r _ hf) cv_X9_branchCount hl (by decide) (ce_248 _) rfl rfl rfl hR hcs hw hdg kk

theorem dX9_requireBranch_0 : decode cX9_requireBranch 0 = .ok (.aload_n 0, 1) := by decide +kernel
theorem dX9_requireBranch_1 : decode cX9_requireBranch 1 = .ok (.getfield 10, 3) := by decide +kernel
theorem dX9_requireBranch_4 : decode cX9_requireBranch 4 = .ok (.iload_n 1, 1) := by decide +kernel
theorem dX9_requireBranch_5 : decode cX9_requireBranch 5 = .ok (.invokevirtual 407, 3) := by decide +kernel
theorem dX9_requireBranch_8 : decode cX9_requireBranch 8 = .ok (.ifCond .ne 14, 3) := by decide +kernel
theorem dX9_requireBranch_11 : decode cX9_requireBranch 11 = .ok (.new 319, 3) := by decide +kernel
theorem dX9_requireBranch_14 : decode cX9_requireBranch 14 = .ok (.dup, 1) := by decide +kernel
theorem dX9_requireBranch_15 : decode cX9_requireBranch 15 = .ok (.ldc_w 410, 3) := by decide +kernel
theorem dX9_requireBranch_18 : decode cX9_requireBranch 18 = .ok (.invokespecial 323, 3) := by decide +kernel
theorem dX9_requireBranch_21 : decode cX9_requireBranch 21 = .ok (.athrow, 1) := by decide +kernel
theorem dX9_requireBranch_22 : decode cX9_requireBranch 22 = .ok (.return_, 1) := by decide +kernel
def f_X9_requireBranch (V : Mem) (a1 : Int32) : Option (Nat × Mem) :=
  bd (f_X8_hasBranch V a1) fun r5 V5 =>
  if r5 = 0 then
    some (1, V5)
  else
    some (0, V5)
theorem cv_X9_requireBranch : CalV yX9_requireBranch cX9_requireBranch 2 none 1 := ⟨⟨⟨by decide +kernel, by decide +kernel⟩, tw_1_1, tw_5_36, by decide +kernel⟩, tw_5_35, tp_10⟩
set_option maxRecDepth 100000 in
set_option maxHeartbeats 4000000 in
theorem m_X9_requireBranch (l : Launch) (hT : l.stackTraces = false) (E : En) (ad : Nat → Nat) (V : Mem) (a1 : Int32) (hS : SF E) (k : Nat) (Vz : Mem) (hf : f_X9_requireBranch V a1 = some (k, Vz)) : MX l E ad yX9_requireBranch cX9_requireBranch 2 none 6 1 6 [.ref (ad 248), .int a1] V k none Vz := by
  refine entX (E := E) (ad := ad) (V := V) "LetterRepository" hT (by decide +kernel) rfl (Nat.le_of_ble_eq_true rfl) ?_
  intro p e s m below meth c ls hC hY hI hl
  have hx := hC.1
  have hb := hC.2.1
  have hl : lv_has ls 2 [(0, .ref (ad 248)), (1, .int a1)] := hl
  unfold f_X9_requireBranch at hf
  refine lv_aload_n hx hb dX9_requireBranch_0 rfl (lv_at hl 0 rfl) ?_
  refine g_248_store hC hI tw_1_213 dX9_requireBranch_1 ?_
  refine lv_iload_n hx hb dX9_requireBranch_4 rfl (lv_at hl 1 rfl) ?_
  obtain ⟨r5, V5, q5, hf⟩ := gbd hf
  refine k_X8_hasBranch hC hI hl.1 q5 tw_5_37 ⟨Nat.le_of_ble_eq_true rfl, Nat.le_of_ble_eq_true rfl⟩ ⟨Nat.le_of_ble_eq_true rfl, Nat.le_of_ble_eq_true rfl⟩ (Nat.le_of_ble_eq_true rfl) dX9_requireBranch_5 (fun H locs hI => ?_)
  refine lv_if_ne (tgt := 22) hx hb dX9_requireBranch_8 (by decide) (fun c8 => ?_) (fun c8 => ?_)
  · have hf := gf hf c8
    exact x_vret hC hI hf ⟨Nat.le_of_ble_eq_true rfl, Nat.le_of_ble_eq_true rfl⟩ dX9_requireBranch_22
  · have hf := gt hf c8
    exact x_thr1w hS hC hY hI hl.1 (List.Mem.tail _ (List.Mem.tail _ (List.Mem.tail _ (List.Mem.tail _ (List.Mem.tail _ (List.Mem.tail _ (List.Mem.tail _ (List.Mem.tail _ (List.Mem.tail _ (List.Mem.tail _ (List.Mem.tail _ (List.Mem.tail _ (List.Mem.tail _ (List.Mem.head _)))))))))))))) (hx2 hf) ⟨Nat.le_of_ble_eq_true rfl, Nat.le_of_ble_eq_true rfl, Nat.le_of_ble_eq_true rfl, Nat.le_of_ble_eq_true rfl⟩ ⟨Nat.le_of_ble_eq_true rfl, Nat.le_of_ble_eq_true rfl⟩ dX9_requireBranch_11 dX9_requireBranch_14 dX9_requireBranch_15 dX9_requireBranch_18 dX9_requireBranch_21
theorem kx_X9_requireBranch {p : Program} {l : Launch} {e : Env} {R : Room} {cells slots mc ms : Nat} {s : State} {m : MethodId} {args : Array Value} {below : List Frame} {meth : Method} {c : Code} {H : Heap} {locs : List Loc} {Qc : Array Value → State → Outcome → State → Prop} {E : En} {ad : Nat → Nat} {V : Mem} {ow : String} {b : ByteArray} {n : Nat} {ret : Option FieldType} {pc index : Nat} {ls : Array Slot} {rest : List Value} {a1 : Int32} {k1 k : Nat} {V1 Vz : Mem} (hS : SF E) (hC : Cx p s m args c meth E ow b n ret) (hY : Cy l c) (hI : In E ad V s H locs) (hsz : ls.size = n) (hf : f_X9_requireBranch V a1 = some (k1, V1)) (hl : Cond.methodLink ow index yX9_requireBranch ∈ TB) (hR : 6 + 1 ≤ R.frames ∧ 8 + (2 + 11) + 40 * 6 ≤ R.locals) (hcs : cells + 1 ≤ R.cells ∧ slots + 6 ≤ R.slots) (hc : cells + 1 ≤ mc ∧ slots + 6 ≤ ms) (hw : (rest.map fun v => v.category).sum ≤ 8) (hdg : decode b pc = .ok (.invokevirtual index, 3)) (hx : k1 ≠ 0 → k1 = k ∧ V1 = Vz) (kk : k1 = 0 → ∀ (H1 : Heap) (locs1 : List Loc), In E ad V1 s H1 locs1 → W p l e R s m args below meth c H1 locs1 (cells + 1) (slots + 6) (vx_MQ below Qc (QX E ad k Vz) args s mc ms (ours E)) (F0 m (pc + 3) ls (rest))) : W p l e R s m args below meth c H locs cells slots (vx_MQ below Qc (QX E ad k Vz) args s mc ms (ours E)) (F0 m pc ls (.int a1 :: .ref (ad 248) :: rest)) :=
  after_callX hC hY hI (xrunV_tb (As := [.int a1]) (rest := rest) hC hI hsz (m_X9_requireBranch l hY.2 E ad V a1 hS k1 V1 hf) cv_X9_requireBranch hl (by decide) (ce_248 _) rfl rfl rfl hR hcs hw hdg) hc hx kk

theorem dX9_head_0 : decode cX9_head 0 = .ok (.aload_n 0, 1) := by decide +kernel
theorem dX9_head_1 : decode cX9_head 1 = .ok (.iload_n 1, 1) := by decide +kernel
theorem dX9_head_2 : decode cX9_head 2 = .ok (.invokevirtual 216, 3) := by decide +kernel
theorem dX9_head_5 : decode cX9_head 5 = .ok (.aload_n 0, 1) := by decide +kernel
theorem dX9_head_6 : decode cX9_head 6 = .ok (.getfield 10, 3) := by decide +kernel
theorem dX9_head_9 : decode cX9_head 9 = .ok (.iload_n 1, 1) := by decide +kernel
theorem dX9_head_10 : decode cX9_head 10 = .ok (.invokevirtual 219, 3) := by decide +kernel
theorem dX9_head_13 : decode cX9_head 13 = .ok (.ireturn, 1) := by decide +kernel
def f_X9_head (V : Mem) (a1 : Int32) : Option (Nat × Int32 × Mem) :=
  bw 0 (f_X9_requireBranch V a1) fun V2 =>
  bd (f_X8_headOf V2 a1) fun r10 V10 =>
  some (0, r10, V10)
theorem cv_X9_head : CalV yX9_head cX9_head 2 (some .int) 1 := ⟨⟨⟨by decide +kernel, by decide +kernel⟩, tw_1_1, tw_5_32, by decide +kernel⟩, tw_5_30, tw_5_31⟩
set_option maxRecDepth 100000 in
set_option maxHeartbeats 4000000 in
theorem m_X9_head (l : Launch) (hT : l.stackTraces = false) (E : En) (ad : Nat → Nat) (V : Mem) (a1 : Int32) (hS : SF E) (k : Nat) (r : Int32) (Vz : Mem) (hf : f_X9_head V a1 = some (k, r, Vz)) : MX l E ad yX9_head cX9_head 2 (some .int) 7 1 6 [.ref (ad 248), .int a1] V k (some (.int r)) Vz := by
  refine entX (E := E) (ad := ad) (V := V) "LetterRepository" hT (by decide +kernel) rfl (Nat.le_of_ble_eq_true rfl) ?_
  intro p e s m below meth c ls hC hY hI hl
  have hx := hC.1
  have hb := hC.2.1
  have hl : lv_has ls 2 [(0, .ref (ad 248)), (1, .int a1)] := hl
  unfold f_X9_head at hf
  refine lv_aload_n hx hb dX9_head_0 rfl (lv_at hl 0 rfl) ?_
  refine lv_iload_n hx hb dX9_head_1 rfl (lv_at hl 1 rfl) ?_
  obtain ⟨q2, V2, e2, hf⟩ := gbw hf
  refine kx_X9_requireBranch hS hC hY hI hl.1 e2 tw_5_33 ⟨Nat.le_of_ble_eq_true rfl, Nat.le_of_ble_eq_true rfl⟩ ⟨Nat.le_of_ble_eq_true rfl, Nat.le_of_ble_eq_true rfl⟩ ⟨Nat.le_of_ble_eq_true rfl, Nat.le_of_ble_eq_true rfl⟩ (Nat.le_of_ble_eq_true rfl) dX9_head_2 (fun h0 => hx3 ((if_neg h0).symm.trans hf)) (fun h0 H locs hI => ?_)
  have hf := (if_pos h0).symm.trans hf
  refine lv_aload_n hx hb dX9_head_5 rfl (lv_at hl 0 rfl) ?_
  refine g_248_store hC hI tw_1_213 dX9_head_6 ?_
  refine lv_iload_n hx hb dX9_head_9 rfl (lv_at hl 1 rfl) ?_
  obtain ⟨r10, V10, q10, hf⟩ := gbd hf
  refine k_X8_headOf hC hI hl.1 q10 tw_5_39 ⟨Nat.le_of_ble_eq_true rfl, Nat.le_of_ble_eq_true rfl⟩ ⟨Nat.le_of_ble_eq_true rfl, Nat.le_of_ble_eq_true rfl⟩ (Nat.le_of_ble_eq_true rfl) dX9_head_10 (fun H locs hI => ?_)
  exact x_iret hC hI hf ⟨Nat.le_of_ble_eq_true rfl, Nat.le_of_ble_eq_true rfl⟩ dX9_head_13
theorem kx_X9_head {p : Program} {l : Launch} {e : Env} {R : Room} {cells slots mc ms : Nat} {s : State} {m : MethodId} {args : Array Value} {below : List Frame} {meth : Method} {c : Code} {H : Heap} {locs : List Loc} {Qc : Array Value → State → Outcome → State → Prop} {E : En} {ad : Nat → Nat} {V : Mem} {ow : String} {b : ByteArray} {n : Nat} {ret : Option FieldType} {pc index : Nat} {ls : Array Slot} {rest : List Value} {a1 : Int32} {k1 k : Nat} {r : Int32} {V1 Vz : Mem} (hS : SF E) (hC : Cx p s m args c meth E ow b n ret) (hY : Cy l c) (hI : In E ad V s H locs) (hsz : ls.size = n) (hf : f_X9_head V a1 = some (k1, r, V1)) (hl : Cond.methodLink ow index yX9_head ∈ TB) (hR : 7 + 1 ≤ R.frames ∧ 8 + (2 + 11) + 40 * 7 ≤ R.locals) (hcs : cells + 1 ≤ R.cells ∧ slots + 6 ≤ R.slots) (hc : cells + 1 ≤ mc ∧ slots + 6 ≤ ms) (hw : (rest.map fun v => v.category).sum ≤ 8) (hdg : decode b pc = .ok (.invokevirtual index, 3)) (hx : k1 ≠ 0 → k1 = k ∧ V1 = Vz) (kk : k1 = 0 → ∀ (H1 : Heap) (locs1 : List Loc), In E ad V1 s H1 locs1 → W p l e R s m args below meth c H1 locs1 (cells + 1) (slots + 6) (vx_MQ below Qc (QX E ad k Vz) args s mc ms (ours E)) (F0 m (pc + 3) ls ((.int r) :: rest))) : W p l e R s m args below meth c H locs cells slots (vx_MQ below Qc (QX E ad k Vz) args s mc ms (ours E)) (F0 m pc ls (.int a1 :: .ref (ad 248) :: rest)) :=
  after_callX hC hY hI (xrunV_tb (As := [.int a1]) (rest := rest) hC hI hsz (m_X9_head l hY.2 E ad V a1 hS k1 r V1 hf) cv_X9_head hl (by decide) (ce_248 _) rfl rfl rfl hR hcs hw hdg) hc hx kk

theorem dX9_letterAt_0 : decode cX9_letterAt 0 = .ok (.aload_n 0, 1) := by decide +kernel
theorem dX9_letterAt_1 : decode cX9_letterAt 1 = .ok (.iload_n 1, 1) := by decide +kernel
theorem dX9_letterAt_2 : decode cX9_letterAt 2 = .ok (.invokevirtual 216, 3) := by decide +kernel
theorem dX9_letterAt_5 : decode cX9_letterAt 5 = .ok (.iload_n 2, 1) := by decide +kernel
theorem dX9_letterAt_6 : decode cX9_letterAt 6 = .ok (.invokestatic 163, 3) := by decide +kernel
theorem dX9_letterAt_9 : decode cX9_letterAt 9 = .ok (.aload_n 0, 1) := by decide +kernel
theorem dX9_letterAt_10 : decode cX9_letterAt 10 = .ok (.getfield 10, 3) := by decide +kernel
theorem dX9_letterAt_13 : decode cX9_letterAt 13 = .ok (.iload_n 1, 1) := by decide +kernel
theorem dX9_letterAt_14 : decode cX9_letterAt 14 = .ok (.iload_n 2, 1) := by decide +kernel
theorem dX9_letterAt_15 : decode cX9_letterAt 15 = .ok (.invokevirtual 222, 3) := by decide +kernel
theorem dX9_letterAt_18 : decode cX9_letterAt 18 = .ok (.i2c, 1) := by decide +kernel
theorem dX9_letterAt_19 : decode cX9_letterAt 19 = .ok (.ireturn, 1) := by decide +kernel
def f_X9_letterAt (V : Mem) (a1 : Int32) (a2 : Int32) : Option (Nat × Int32 × Mem) :=
  bw 0 (f_X9_requireBranch V a1) fun V2 =>
  bw 0 (f_X9_requireField V2 a2) fun V6 =>
  bd (f_X8_workingLetter V6 a1 a2) fun r15 V15 =>
  some (0, (((r15 : Int32).toUInt32 % 65536).toInt32), V15)
theorem cv_X9_letterAt : CalV yX9_letterAt cX9_letterAt 3 (some .char) 2 := ⟨⟨⟨by decide +kernel, by decide +kernel⟩, tw_1_1, tw_5_46, by decide +kernel⟩, tw_5_44, tw_5_45⟩
set_option maxRecDepth 100000 in
set_option maxHeartbeats 4000000 in
theorem m_X9_letterAt (l : Launch) (hT : l.stackTraces = false) (E : En) (ad : Nat → Nat) (V : Mem) (a1 : Int32) (a2 : Int32) (hS : SF E) (k : Nat) (r : Int32) (Vz : Mem) (hf : f_X9_letterAt V a1 a2 = some (k, r, Vz)) : MX l E ad yX9_letterAt cX9_letterAt 3 (some .char) 7 2 12 [.ref (ad 248), .int a1, .int a2] V k (some (.int r)) Vz := by
  refine entX (E := E) (ad := ad) (V := V) "LetterRepository" hT (by decide +kernel) rfl (Nat.le_of_ble_eq_true rfl) ?_
  intro p e s m below meth c ls hC hY hI hl
  have hx := hC.1
  have hb := hC.2.1
  have hl : lv_has ls 3 [(0, .ref (ad 248)), (1, .int a1), (2, .int a2)] := hl
  unfold f_X9_letterAt at hf
  refine lv_aload_n hx hb dX9_letterAt_0 rfl (lv_at hl 0 rfl) ?_
  refine lv_iload_n hx hb dX9_letterAt_1 rfl (lv_at hl 1 rfl) ?_
  obtain ⟨q2, V2, e2, hf⟩ := gbw hf
  refine kx_X9_requireBranch hS hC hY hI hl.1 e2 tw_5_33 ⟨Nat.le_of_ble_eq_true rfl, Nat.le_of_ble_eq_true rfl⟩ ⟨Nat.le_of_ble_eq_true rfl, Nat.le_of_ble_eq_true rfl⟩ ⟨Nat.le_of_ble_eq_true rfl, Nat.le_of_ble_eq_true rfl⟩ (Nat.le_of_ble_eq_true rfl) dX9_letterAt_2 (fun h0 => hx3 ((if_neg h0).symm.trans hf)) (fun h0 H locs hI => ?_)
  have hf := (if_pos h0).symm.trans hf
  refine lv_iload_n hx hb dX9_letterAt_5 rfl (lv_at hl 2 rfl) ?_
  obtain ⟨q6, V6, e6, hf⟩ := gbw hf
  refine kx_X9_requireField hS hC hY hI hl.1 e6 tw_4_177 ⟨Nat.le_of_ble_eq_true rfl, Nat.le_of_ble_eq_true rfl⟩ ⟨Nat.le_of_ble_eq_true rfl, Nat.le_of_ble_eq_true rfl⟩ ⟨Nat.le_of_ble_eq_true rfl, Nat.le_of_ble_eq_true rfl⟩ (Nat.le_of_ble_eq_true rfl) dX9_letterAt_6 (fun h0 => hx3 ((if_neg h0).symm.trans hf)) (fun h0 H locs hI => ?_)
  have hf := (if_pos h0).symm.trans hf
  refine lv_aload_n hx hb dX9_letterAt_9 rfl (lv_at hl 0 rfl) ?_
  refine g_248_store hC hI tw_1_213 dX9_letterAt_10 ?_
  refine lv_iload_n hx hb dX9_letterAt_13 rfl (lv_at hl 1 rfl) ?_
  refine lv_iload_n hx hb dX9_letterAt_14 rfl (lv_at hl 2 rfl) ?_
  obtain ⟨r15, V15, q15, hf⟩ := gbd hf
  refine k_X8_workingLetter hC hI hl.1 q15 tw_5_47 ⟨Nat.le_of_ble_eq_true rfl, Nat.le_of_ble_eq_true rfl⟩ ⟨Nat.le_of_ble_eq_true rfl, Nat.le_of_ble_eq_true rfl⟩ (Nat.le_of_ble_eq_true rfl) dX9_letterAt_15 (fun H locs hI => ?_)
  refine lv_i2c hx hb dX9_letterAt_18 rfl ?_
  exact x_cret hC hI hf ⟨Nat.le_of_ble_eq_true rfl, Nat.le_of_ble_eq_true rfl⟩ dX9_letterAt_19
theorem kx_X9_letterAt {p : Program} {l : Launch} {e : Env} {R : Room} {cells slots mc ms : Nat} {s : State} {m : MethodId} {args : Array Value} {below : List Frame} {meth : Method} {c : Code} {H : Heap} {locs : List Loc} {Qc : Array Value → State → Outcome → State → Prop} {E : En} {ad : Nat → Nat} {V : Mem} {ow : String} {b : ByteArray} {n : Nat} {ret : Option FieldType} {pc index : Nat} {ls : Array Slot} {rest : List Value} {a1 : Int32} {a2 : Int32} {k1 k : Nat} {r : Int32} {V1 Vz : Mem} (hS : SF E) (hC : Cx p s m args c meth E ow b n ret) (hY : Cy l c) (hI : In E ad V s H locs) (hsz : ls.size = n) (hf : f_X9_letterAt V a1 a2 = some (k1, r, V1)) (hl : Cond.methodLink ow index yX9_letterAt ∈ TB) (hR : 7 + 1 ≤ R.frames ∧ 8 + (3 + 11) + 40 * 7 ≤ R.locals) (hcs : cells + 2 ≤ R.cells ∧ slots + 12 ≤ R.slots) (hc : cells + 2 ≤ mc ∧ slots + 12 ≤ ms) (hw : (rest.map fun v => v.category).sum ≤ 8) (hdg : decode b pc = .ok (.invokevirtual index, 3)) (hx : k1 ≠ 0 → k1 = k ∧ V1 = Vz) (kk : k1 = 0 → ∀ (H1 : Heap) (locs1 : List Loc), In E ad V1 s H1 locs1 → W p l e R s m args below meth c H1 locs1 (cells + 2) (slots + 12) (vx_MQ below Qc (QX E ad k Vz) args s mc ms (ours E)) (F0 m (pc + 3) ls ((.int r) :: rest))) : W p l e R s m args below meth c H locs cells slots (vx_MQ below Qc (QX E ad k Vz) args s mc ms (ours E)) (F0 m pc ls (.int a2 :: .int a1 :: .ref (ad 248) :: rest)) :=
  after_callX hC hY hI (xrunV_tb (As := [.int a1, .int a2]) (rest := rest) hC hI hsz (m_X9_letterAt l hY.2 E ad V a1 a2 hS k1 r V1 hf) cv_X9_letterAt hl (by decide) (ce_248 _) rfl rfl rfl hR hcs hw hdg) hc hx kk

theorem dX9_isEdited_0 : decode cX9_isEdited 0 = .ok (.aload_n 0, 1) := by decide +kernel
theorem dX9_isEdited_1 : decode cX9_isEdited 1 = .ok (.iload_n 1, 1) := by decide +kernel
theorem dX9_isEdited_2 : decode cX9_isEdited 2 = .ok (.invokevirtual 216, 3) := by decide +kernel
theorem dX9_isEdited_5 : decode cX9_isEdited 5 = .ok (.iload_n 2, 1) := by decide +kernel
theorem dX9_isEdited_6 : decode cX9_isEdited 6 = .ok (.invokestatic 163, 3) := by decide +kernel
theorem dX9_isEdited_9 : decode cX9_isEdited 9 = .ok (.aload_n 0, 1) := by decide +kernel
theorem dX9_isEdited_10 : decode cX9_isEdited 10 = .ok (.getfield 10, 3) := by decide +kernel
theorem dX9_isEdited_13 : decode cX9_isEdited 13 = .ok (.iload_n 1, 1) := by decide +kernel
theorem dX9_isEdited_14 : decode cX9_isEdited 14 = .ok (.iload_n 2, 1) := by decide +kernel
theorem dX9_isEdited_15 : decode cX9_isEdited 15 = .ok (.invokevirtual 225, 3) := by decide +kernel
theorem dX9_isEdited_18 : decode cX9_isEdited 18 = .ok (.ireturn, 1) := by decide +kernel
def f_X9_isEdited (V : Mem) (a1 : Int32) (a2 : Int32) : Option (Nat × Int32 × Mem) :=
  bw 0 (f_X9_requireBranch V a1) fun V2 =>
  bw 0 (f_X9_requireField V2 a2) fun V6 =>
  bd (f_X8_differsFromHead V6 a1 a2) fun r15 V15 =>
  if r15 = 0 ∨ r15 = 1 then
    some (0, r15, V15)
  else none
theorem cv_X9_isEdited : CalV yX9_isEdited cX9_isEdited 3 (some .boolean) 2 := ⟨⟨⟨by decide +kernel, by decide +kernel⟩, tw_1_1, tw_5_54, by decide +kernel⟩, tw_5_52, tw_5_53⟩
set_option maxRecDepth 100000 in
set_option maxHeartbeats 4000000 in
theorem m_X9_isEdited (l : Launch) (hT : l.stackTraces = false) (E : En) (ad : Nat → Nat) (V : Mem) (a1 : Int32) (a2 : Int32) (hS : SF E) (k : Nat) (r : Int32) (Vz : Mem) (hf : f_X9_isEdited V a1 a2 = some (k, r, Vz)) : MX l E ad yX9_isEdited cX9_isEdited 3 (some .boolean) 7 2 12 [.ref (ad 248), .int a1, .int a2] V k (some (.int r)) Vz := by
  refine entX (E := E) (ad := ad) (V := V) "LetterRepository" hT (by decide +kernel) rfl (Nat.le_of_ble_eq_true rfl) ?_
  intro p e s m below meth c ls hC hY hI hl
  have hx := hC.1
  have hb := hC.2.1
  have hl : lv_has ls 3 [(0, .ref (ad 248)), (1, .int a1), (2, .int a2)] := hl
  unfold f_X9_isEdited at hf
  refine lv_aload_n hx hb dX9_isEdited_0 rfl (lv_at hl 0 rfl) ?_
  refine lv_iload_n hx hb dX9_isEdited_1 rfl (lv_at hl 1 rfl) ?_
  obtain ⟨q2, V2, e2, hf⟩ := gbw hf
  refine kx_X9_requireBranch hS hC hY hI hl.1 e2 tw_5_33 ⟨Nat.le_of_ble_eq_true rfl, Nat.le_of_ble_eq_true rfl⟩ ⟨Nat.le_of_ble_eq_true rfl, Nat.le_of_ble_eq_true rfl⟩ ⟨Nat.le_of_ble_eq_true rfl, Nat.le_of_ble_eq_true rfl⟩ (Nat.le_of_ble_eq_true rfl) dX9_isEdited_2 (fun h0 => hx3 ((if_neg h0).symm.trans hf)) (fun h0 H locs hI => ?_)
  have hf := (if_pos h0).symm.trans hf
  refine lv_iload_n hx hb dX9_isEdited_5 rfl (lv_at hl 2 rfl) ?_
  obtain ⟨q6, V6, e6, hf⟩ := gbw hf
  refine kx_X9_requireField hS hC hY hI hl.1 e6 tw_4_177 ⟨Nat.le_of_ble_eq_true rfl, Nat.le_of_ble_eq_true rfl⟩ ⟨Nat.le_of_ble_eq_true rfl, Nat.le_of_ble_eq_true rfl⟩ ⟨Nat.le_of_ble_eq_true rfl, Nat.le_of_ble_eq_true rfl⟩ (Nat.le_of_ble_eq_true rfl) dX9_isEdited_6 (fun h0 => hx3 ((if_neg h0).symm.trans hf)) (fun h0 H locs hI => ?_)
  have hf := (if_pos h0).symm.trans hf
  refine lv_aload_n hx hb dX9_isEdited_9 rfl (lv_at hl 0 rfl) ?_
  refine g_248_store hC hI tw_1_213 dX9_isEdited_10 ?_
  refine lv_iload_n hx hb dX9_isEdited_13 rfl (lv_at hl 1 rfl) ?_
  refine lv_iload_n hx hb dX9_isEdited_14 rfl (lv_at hl 2 rfl) ?_
  obtain ⟨r15, V15, q15, hf⟩ := gbd hf
  refine k_X8_differsFromHead hC hI hl.1 q15 tw_5_55 ⟨Nat.le_of_ble_eq_true rfl, Nat.le_of_ble_eq_true rfl⟩ ⟨Nat.le_of_ble_eq_true rfl, Nat.le_of_ble_eq_true rfl⟩ (Nat.le_of_ble_eq_true rfl) dX9_isEdited_15 (fun H locs hI => ?_)
  obtain ⟨h18, hf⟩ := gi hf
  exact x_zret hC hI h18 hf ⟨Nat.le_of_ble_eq_true rfl, Nat.le_of_ble_eq_true rfl⟩ dX9_isEdited_18
theorem kx_X9_isEdited {p : Program} {l : Launch} {e : Env} {R : Room} {cells slots mc ms : Nat} {s : State} {m : MethodId} {args : Array Value} {below : List Frame} {meth : Method} {c : Code} {H : Heap} {locs : List Loc} {Qc : Array Value → State → Outcome → State → Prop} {E : En} {ad : Nat → Nat} {V : Mem} {ow : String} {b : ByteArray} {n : Nat} {ret : Option FieldType} {pc index : Nat} {ls : Array Slot} {rest : List Value} {a1 : Int32} {a2 : Int32} {k1 k : Nat} {r : Int32} {V1 Vz : Mem} (hS : SF E) (hC : Cx p s m args c meth E ow b n ret) (hY : Cy l c) (hI : In E ad V s H locs) (hsz : ls.size = n) (hf : f_X9_isEdited V a1 a2 = some (k1, r, V1)) (hl : Cond.methodLink ow index yX9_isEdited ∈ TB) (hR : 7 + 1 ≤ R.frames ∧ 8 + (3 + 11) + 40 * 7 ≤ R.locals) (hcs : cells + 2 ≤ R.cells ∧ slots + 12 ≤ R.slots) (hc : cells + 2 ≤ mc ∧ slots + 12 ≤ ms) (hw : (rest.map fun v => v.category).sum ≤ 8) (hdg : decode b pc = .ok (.invokevirtual index, 3)) (hx : k1 ≠ 0 → k1 = k ∧ V1 = Vz) (kk : k1 = 0 → ∀ (H1 : Heap) (locs1 : List Loc), In E ad V1 s H1 locs1 → W p l e R s m args below meth c H1 locs1 (cells + 2) (slots + 12) (vx_MQ below Qc (QX E ad k Vz) args s mc ms (ours E)) (F0 m (pc + 3) ls ((.int r) :: rest))) : W p l e R s m args below meth c H locs cells slots (vx_MQ below Qc (QX E ad k Vz) args s mc ms (ours E)) (F0 m pc ls (.int a2 :: .int a1 :: .ref (ad 248) :: rest)) :=
  after_callX hC hY hI (xrunV_tb (As := [.int a1, .int a2]) (rest := rest) hC hI hsz (m_X9_isEdited l hY.2 E ad V a1 a2 hS k1 r V1 hf) cv_X9_isEdited hl (by decide) (ce_248 _) rfl rfl rfl hR hcs hw hdg) hc hx kk

theorem dX9_editCount_0 : decode cX9_editCount 0 = .ok (.aload_n 0, 1) := by decide +kernel
theorem dX9_editCount_1 : decode cX9_editCount 1 = .ok (.iload_n 1, 1) := by decide +kernel
theorem dX9_editCount_2 : decode cX9_editCount 2 = .ok (.invokevirtual 216, 3) := by decide +kernel
theorem dX9_editCount_5 : decode cX9_editCount 5 = .ok (.aload_n 0, 1) := by decide +kernel
theorem dX9_editCount_6 : decode cX9_editCount 6 = .ok (.getfield 10, 3) := by decide +kernel
theorem dX9_editCount_9 : decode cX9_editCount 9 = .ok (.iload_n 1, 1) := by decide +kernel
theorem dX9_editCount_10 : decode cX9_editCount 10 = .ok (.invokevirtual 228, 3) := by decide +kernel
theorem dX9_editCount_13 : decode cX9_editCount 13 = .ok (.ireturn, 1) := by decide +kernel
def f_X9_editCount (V : Mem) (a1 : Int32) : Option (Nat × Int32 × Mem) :=
  bw 0 (f_X9_requireBranch V a1) fun V2 =>
  bd (f_X8_countEdits V2 a1) fun r10 V10 =>
  some (0, r10, V10)
theorem cv_X9_editCount : CalV yX9_editCount cX9_editCount 2 (some .int) 1 := ⟨⟨⟨by decide +kernel, by decide +kernel⟩, tw_1_1, tw_5_62, by decide +kernel⟩, tw_5_60, tw_5_61⟩
set_option maxRecDepth 100000 in
set_option maxHeartbeats 4000000 in
theorem m_X9_editCount (l : Launch) (hT : l.stackTraces = false) (E : En) (ad : Nat → Nat) (V : Mem) (a1 : Int32) (hS : SF E) (k : Nat) (r : Int32) (Vz : Mem) (hf : f_X9_editCount V a1 = some (k, r, Vz)) : MX l E ad yX9_editCount cX9_editCount 2 (some .int) 7 1 6 [.ref (ad 248), .int a1] V k (some (.int r)) Vz := by
  refine entX (E := E) (ad := ad) (V := V) "LetterRepository" hT (by decide +kernel) rfl (Nat.le_of_ble_eq_true rfl) ?_
  intro p e s m below meth c ls hC hY hI hl
  have hx := hC.1
  have hb := hC.2.1
  have hl : lv_has ls 2 [(0, .ref (ad 248)), (1, .int a1)] := hl
  unfold f_X9_editCount at hf
  refine lv_aload_n hx hb dX9_editCount_0 rfl (lv_at hl 0 rfl) ?_
  refine lv_iload_n hx hb dX9_editCount_1 rfl (lv_at hl 1 rfl) ?_
  obtain ⟨q2, V2, e2, hf⟩ := gbw hf
  refine kx_X9_requireBranch hS hC hY hI hl.1 e2 tw_5_33 ⟨Nat.le_of_ble_eq_true rfl, Nat.le_of_ble_eq_true rfl⟩ ⟨Nat.le_of_ble_eq_true rfl, Nat.le_of_ble_eq_true rfl⟩ ⟨Nat.le_of_ble_eq_true rfl, Nat.le_of_ble_eq_true rfl⟩ (Nat.le_of_ble_eq_true rfl) dX9_editCount_2 (fun h0 => hx3 ((if_neg h0).symm.trans hf)) (fun h0 H locs hI => ?_)
  have hf := (if_pos h0).symm.trans hf
  refine lv_aload_n hx hb dX9_editCount_5 rfl (lv_at hl 0 rfl) ?_
  refine g_248_store hC hI tw_1_213 dX9_editCount_6 ?_
  refine lv_iload_n hx hb dX9_editCount_9 rfl (lv_at hl 1 rfl) ?_
  obtain ⟨r10, V10, q10, hf⟩ := gbd hf
  refine k_X8_countEdits hC hI hl.1 q10 tw_5_63 ⟨Nat.le_of_ble_eq_true rfl, Nat.le_of_ble_eq_true rfl⟩ ⟨Nat.le_of_ble_eq_true rfl, Nat.le_of_ble_eq_true rfl⟩ (Nat.le_of_ble_eq_true rfl) dX9_editCount_10 (fun H locs hI => ?_)
  exact x_iret hC hI hf ⟨Nat.le_of_ble_eq_true rfl, Nat.le_of_ble_eq_true rfl⟩ dX9_editCount_13
theorem kx_X9_editCount {p : Program} {l : Launch} {e : Env} {R : Room} {cells slots mc ms : Nat} {s : State} {m : MethodId} {args : Array Value} {below : List Frame} {meth : Method} {c : Code} {H : Heap} {locs : List Loc} {Qc : Array Value → State → Outcome → State → Prop} {E : En} {ad : Nat → Nat} {V : Mem} {ow : String} {b : ByteArray} {n : Nat} {ret : Option FieldType} {pc index : Nat} {ls : Array Slot} {rest : List Value} {a1 : Int32} {k1 k : Nat} {r : Int32} {V1 Vz : Mem} (hS : SF E) (hC : Cx p s m args c meth E ow b n ret) (hY : Cy l c) (hI : In E ad V s H locs) (hsz : ls.size = n) (hf : f_X9_editCount V a1 = some (k1, r, V1)) (hl : Cond.methodLink ow index yX9_editCount ∈ TB) (hR : 7 + 1 ≤ R.frames ∧ 8 + (2 + 11) + 40 * 7 ≤ R.locals) (hcs : cells + 1 ≤ R.cells ∧ slots + 6 ≤ R.slots) (hc : cells + 1 ≤ mc ∧ slots + 6 ≤ ms) (hw : (rest.map fun v => v.category).sum ≤ 8) (hdg : decode b pc = .ok (.invokevirtual index, 3)) (hx : k1 ≠ 0 → k1 = k ∧ V1 = Vz) (kk : k1 = 0 → ∀ (H1 : Heap) (locs1 : List Loc), In E ad V1 s H1 locs1 → W p l e R s m args below meth c H1 locs1 (cells + 1) (slots + 6) (vx_MQ below Qc (QX E ad k Vz) args s mc ms (ours E)) (F0 m (pc + 3) ls ((.int r) :: rest))) : W p l e R s m args below meth c H locs cells slots (vx_MQ below Qc (QX E ad k Vz) args s mc ms (ours E)) (F0 m pc ls (.int a1 :: .ref (ad 248) :: rest)) :=
  after_callX hC hY hI (xrunV_tb (As := [.int a1]) (rest := rest) hC hI hsz (m_X9_editCount l hY.2 E ad V a1 hS k1 r V1 hf) cv_X9_editCount hl (by decide) (ce_248 _) rfl rfl rfl hR hcs hw hdg) hc hx kk

theorem dX9_branchByHead_0 : decode cX9_branchByHead 0 = .ok (.aload_n 0, 1) := by decide +kernel
theorem dX9_branchByHead_1 : decode cX9_branchByHead 1 = .ok (.getfield 10, 3) := by decide +kernel
theorem dX9_branchByHead_4 : decode cX9_branchByHead 4 = .ok (.iload_n 1, 1) := by decide +kernel
theorem dX9_branchByHead_5 : decode cX9_branchByHead 5 = .ok (.invokevirtual 231, 3) := by decide +kernel
theorem dX9_branchByHead_8 : decode cX9_branchByHead 8 = .ok (.invokestatic 151, 3) := by decide +kernel
theorem dX9_branchByHead_11 : decode cX9_branchByHead 11 = .ok (.ireturn, 1) := by decide +kernel
def f_X9_branchByHead (V : Mem) (a1 : Int32) : Option (Nat × Int32 × Mem) :=
  bd (f_X8_branchOfRank V a1) fun r5 V5 =>
  bx 0 (f_X9_requirePresent V5 r5) fun r8 V8 =>
  some (0, r8, V8)
theorem cv_X9_branchByHead : CalV yX9_branchByHead cX9_branchByHead 2 (some .int) 1 := ⟨⟨⟨by decide +kernel, by decide +kernel⟩, tw_1_1, tw_5_70, by decide +kernel⟩, tw_5_68, tw_5_69⟩
set_option maxRecDepth 100000 in
set_option maxHeartbeats 4000000 in
theorem m_X9_branchByHead (l : Launch) (hT : l.stackTraces = false) (E : En) (ad : Nat → Nat) (V : Mem) (a1 : Int32) (hS : SF E) (k : Nat) (r : Int32) (Vz : Mem) (hf : f_X9_branchByHead V a1 = some (k, r, Vz)) : MX l E ad yX9_branchByHead cX9_branchByHead 2 (some .int) 7 1 6 [.ref (ad 248), .int a1] V k (some (.int r)) Vz := by
  refine entX (E := E) (ad := ad) (V := V) "LetterRepository" hT (by decide +kernel) rfl (Nat.le_of_ble_eq_true rfl) ?_
  intro p e s m below meth c ls hC hY hI hl
  have hx := hC.1
  have hb := hC.2.1
  have hl : lv_has ls 2 [(0, .ref (ad 248)), (1, .int a1)] := hl
  unfold f_X9_branchByHead at hf
  refine lv_aload_n hx hb dX9_branchByHead_0 rfl (lv_at hl 0 rfl) ?_
  refine g_248_store hC hI tw_1_213 dX9_branchByHead_1 ?_
  refine lv_iload_n hx hb dX9_branchByHead_4 rfl (lv_at hl 1 rfl) ?_
  obtain ⟨r5, V5, q5, hf⟩ := gbd hf
  refine k_X8_branchOfRank hC hI hl.1 q5 tw_5_71 ⟨Nat.le_of_ble_eq_true rfl, Nat.le_of_ble_eq_true rfl⟩ ⟨Nat.le_of_ble_eq_true rfl, Nat.le_of_ble_eq_true rfl⟩ (Nat.le_of_ble_eq_true rfl) dX9_branchByHead_5 (fun H locs hI => ?_)
  obtain ⟨q8, r8, V8, e8, hf⟩ := gbx hf
  refine kx_X9_requirePresent hS hC hY hI hl.1 e8 tw_4_142 ⟨Nat.le_of_ble_eq_true rfl, Nat.le_of_ble_eq_true rfl⟩ ⟨Nat.le_of_ble_eq_true rfl, Nat.le_of_ble_eq_true rfl⟩ ⟨Nat.le_of_ble_eq_true rfl, Nat.le_of_ble_eq_true rfl⟩ (Nat.le_of_ble_eq_true rfl) dX9_branchByHead_8 (fun h0 => hx3 ((if_neg h0).symm.trans hf)) (fun h0 H locs hI => ?_)
  have hf := (if_pos h0).symm.trans hf
  exact x_iret hC hI hf ⟨Nat.le_of_ble_eq_true rfl, Nat.le_of_ble_eq_true rfl⟩ dX9_branchByHead_11
theorem kx_X9_branchByHead {p : Program} {l : Launch} {e : Env} {R : Room} {cells slots mc ms : Nat} {s : State} {m : MethodId} {args : Array Value} {below : List Frame} {meth : Method} {c : Code} {H : Heap} {locs : List Loc} {Qc : Array Value → State → Outcome → State → Prop} {E : En} {ad : Nat → Nat} {V : Mem} {ow : String} {b : ByteArray} {n : Nat} {ret : Option FieldType} {pc index : Nat} {ls : Array Slot} {rest : List Value} {a1 : Int32} {k1 k : Nat} {r : Int32} {V1 Vz : Mem} (hS : SF E) (hC : Cx p s m args c meth E ow b n ret) (hY : Cy l c) (hI : In E ad V s H locs) (hsz : ls.size = n) (hf : f_X9_branchByHead V a1 = some (k1, r, V1)) (hl : Cond.methodLink ow index yX9_branchByHead ∈ TB) (hR : 7 + 1 ≤ R.frames ∧ 8 + (2 + 11) + 40 * 7 ≤ R.locals) (hcs : cells + 1 ≤ R.cells ∧ slots + 6 ≤ R.slots) (hc : cells + 1 ≤ mc ∧ slots + 6 ≤ ms) (hw : (rest.map fun v => v.category).sum ≤ 8) (hdg : decode b pc = .ok (.invokevirtual index, 3)) (hx : k1 ≠ 0 → k1 = k ∧ V1 = Vz) (kk : k1 = 0 → ∀ (H1 : Heap) (locs1 : List Loc), In E ad V1 s H1 locs1 → W p l e R s m args below meth c H1 locs1 (cells + 1) (slots + 6) (vx_MQ below Qc (QX E ad k Vz) args s mc ms (ours E)) (F0 m (pc + 3) ls ((.int r) :: rest))) : W p l e R s m args below meth c H locs cells slots (vx_MQ below Qc (QX E ad k Vz) args s mc ms (ours E)) (F0 m pc ls (.int a1 :: .ref (ad 248) :: rest)) :=
  after_callX hC hY hI (xrunV_tb (As := [.int a1]) (rest := rest) hC hI hsz (m_X9_branchByHead l hY.2 E ad V a1 hS k1 r V1 hf) cv_X9_branchByHead hl (by decide) (ce_248 _) rfl rfl rfl hR hcs hw hdg) hc hx kk

theorem dX9_requirePair_0 : decode cX9_requirePair 0 = .ok (.aload_n 0, 1) := by decide +kernel
theorem dX9_requirePair_1 : decode cX9_requirePair 1 = .ok (.getfield 10, 3) := by decide +kernel
theorem dX9_requirePair_4 : decode cX9_requirePair 4 = .ok (.iload_n 1, 1) := by decide +kernel
theorem dX9_requirePair_5 : decode cX9_requirePair 5 = .ok (.iload_n 2, 1) := by decide +kernel
theorem dX9_requirePair_6 : decode cX9_requirePair 6 = .ok (.invokevirtual 412, 3) := by decide +kernel
theorem dX9_requirePair_9 : decode cX9_requirePair 9 = .ok (.invokestatic 54, 3) := by decide +kernel
theorem dX9_requirePair_12 : decode cX9_requirePair 12 = .ok (.return_, 1) := by decide +kernel
def f_X9_requirePair (V : Mem) (a1 : Int32) (a2 : Int32) : Option (Nat × Mem) :=
  bd (f_X8_refusalOfPair V a1 a2) fun r6 V6 =>
  bw0 (f_X9_refuse V6 r6) fun V9 =>
  some (0, V9)
theorem cv_X9_requirePair : CalV yX9_requirePair cX9_requirePair 3 none 2 := ⟨⟨⟨by decide +kernel, by decide +kernel⟩, tw_1_1, tw_5_90, by decide +kernel⟩, tw_5_89, tp_12⟩
set_option maxRecDepth 100000 in
set_option maxHeartbeats 4000000 in
theorem m_X9_requirePair (l : Launch) (hT : l.stackTraces = false) (E : En) (ad : Nat → Nat) (V : Mem) (a1 : Int32) (a2 : Int32) (hS : SF E) (k : Nat) (Vz : Mem) (hf : f_X9_requirePair V a1 a2 = some (k, Vz)) : MX l E ad yX9_requirePair cX9_requirePair 3 none 7 1 6 [.ref (ad 248), .int a1, .int a2] V k none Vz := by
  refine entX (E := E) (ad := ad) (V := V) "LetterRepository" hT (by decide +kernel) rfl (Nat.le_of_ble_eq_true rfl) ?_
  intro p e s m below meth c ls hC hY hI hl
  have hx := hC.1
  have hb := hC.2.1
  have hl : lv_has ls 3 [(0, .ref (ad 248)), (1, .int a1), (2, .int a2)] := hl
  unfold f_X9_requirePair at hf
  refine lv_aload_n hx hb dX9_requirePair_0 rfl (lv_at hl 0 rfl) ?_
  refine g_248_store hC hI tw_1_213 dX9_requirePair_1 ?_
  refine lv_iload_n hx hb dX9_requirePair_4 rfl (lv_at hl 1 rfl) ?_
  refine lv_iload_n hx hb dX9_requirePair_5 rfl (lv_at hl 2 rfl) ?_
  obtain ⟨r6, V6, q6, hf⟩ := gbd hf
  refine k_X8_refusalOfPair hS hC hI hl.1 q6 tw_5_91 ⟨Nat.le_of_ble_eq_true rfl, Nat.le_of_ble_eq_true rfl⟩ ⟨Nat.le_of_ble_eq_true rfl, Nat.le_of_ble_eq_true rfl⟩ (Nat.le_of_ble_eq_true rfl) dX9_requirePair_6 (fun H locs hI => ?_)
  obtain ⟨q9, V9, e9, hf⟩ := gbw0 hf
  refine kx_X9_refuse hS hC hY hI hl.1 e9 tw_2_239 ⟨Nat.le_of_ble_eq_true rfl, Nat.le_of_ble_eq_true rfl⟩ ⟨Nat.le_of_ble_eq_true rfl, Nat.le_of_ble_eq_true rfl⟩ ⟨Nat.le_of_ble_eq_true rfl, Nat.le_of_ble_eq_true rfl⟩ (Nat.le_of_ble_eq_true rfl) dX9_requirePair_9 (fun h0 => hx2 ((if_neg h0).symm.trans hf)) (fun h0 H locs hI => ?_)
  have hf := (if_pos h0).symm.trans hf
  exact x_vret hC hI hf ⟨Nat.le_of_ble_eq_true rfl, Nat.le_of_ble_eq_true rfl⟩ dX9_requirePair_12
theorem kx_X9_requirePair {p : Program} {l : Launch} {e : Env} {R : Room} {cells slots mc ms : Nat} {s : State} {m : MethodId} {args : Array Value} {below : List Frame} {meth : Method} {c : Code} {H : Heap} {locs : List Loc} {Qc : Array Value → State → Outcome → State → Prop} {E : En} {ad : Nat → Nat} {V : Mem} {ow : String} {b : ByteArray} {n : Nat} {ret : Option FieldType} {pc index : Nat} {ls : Array Slot} {rest : List Value} {a1 : Int32} {a2 : Int32} {k1 k : Nat} {V1 Vz : Mem} (hS : SF E) (hC : Cx p s m args c meth E ow b n ret) (hY : Cy l c) (hI : In E ad V s H locs) (hsz : ls.size = n) (hf : f_X9_requirePair V a1 a2 = some (k1, V1)) (hl : Cond.methodLink ow index yX9_requirePair ∈ TB) (hR : 7 + 1 ≤ R.frames ∧ 8 + (3 + 11) + 40 * 7 ≤ R.locals) (hcs : cells + 1 ≤ R.cells ∧ slots + 6 ≤ R.slots) (hc : cells + 1 ≤ mc ∧ slots + 6 ≤ ms) (hw : (rest.map fun v => v.category).sum ≤ 8) (hdg : decode b pc = .ok (.invokevirtual index, 3)) (hx : k1 ≠ 0 → k1 = k ∧ V1 = Vz) (kk : k1 = 0 → ∀ (H1 : Heap) (locs1 : List Loc), In E ad V1 s H1 locs1 → W p l e R s m args below meth c H1 locs1 (cells + 1) (slots + 6) (vx_MQ below Qc (QX E ad k Vz) args s mc ms (ours E)) (F0 m (pc + 3) ls (rest))) : W p l e R s m args below meth c H locs cells slots (vx_MQ below Qc (QX E ad k Vz) args s mc ms (ours E)) (F0 m pc ls (.int a2 :: .int a1 :: .ref (ad 248) :: rest)) :=
  after_callX hC hY hI (xrunV_tb (As := [.int a1, .int a2]) (rest := rest) hC hI hsz (m_X9_requirePair l hY.2 E ad V a1 a2 hS k1 V1 hf) cv_X9_requirePair hl (by decide) (ce_248 _) rfl rfl rfl hR hcs hw hdg) hc hx kk

theorem dX9_conflictCount_0 : decode cX9_conflictCount 0 = .ok (.aload_n 0, 1) := by decide +kernel
theorem dX9_conflictCount_1 : decode cX9_conflictCount 1 = .ok (.iload_n 1, 1) := by decide +kernel
theorem dX9_conflictCount_2 : decode cX9_conflictCount 2 = .ok (.iload_n 2, 1) := by decide +kernel
theorem dX9_conflictCount_3 : decode cX9_conflictCount 3 = .ok (.invokevirtual 234, 3) := by decide +kernel
theorem dX9_conflictCount_6 : decode cX9_conflictCount 6 = .ok (.aload_n 0, 1) := by decide +kernel
theorem dX9_conflictCount_7 : decode cX9_conflictCount 7 = .ok (.getfield 10, 3) := by decide +kernel
theorem dX9_conflictCount_10 : decode cX9_conflictCount 10 = .ok (.iload_n 1, 1) := by decide +kernel
theorem dX9_conflictCount_11 : decode cX9_conflictCount 11 = .ok (.iload_n 2, 1) := by decide +kernel
theorem dX9_conflictCount_12 : decode cX9_conflictCount 12 = .ok (.invokevirtual 238, 3) := by decide +kernel
theorem dX9_conflictCount_15 : decode cX9_conflictCount 15 = .ok (.ireturn, 1) := by decide +kernel
def f_X9_conflictCount (V : Mem) (a1 : Int32) (a2 : Int32) : Option (Nat × Int32 × Mem) :=
  bw 0 (f_X9_requirePair V a1 a2) fun V3 =>
  bd (f_X8_countConflicts V3 a1 a2) fun r12 V12 =>
  some (0, r12, V12)
theorem cv_X9_conflictCount : CalV yX9_conflictCount cX9_conflictCount 3 (some .int) 2 := ⟨⟨⟨by decide +kernel, by decide +kernel⟩, tw_1_1, tw_5_86, by decide +kernel⟩, tw_5_84, tw_5_85⟩
set_option maxRecDepth 100000 in
set_option maxHeartbeats 4000000 in
theorem m_X9_conflictCount (l : Launch) (hT : l.stackTraces = false) (E : En) (ad : Nat → Nat) (V : Mem) (a1 : Int32) (a2 : Int32) (hS : SF E) (k : Nat) (r : Int32) (Vz : Mem) (hf : f_X9_conflictCount V a1 a2 = some (k, r, Vz)) : MX l E ad yX9_conflictCount cX9_conflictCount 3 (some .int) 8 1 6 [.ref (ad 248), .int a1, .int a2] V k (some (.int r)) Vz := by
  refine entX (E := E) (ad := ad) (V := V) "LetterRepository" hT (by decide +kernel) rfl (Nat.le_of_ble_eq_true rfl) ?_
  intro p e s m below meth c ls hC hY hI hl
  have hx := hC.1
  have hb := hC.2.1
  have hl : lv_has ls 3 [(0, .ref (ad 248)), (1, .int a1), (2, .int a2)] := hl
  unfold f_X9_conflictCount at hf
  refine lv_aload_n hx hb dX9_conflictCount_0 rfl (lv_at hl 0 rfl) ?_
  refine lv_iload_n hx hb dX9_conflictCount_1 rfl (lv_at hl 1 rfl) ?_
  refine lv_iload_n hx hb dX9_conflictCount_2 rfl (lv_at hl 2 rfl) ?_
  obtain ⟨q3, V3, e3, hf⟩ := gbw hf
  refine kx_X9_requirePair hS hC hY hI hl.1 e3 tw_5_87 ⟨Nat.le_of_ble_eq_true rfl, Nat.le_of_ble_eq_true rfl⟩ ⟨Nat.le_of_ble_eq_true rfl, Nat.le_of_ble_eq_true rfl⟩ ⟨Nat.le_of_ble_eq_true rfl, Nat.le_of_ble_eq_true rfl⟩ (Nat.le_of_ble_eq_true rfl) dX9_conflictCount_3 (fun h0 => hx3 ((if_neg h0).symm.trans hf)) (fun h0 H locs hI => ?_)
  have hf := (if_pos h0).symm.trans hf
  refine lv_aload_n hx hb dX9_conflictCount_6 rfl (lv_at hl 0 rfl) ?_
  refine g_248_store hC hI tw_1_213 dX9_conflictCount_7 ?_
  refine lv_iload_n hx hb dX9_conflictCount_10 rfl (lv_at hl 1 rfl) ?_
  refine lv_iload_n hx hb dX9_conflictCount_11 rfl (lv_at hl 2 rfl) ?_
  obtain ⟨r12, V12, q12, hf⟩ := gbd hf
  refine k_X8_countConflicts hC hI hl.1 q12 tw_5_92 ⟨Nat.le_of_ble_eq_true rfl, Nat.le_of_ble_eq_true rfl⟩ ⟨Nat.le_of_ble_eq_true rfl, Nat.le_of_ble_eq_true rfl⟩ (Nat.le_of_ble_eq_true rfl) dX9_conflictCount_12 (fun H locs hI => ?_)
  exact x_iret hC hI hf ⟨Nat.le_of_ble_eq_true rfl, Nat.le_of_ble_eq_true rfl⟩ dX9_conflictCount_15
theorem kx_X9_conflictCount {p : Program} {l : Launch} {e : Env} {R : Room} {cells slots mc ms : Nat} {s : State} {m : MethodId} {args : Array Value} {below : List Frame} {meth : Method} {c : Code} {H : Heap} {locs : List Loc} {Qc : Array Value → State → Outcome → State → Prop} {E : En} {ad : Nat → Nat} {V : Mem} {ow : String} {b : ByteArray} {n : Nat} {ret : Option FieldType} {pc index : Nat} {ls : Array Slot} {rest : List Value} {a1 : Int32} {a2 : Int32} {k1 k : Nat} {r : Int32} {V1 Vz : Mem} (hS : SF E) (hC : Cx p s m args c meth E ow b n ret) (hY : Cy l c) (hI : In E ad V s H locs) (hsz : ls.size = n) (hf : f_X9_conflictCount V a1 a2 = some (k1, r, V1)) (hl : Cond.methodLink ow index yX9_conflictCount ∈ TB) (hR : 8 + 1 ≤ R.frames ∧ 8 + (3 + 11) + 40 * 8 ≤ R.locals) (hcs : cells + 1 ≤ R.cells ∧ slots + 6 ≤ R.slots) (hc : cells + 1 ≤ mc ∧ slots + 6 ≤ ms) (hw : (rest.map fun v => v.category).sum ≤ 8) (hdg : decode b pc = .ok (.invokevirtual index, 3)) (hx : k1 ≠ 0 → k1 = k ∧ V1 = Vz) (kk : k1 = 0 → ∀ (H1 : Heap) (locs1 : List Loc), In E ad V1 s H1 locs1 → W p l e R s m args below meth c H1 locs1 (cells + 1) (slots + 6) (vx_MQ below Qc (QX E ad k Vz) args s mc ms (ours E)) (F0 m (pc + 3) ls ((.int r) :: rest))) : W p l e R s m args below meth c H locs cells slots (vx_MQ below Qc (QX E ad k Vz) args s mc ms (ours E)) (F0 m pc ls (.int a2 :: .int a1 :: .ref (ad 248) :: rest)) :=
  after_callX hC hY hI (xrunV_tb (As := [.int a1, .int a2]) (rest := rest) hC hI hsz (m_X9_conflictCount l hY.2 E ad V a1 a2 hS k1 r V1 hf) cv_X9_conflictCount hl (by decide) (ce_248 _) rfl rfl rfl hR hcs hw hdg) hc hx kk

theorem dX9_conflictAt_0 : decode cX9_conflictAt 0 = .ok (.aload_n 0, 1) := by decide +kernel
theorem dX9_conflictAt_1 : decode cX9_conflictAt 1 = .ok (.iload_n 1, 1) := by decide +kernel
theorem dX9_conflictAt_2 : decode cX9_conflictAt 2 = .ok (.iload_n 2, 1) := by decide +kernel
theorem dX9_conflictAt_3 : decode cX9_conflictAt 3 = .ok (.invokevirtual 234, 3) := by decide +kernel
theorem dX9_conflictAt_6 : decode cX9_conflictAt 6 = .ok (.aload_n 0, 1) := by decide +kernel
theorem dX9_conflictAt_7 : decode cX9_conflictAt 7 = .ok (.getfield 10, 3) := by decide +kernel
theorem dX9_conflictAt_10 : decode cX9_conflictAt 10 = .ok (.iload_n 1, 1) := by decide +kernel
theorem dX9_conflictAt_11 : decode cX9_conflictAt 11 = .ok (.iload_n 2, 1) := by decide +kernel
theorem dX9_conflictAt_12 : decode cX9_conflictAt 12 = .ok (.iload_n 3, 1) := by decide +kernel
theorem dX9_conflictAt_13 : decode cX9_conflictAt 13 = .ok (.invokevirtual 241, 3) := by decide +kernel
theorem dX9_conflictAt_16 : decode cX9_conflictAt 16 = .ok (.invokestatic 151, 3) := by decide +kernel
theorem dX9_conflictAt_19 : decode cX9_conflictAt 19 = .ok (.ireturn, 1) := by decide +kernel
def f_X9_conflictAt (V : Mem) (a1 : Int32) (a2 : Int32) (a3 : Int32) : Option (Nat × Int32 × Mem) :=
  bw 0 (f_X9_requirePair V a1 a2) fun V3 =>
  bd (f_X8_conflictField V3 a1 a2 a3) fun r13 V13 =>
  bx 0 (f_X9_requirePresent V13 r13) fun r16 V16 =>
  some (0, r16, V16)
theorem cv_X9_conflictAt : CalV yX9_conflictAt cX9_conflictAt 4 (some .int) 3 := ⟨⟨⟨by decide +kernel, by decide +kernel⟩, tw_1_1, tw_5_99, by decide +kernel⟩, tw_5_97, tw_5_98⟩
set_option maxRecDepth 100000 in
set_option maxHeartbeats 4000000 in
theorem m_X9_conflictAt (l : Launch) (hT : l.stackTraces = false) (E : En) (ad : Nat → Nat) (V : Mem) (a1 : Int32) (a2 : Int32) (a3 : Int32) (hS : SF E) (k : Nat) (r : Int32) (Vz : Mem) (hf : f_X9_conflictAt V a1 a2 a3 = some (k, r, Vz)) : MX l E ad yX9_conflictAt cX9_conflictAt 4 (some .int) 8 2 12 [.ref (ad 248), .int a1, .int a2, .int a3] V k (some (.int r)) Vz := by
  refine entX (E := E) (ad := ad) (V := V) "LetterRepository" hT (by decide +kernel) rfl (Nat.le_of_ble_eq_true rfl) ?_
  intro p e s m below meth c ls hC hY hI hl
  have hx := hC.1
  have hb := hC.2.1
  have hl : lv_has ls 4 [(0, .ref (ad 248)), (1, .int a1), (2, .int a2), (3, .int a3)] := hl
  unfold f_X9_conflictAt at hf
  refine lv_aload_n hx hb dX9_conflictAt_0 rfl (lv_at hl 0 rfl) ?_
  refine lv_iload_n hx hb dX9_conflictAt_1 rfl (lv_at hl 1 rfl) ?_
  refine lv_iload_n hx hb dX9_conflictAt_2 rfl (lv_at hl 2 rfl) ?_
  obtain ⟨q3, V3, e3, hf⟩ := gbw hf
  refine kx_X9_requirePair hS hC hY hI hl.1 e3 tw_5_87 ⟨Nat.le_of_ble_eq_true rfl, Nat.le_of_ble_eq_true rfl⟩ ⟨Nat.le_of_ble_eq_true rfl, Nat.le_of_ble_eq_true rfl⟩ ⟨Nat.le_of_ble_eq_true rfl, Nat.le_of_ble_eq_true rfl⟩ (Nat.le_of_ble_eq_true rfl) dX9_conflictAt_3 (fun h0 => hx3 ((if_neg h0).symm.trans hf)) (fun h0 H locs hI => ?_)
  have hf := (if_pos h0).symm.trans hf
  refine lv_aload_n hx hb dX9_conflictAt_6 rfl (lv_at hl 0 rfl) ?_
  refine g_248_store hC hI tw_1_213 dX9_conflictAt_7 ?_
  refine lv_iload_n hx hb dX9_conflictAt_10 rfl (lv_at hl 1 rfl) ?_
  refine lv_iload_n hx hb dX9_conflictAt_11 rfl (lv_at hl 2 rfl) ?_
  refine lv_iload_n hx hb dX9_conflictAt_12 rfl (lv_at hl 3 rfl) ?_
  obtain ⟨r13, V13, q13, hf⟩ := gbd hf
  refine k_X8_conflictField hC hI hl.1 q13 tw_5_100 ⟨Nat.le_of_ble_eq_true rfl, Nat.le_of_ble_eq_true rfl⟩ ⟨Nat.le_of_ble_eq_true rfl, Nat.le_of_ble_eq_true rfl⟩ (Nat.le_of_ble_eq_true rfl) dX9_conflictAt_13 (fun H locs hI => ?_)
  obtain ⟨q16, r16, V16, e16, hf⟩ := gbx hf
  refine kx_X9_requirePresent hS hC hY hI hl.1 e16 tw_4_142 ⟨Nat.le_of_ble_eq_true rfl, Nat.le_of_ble_eq_true rfl⟩ ⟨Nat.le_of_ble_eq_true rfl, Nat.le_of_ble_eq_true rfl⟩ ⟨Nat.le_of_ble_eq_true rfl, Nat.le_of_ble_eq_true rfl⟩ (Nat.le_of_ble_eq_true rfl) dX9_conflictAt_16 (fun h0 => hx3 ((if_neg h0).symm.trans hf)) (fun h0 H locs hI => ?_)
  have hf := (if_pos h0).symm.trans hf
  exact x_iret hC hI hf ⟨Nat.le_of_ble_eq_true rfl, Nat.le_of_ble_eq_true rfl⟩ dX9_conflictAt_19
theorem kx_X9_conflictAt {p : Program} {l : Launch} {e : Env} {R : Room} {cells slots mc ms : Nat} {s : State} {m : MethodId} {args : Array Value} {below : List Frame} {meth : Method} {c : Code} {H : Heap} {locs : List Loc} {Qc : Array Value → State → Outcome → State → Prop} {E : En} {ad : Nat → Nat} {V : Mem} {ow : String} {b : ByteArray} {n : Nat} {ret : Option FieldType} {pc index : Nat} {ls : Array Slot} {rest : List Value} {a1 : Int32} {a2 : Int32} {a3 : Int32} {k1 k : Nat} {r : Int32} {V1 Vz : Mem} (hS : SF E) (hC : Cx p s m args c meth E ow b n ret) (hY : Cy l c) (hI : In E ad V s H locs) (hsz : ls.size = n) (hf : f_X9_conflictAt V a1 a2 a3 = some (k1, r, V1)) (hl : Cond.methodLink ow index yX9_conflictAt ∈ TB) (hR : 8 + 1 ≤ R.frames ∧ 8 + (4 + 11) + 40 * 8 ≤ R.locals) (hcs : cells + 2 ≤ R.cells ∧ slots + 12 ≤ R.slots) (hc : cells + 2 ≤ mc ∧ slots + 12 ≤ ms) (hw : (rest.map fun v => v.category).sum ≤ 8) (hdg : decode b pc = .ok (.invokevirtual index, 3)) (hx : k1 ≠ 0 → k1 = k ∧ V1 = Vz) (kk : k1 = 0 → ∀ (H1 : Heap) (locs1 : List Loc), In E ad V1 s H1 locs1 → W p l e R s m args below meth c H1 locs1 (cells + 2) (slots + 12) (vx_MQ below Qc (QX E ad k Vz) args s mc ms (ours E)) (F0 m (pc + 3) ls ((.int r) :: rest))) : W p l e R s m args below meth c H locs cells slots (vx_MQ below Qc (QX E ad k Vz) args s mc ms (ours E)) (F0 m pc ls (.int a3 :: .int a2 :: .int a1 :: .ref (ad 248) :: rest)) :=
  after_callX hC hY hI (xrunV_tb (As := [.int a1, .int a2, .int a3]) (rest := rest) hC hI hsz (m_X9_conflictAt l hY.2 E ad V a1 a2 a3 hS k1 r V1 hf) cv_X9_conflictAt hl (by decide) (ce_248 _) rfl rfl rfl hR hcs hw hdg) hc hx kk

theorem dX9_canMerge_0 : decode cX9_canMerge 0 = .ok (.aload_n 0, 1) := by decide +kernel
theorem dX9_canMerge_1 : decode cX9_canMerge 1 = .ok (.iload_n 1, 1) := by decide +kernel
theorem dX9_canMerge_2 : decode cX9_canMerge 2 = .ok (.iload_n 2, 1) := by decide +kernel
theorem dX9_canMerge_3 : decode cX9_canMerge 3 = .ok (.invokevirtual 234, 3) := by decide +kernel
theorem dX9_canMerge_6 : decode cX9_canMerge 6 = .ok (.aload_n 0, 1) := by decide +kernel
theorem dX9_canMerge_7 : decode cX9_canMerge 7 = .ok (.getfield 10, 3) := by decide +kernel
theorem dX9_canMerge_10 : decode cX9_canMerge 10 = .ok (.iload_n 1, 1) := by decide +kernel
theorem dX9_canMerge_11 : decode cX9_canMerge 11 = .ok (.iload_n 2, 1) := by decide +kernel
theorem dX9_canMerge_12 : decode cX9_canMerge 12 = .ok (.invokevirtual 93, 3) := by decide +kernel
theorem dX9_canMerge_15 : decode cX9_canMerge 15 = .ok (.getstatic 244, 3) := by decide +kernel
theorem dX9_canMerge_18 : decode cX9_canMerge 18 = .ok (.if_acmp .ne 7, 3) := by decide +kernel
theorem dX9_canMerge_21 : decode cX9_canMerge 21 = .ok (.iconst 1, 1) := by decide +kernel
theorem dX9_canMerge_22 : decode cX9_canMerge 22 = .ok (.goto 4, 3) := by decide +kernel
theorem dX9_canMerge_25 : decode cX9_canMerge 25 = .ok (.iconst 0, 1) := by decide +kernel
theorem dX9_canMerge_26 : decode cX9_canMerge 26 = .ok (.ireturn, 1) := by decide +kernel
def f_X9_canMerge (V : Mem) (a1 : Int32) (a2 : Int32) : Option (Nat × Int32 × Mem) :=
  bw 0 (f_X9_requirePair V a1 a2) fun V3 =>
  bd (f_X8_refusalOfMerge V3 a1 a2) fun r12 V12 =>
  if r12 < 5 then
    if r12 = 0 then
      some (0, 1, V12)
    else
      some (0, 0, V12)
  else none
theorem cv_X9_canMerge : CalV yX9_canMerge cX9_canMerge 3 (some .boolean) 2 := ⟨⟨⟨by decide +kernel, by decide +kernel⟩, tw_1_1, tw_5_110, by decide +kernel⟩, tw_5_108, tw_5_109⟩
set_option maxRecDepth 100000 in
set_option maxHeartbeats 4000000 in
theorem m_X9_canMerge (l : Launch) (hT : l.stackTraces = false) (E : En) (ad : Nat → Nat) (V : Mem) (a1 : Int32) (a2 : Int32) (hS : SF E) (k : Nat) (r : Int32) (Vz : Mem) (hf : f_X9_canMerge V a1 a2 = some (k, r, Vz)) : MX l E ad yX9_canMerge cX9_canMerge 3 (some .boolean) 8 1 6 [.ref (ad 248), .int a1, .int a2] V k (some (.int r)) Vz := by
  refine entX (E := E) (ad := ad) (V := V) "LetterRepository" hT (by decide +kernel) rfl (Nat.le_of_ble_eq_true rfl) ?_
  intro p e s m below meth c ls hC hY hI hl
  have hx := hC.1
  have hb := hC.2.1
  have hl : lv_has ls 3 [(0, .ref (ad 248)), (1, .int a1), (2, .int a2)] := hl
  unfold f_X9_canMerge at hf
  refine lv_aload_n hx hb dX9_canMerge_0 rfl (lv_at hl 0 rfl) ?_
  refine lv_iload_n hx hb dX9_canMerge_1 rfl (lv_at hl 1 rfl) ?_
  refine lv_iload_n hx hb dX9_canMerge_2 rfl (lv_at hl 2 rfl) ?_
  obtain ⟨q3, V3, e3, hf⟩ := gbw hf
  refine kx_X9_requirePair hS hC hY hI hl.1 e3 tw_5_87 ⟨Nat.le_of_ble_eq_true rfl, Nat.le_of_ble_eq_true rfl⟩ ⟨Nat.le_of_ble_eq_true rfl, Nat.le_of_ble_eq_true rfl⟩ ⟨Nat.le_of_ble_eq_true rfl, Nat.le_of_ble_eq_true rfl⟩ (Nat.le_of_ble_eq_true rfl) dX9_canMerge_3 (fun h0 => hx3 ((if_neg h0).symm.trans hf)) (fun h0 H locs hI => ?_)
  have hf := (if_pos h0).symm.trans hf
  refine lv_aload_n hx hb dX9_canMerge_6 rfl (lv_at hl 0 rfl) ?_
  refine g_248_store hC hI tw_1_213 dX9_canMerge_7 ?_
  refine lv_iload_n hx hb dX9_canMerge_10 rfl (lv_at hl 1 rfl) ?_
  refine lv_iload_n hx hb dX9_canMerge_11 rfl (lv_at hl 2 rfl) ?_
  obtain ⟨r12, V12, q12, hf⟩ := gbd hf
  refine k_X8_refusalOfMerge hS hC hI hl.1 q12 tw_4_13 ⟨Nat.le_of_ble_eq_true rfl, Nat.le_of_ble_eq_true rfl⟩ ⟨Nat.le_of_ble_eq_true rfl, Nat.le_of_ble_eq_true rfl⟩ (Nat.le_of_ble_eq_true rfl) dX9_canMerge_12 (fun H locs hI => ?_)
  refine r_gsR 0 hS hC hI (by decide) tw_5_111 dX9_canMerge_15 ?_
  obtain ⟨b18, hf⟩ := gi hf
  refine r_acR_ne (tgt := 25) hS hC b18 (by decide) dX9_canMerge_18 (by decide) (fun c18 => ?_) (fun c18 => ?_)
  · have hf := gf hf c18
    refine lv_iconst (v := 0) hx hb dX9_canMerge_25 rfl ?_
    exact x_zret hC hI (.inl rfl) hf ⟨Nat.le_of_ble_eq_true rfl, Nat.le_of_ble_eq_true rfl⟩ dX9_canMerge_26
  · have hf := gt hf c18
    refine lv_iconst (v := 1) hx hb dX9_canMerge_21 rfl ?_
    refine lv_goto (tgt := 26) hx hb dX9_canMerge_22 (by decide) ?_
    exact x_zret hC hI (.inr rfl) hf ⟨Nat.le_of_ble_eq_true rfl, Nat.le_of_ble_eq_true rfl⟩ dX9_canMerge_26
theorem kx_X9_canMerge {p : Program} {l : Launch} {e : Env} {R : Room} {cells slots mc ms : Nat} {s : State} {m : MethodId} {args : Array Value} {below : List Frame} {meth : Method} {c : Code} {H : Heap} {locs : List Loc} {Qc : Array Value → State → Outcome → State → Prop} {E : En} {ad : Nat → Nat} {V : Mem} {ow : String} {b : ByteArray} {n : Nat} {ret : Option FieldType} {pc index : Nat} {ls : Array Slot} {rest : List Value} {a1 : Int32} {a2 : Int32} {k1 k : Nat} {r : Int32} {V1 Vz : Mem} (hS : SF E) (hC : Cx p s m args c meth E ow b n ret) (hY : Cy l c) (hI : In E ad V s H locs) (hsz : ls.size = n) (hf : f_X9_canMerge V a1 a2 = some (k1, r, V1)) (hl : Cond.methodLink ow index yX9_canMerge ∈ TB) (hR : 8 + 1 ≤ R.frames ∧ 8 + (3 + 11) + 40 * 8 ≤ R.locals) (hcs : cells + 1 ≤ R.cells ∧ slots + 6 ≤ R.slots) (hc : cells + 1 ≤ mc ∧ slots + 6 ≤ ms) (hw : (rest.map fun v => v.category).sum ≤ 8) (hdg : decode b pc = .ok (.invokevirtual index, 3)) (hx : k1 ≠ 0 → k1 = k ∧ V1 = Vz) (kk : k1 = 0 → ∀ (H1 : Heap) (locs1 : List Loc), In E ad V1 s H1 locs1 → W p l e R s m args below meth c H1 locs1 (cells + 1) (slots + 6) (vx_MQ below Qc (QX E ad k Vz) args s mc ms (ours E)) (F0 m (pc + 3) ls ((.int r) :: rest))) : W p l e R s m args below meth c H locs cells slots (vx_MQ below Qc (QX E ad k Vz) args s mc ms (ours E)) (F0 m pc ls (.int a2 :: .int a1 :: .ref (ad 248) :: rest)) :=
  after_callX hC hY hI (xrunV_tb (As := [.int a1, .int a2]) (rest := rest) hC hI hsz (m_X9_canMerge l hY.2 E ad V a1 a2 hS k1 r V1 hf) cv_X9_canMerge hl (by decide) (ce_248 _) rfl rfl rfl hR hcs hw hdg) hc hx kk

theorem dX9_mergedLetter_0 : decode cX9_mergedLetter 0 = .ok (.iload_n 3, 1) := by decide +kernel
theorem dX9_mergedLetter_1 : decode cX9_mergedLetter 1 = .ok (.invokestatic 163, 3) := by decide +kernel
theorem dX9_mergedLetter_4 : decode cX9_mergedLetter 4 = .ok (.aload_n 0, 1) := by decide +kernel
theorem dX9_mergedLetter_5 : decode cX9_mergedLetter 5 = .ok (.iload_n 1, 1) := by decide +kernel
theorem dX9_mergedLetter_6 : decode cX9_mergedLetter 6 = .ok (.iload_n 2, 1) := by decide +kernel
theorem dX9_mergedLetter_7 : decode cX9_mergedLetter 7 = .ok (.invokevirtual 234, 3) := by decide +kernel
theorem dX9_mergedLetter_10 : decode cX9_mergedLetter 10 = .ok (.aload_n 0, 1) := by decide +kernel
theorem dX9_mergedLetter_11 : decode cX9_mergedLetter 11 = .ok (.getfield 10, 3) := by decide +kernel
theorem dX9_mergedLetter_14 : decode cX9_mergedLetter 14 = .ok (.iload_n 1, 1) := by decide +kernel
theorem dX9_mergedLetter_15 : decode cX9_mergedLetter 15 = .ok (.iload_n 2, 1) := by decide +kernel
theorem dX9_mergedLetter_16 : decode cX9_mergedLetter 16 = .ok (.iload_n 3, 1) := by decide +kernel
theorem dX9_mergedLetter_17 : decode cX9_mergedLetter 17 = .ok (.invokevirtual 250, 3) := by decide +kernel
theorem dX9_mergedLetter_20 : decode cX9_mergedLetter 20 = .ok (.istore 4, 2) := by decide +kernel
theorem dX9_mergedLetter_22 : decode cX9_mergedLetter 22 = .ok (.iload 4, 2) := by decide +kernel
theorem dX9_mergedLetter_24 : decode cX9_mergedLetter 24 = .ok (.bipush 63, 2) := by decide +kernel
theorem dX9_mergedLetter_26 : decode cX9_mergedLetter 26 = .ok (.if_icmp .ne 13, 3) := by decide +kernel
theorem dX9_mergedLetter_29 : decode cX9_mergedLetter 29 = .ok (.new 253, 3) := by decide +kernel
theorem dX9_mergedLetter_32 : decode cX9_mergedLetter 32 = .ok (.dup, 1) := by decide +kernel
theorem dX9_mergedLetter_33 : decode cX9_mergedLetter 33 = .ok (.ldc 255, 2) := by decide +kernel
theorem dX9_mergedLetter_35 : decode cX9_mergedLetter 35 = .ok (.invokespecial 257, 3) := by decide +kernel
theorem dX9_mergedLetter_38 : decode cX9_mergedLetter 38 = .ok (.athrow, 1) := by decide +kernel
theorem dX9_mergedLetter_39 : decode cX9_mergedLetter 39 = .ok (.iload 4, 2) := by decide +kernel
theorem dX9_mergedLetter_41 : decode cX9_mergedLetter 41 = .ok (.i2c, 1) := by decide +kernel
theorem dX9_mergedLetter_42 : decode cX9_mergedLetter 42 = .ok (.ireturn, 1) := by decide +kernel
def f_X9_mergedLetter (V : Mem) (a1 : Int32) (a2 : Int32) (a3 : Int32) : Option (Nat × Int32 × Mem) :=
  bw 0 (f_X9_requireField V a3) fun V1 =>
  bw 0 (f_X9_requirePair V1 a1 a2) fun V7 =>
  bd (f_X8_mergedSign V7 a1 a2 a3) fun r17 V17 =>
  if r17 = 63 then
    some (3, 0, V17)
  else
    some (0, (((r17 : Int32).toUInt32 % 65536).toInt32), V17)
theorem cv_X9_mergedLetter : CalV yX9_mergedLetter cX9_mergedLetter 5 (some .char) 3 := ⟨⟨⟨by decide +kernel, by decide +kernel⟩, tw_1_1, tw_5_118, by decide +kernel⟩, tw_5_116, tw_5_117⟩
set_option maxRecDepth 100000 in
set_option maxHeartbeats 4000000 in
theorem m_X9_mergedLetter (l : Launch) (hT : l.stackTraces = false) (E : En) (ad : Nat → Nat) (V : Mem) (a1 : Int32) (a2 : Int32) (a3 : Int32) (hS : SF E) (k : Nat) (r : Int32) (Vz : Mem) (hf : f_X9_mergedLetter V a1 a2 a3 = some (k, r, Vz)) : MX l E ad yX9_mergedLetter cX9_mergedLetter 5 (some .char) 8 3 18 [.ref (ad 248), .int a1, .int a2, .int a3] V k (some (.int r)) Vz := by
  refine entX (E := E) (ad := ad) (V := V) "LetterRepository" hT (by decide +kernel) rfl (Nat.le_of_ble_eq_true rfl) ?_
  intro p e s m below meth c ls hC hY hI hl
  have hx := hC.1
  have hb := hC.2.1
  have hl : lv_has ls 5 [(0, .ref (ad 248)), (1, .int a1), (2, .int a2), (3, .int a3)] := hl
  unfold f_X9_mergedLetter at hf
  refine lv_iload_n hx hb dX9_mergedLetter_0 rfl (lv_at hl 3 rfl) ?_
  obtain ⟨q1, V1, e1, hf⟩ := gbw hf
  refine kx_X9_requireField hS hC hY hI hl.1 e1 tw_4_177 ⟨Nat.le_of_ble_eq_true rfl, Nat.le_of_ble_eq_true rfl⟩ ⟨Nat.le_of_ble_eq_true rfl, Nat.le_of_ble_eq_true rfl⟩ ⟨Nat.le_of_ble_eq_true rfl, Nat.le_of_ble_eq_true rfl⟩ (Nat.le_of_ble_eq_true rfl) dX9_mergedLetter_1 (fun h0 => hx3 ((if_neg h0).symm.trans hf)) (fun h0 H locs hI => ?_)
  have hf := (if_pos h0).symm.trans hf
  refine lv_aload_n hx hb dX9_mergedLetter_4 rfl (lv_at hl 0 rfl) ?_
  refine lv_iload_n hx hb dX9_mergedLetter_5 rfl (lv_at hl 1 rfl) ?_
  refine lv_iload_n hx hb dX9_mergedLetter_6 rfl (lv_at hl 2 rfl) ?_
  obtain ⟨q7, V7, e7, hf⟩ := gbw hf
  refine kx_X9_requirePair hS hC hY hI hl.1 e7 tw_5_87 ⟨Nat.le_of_ble_eq_true rfl, Nat.le_of_ble_eq_true rfl⟩ ⟨Nat.le_of_ble_eq_true rfl, Nat.le_of_ble_eq_true rfl⟩ ⟨Nat.le_of_ble_eq_true rfl, Nat.le_of_ble_eq_true rfl⟩ (Nat.le_of_ble_eq_true rfl) dX9_mergedLetter_7 (fun h0 => hx3 ((if_neg h0).symm.trans hf)) (fun h0 H locs hI => ?_)
  have hf := (if_pos h0).symm.trans hf
  refine lv_aload_n hx hb dX9_mergedLetter_10 rfl (lv_at hl 0 rfl) ?_
  refine g_248_store hC hI tw_1_213 dX9_mergedLetter_11 ?_
  refine lv_iload_n hx hb dX9_mergedLetter_14 rfl (lv_at hl 1 rfl) ?_
  refine lv_iload_n hx hb dX9_mergedLetter_15 rfl (lv_at hl 2 rfl) ?_
  refine lv_iload_n hx hb dX9_mergedLetter_16 rfl (lv_at hl 3 rfl) ?_
  obtain ⟨r17, V17, q17, hf⟩ := gbd hf
  refine k_X8_mergedSign hC hI hl.1 q17 tw_5_119 ⟨Nat.le_of_ble_eq_true rfl, Nat.le_of_ble_eq_true rfl⟩ ⟨Nat.le_of_ble_eq_true rfl, Nat.le_of_ble_eq_true rfl⟩ (Nat.le_of_ble_eq_true rfl) dX9_mergedLetter_17 (fun H locs hI => ?_)
  refine lv_istore (lv' := [(4, .int r17), (0, .ref (ad 248)), (1, .int a1), (2, .int a2), (3, .int a3)]) hx hb dX9_mergedLetter_20 hl (Nat.lt_of_lt_of_eq (by decide) rfl) rfl (fun ls hl => ?_)
  refine lv_iload hx hb dX9_mergedLetter_22 (lv_at hl 0 rfl) ?_
  refine lv_bipush (v := 63) hx hb dX9_mergedLetter_24 rfl ?_
  refine lv_icmp_ne (tgt := 39) hx hb dX9_mergedLetter_26 (by decide) (fun c26 => ?_) (fun c26 => ?_)
  · have hf := gf hf c26
    refine lv_iload hx hb dX9_mergedLetter_39 (lv_at hl 0 rfl) ?_
    refine lv_i2c hx hb dX9_mergedLetter_41 rfl ?_
    exact x_cret hC hI hf ⟨Nat.le_of_ble_eq_true rfl, Nat.le_of_ble_eq_true rfl⟩ dX9_mergedLetter_42
  · have hf := gt hf c26
    exact x_thr3 hS hC hY hI hl.1 (List.Mem.tail _ (List.Mem.head _)) (hx3 hf) ⟨Nat.le_of_ble_eq_true rfl, Nat.le_of_ble_eq_true rfl, Nat.le_of_ble_eq_true rfl, Nat.le_of_ble_eq_true rfl⟩ ⟨Nat.le_of_ble_eq_true rfl, Nat.le_of_ble_eq_true rfl⟩ dX9_mergedLetter_29 dX9_mergedLetter_32 dX9_mergedLetter_33 dX9_mergedLetter_35 dX9_mergedLetter_38
theorem kx_X9_mergedLetter {p : Program} {l : Launch} {e : Env} {R : Room} {cells slots mc ms : Nat} {s : State} {m : MethodId} {args : Array Value} {below : List Frame} {meth : Method} {c : Code} {H : Heap} {locs : List Loc} {Qc : Array Value → State → Outcome → State → Prop} {E : En} {ad : Nat → Nat} {V : Mem} {ow : String} {b : ByteArray} {n : Nat} {ret : Option FieldType} {pc index : Nat} {ls : Array Slot} {rest : List Value} {a1 : Int32} {a2 : Int32} {a3 : Int32} {k1 k : Nat} {r : Int32} {V1 Vz : Mem} (hS : SF E) (hC : Cx p s m args c meth E ow b n ret) (hY : Cy l c) (hI : In E ad V s H locs) (hsz : ls.size = n) (hf : f_X9_mergedLetter V a1 a2 a3 = some (k1, r, V1)) (hl : Cond.methodLink ow index yX9_mergedLetter ∈ TB) (hR : 8 + 1 ≤ R.frames ∧ 8 + (5 + 11) + 40 * 8 ≤ R.locals) (hcs : cells + 3 ≤ R.cells ∧ slots + 18 ≤ R.slots) (hc : cells + 3 ≤ mc ∧ slots + 18 ≤ ms) (hw : (rest.map fun v => v.category).sum ≤ 8) (hdg : decode b pc = .ok (.invokevirtual index, 3)) (hx : k1 ≠ 0 → k1 = k ∧ V1 = Vz) (kk : k1 = 0 → ∀ (H1 : Heap) (locs1 : List Loc), In E ad V1 s H1 locs1 → W p l e R s m args below meth c H1 locs1 (cells + 3) (slots + 18) (vx_MQ below Qc (QX E ad k Vz) args s mc ms (ours E)) (F0 m (pc + 3) ls ((.int r) :: rest))) : W p l e R s m args below meth c H locs cells slots (vx_MQ below Qc (QX E ad k Vz) args s mc ms (ours E)) (F0 m pc ls (.int a3 :: .int a2 :: .int a1 :: .ref (ad 248) :: rest)) :=
  after_callX hC hY hI (xrunV_tb (As := [.int a1, .int a2, .int a3]) (rest := rest) hC hI hsz (m_X9_mergedLetter l hY.2 E ad V a1 a2 a3 hS k1 r V1 hf) cv_X9_mergedLetter hl (by decide) (ce_248 _) rfl rfl rfl hR hcs hw hdg) hc hx kk

theorem dX9_canPick_0 : decode cX9_canPick 0 = .ok (.aload_n 0, 1) := by decide +kernel
theorem dX9_canPick_1 : decode cX9_canPick 1 = .ok (.iload_n 1, 1) := by decide +kernel
theorem dX9_canPick_2 : decode cX9_canPick 2 = .ok (.invokevirtual 216, 3) := by decide +kernel
theorem dX9_canPick_5 : decode cX9_canPick 5 = .ok (.aload_n 0, 1) := by decide +kernel
theorem dX9_canPick_6 : decode cX9_canPick 6 = .ok (.iload_n 2, 1) := by decide +kernel
theorem dX9_canPick_7 : decode cX9_canPick 7 = .ok (.invokevirtual 140, 3) := by decide +kernel
theorem dX9_canPick_10 : decode cX9_canPick 10 = .ok (.aload_n 0, 1) := by decide +kernel
theorem dX9_canPick_11 : decode cX9_canPick 11 = .ok (.getfield 10, 3) := by decide +kernel
theorem dX9_canPick_14 : decode cX9_canPick 14 = .ok (.iload_n 1, 1) := by decide +kernel
theorem dX9_canPick_15 : decode cX9_canPick 15 = .ok (.iload_n 2, 1) := by decide +kernel
theorem dX9_canPick_16 : decode cX9_canPick 16 = .ok (.invokevirtual 103, 3) := by decide +kernel
theorem dX9_canPick_19 : decode cX9_canPick 19 = .ok (.getstatic 244, 3) := by decide +kernel
theorem dX9_canPick_22 : decode cX9_canPick 22 = .ok (.if_acmp .ne 7, 3) := by decide +kernel
theorem dX9_canPick_25 : decode cX9_canPick 25 = .ok (.iconst 1, 1) := by decide +kernel
theorem dX9_canPick_26 : decode cX9_canPick 26 = .ok (.goto 4, 3) := by decide +kernel
theorem dX9_canPick_29 : decode cX9_canPick 29 = .ok (.iconst 0, 1) := by decide +kernel
theorem dX9_canPick_30 : decode cX9_canPick 30 = .ok (.ireturn, 1) := by decide +kernel
def f_X9_canPick (V : Mem) (a1 : Int32) (a2 : Int32) : Option (Nat × Int32 × Mem) :=
  bw 0 (f_X9_requireBranch V a1) fun V2 =>
  bw 0 (f_X9_requireRevision V2 a2) fun V7 =>
  bd (f_X8_refusalOfPick V7 a1 a2) fun r16 V16 =>
  if r16 < 5 then
    if r16 = 0 then
      some (0, 1, V16)
    else
      some (0, 0, V16)
  else none
theorem cv_X9_canPick : CalV yX9_canPick cX9_canPick 3 (some .boolean) 2 := ⟨⟨⟨by decide +kernel, by decide +kernel⟩, tw_1_1, tw_5_127, by decide +kernel⟩, tw_5_125, tw_5_126⟩
set_option maxRecDepth 100000 in
set_option maxHeartbeats 4000000 in
theorem m_X9_canPick (l : Launch) (hT : l.stackTraces = false) (E : En) (ad : Nat → Nat) (V : Mem) (a1 : Int32) (a2 : Int32) (hS : SF E) (k : Nat) (r : Int32) (Vz : Mem) (hf : f_X9_canPick V a1 a2 = some (k, r, Vz)) : MX l E ad yX9_canPick cX9_canPick 3 (some .boolean) 7 2 12 [.ref (ad 248), .int a1, .int a2] V k (some (.int r)) Vz := by
  refine entX (E := E) (ad := ad) (V := V) "LetterRepository" hT (by decide +kernel) rfl (Nat.le_of_ble_eq_true rfl) ?_
  intro p e s m below meth c ls hC hY hI hl
  have hx := hC.1
  have hb := hC.2.1
  have hl : lv_has ls 3 [(0, .ref (ad 248)), (1, .int a1), (2, .int a2)] := hl
  unfold f_X9_canPick at hf
  refine lv_aload_n hx hb dX9_canPick_0 rfl (lv_at hl 0 rfl) ?_
  refine lv_iload_n hx hb dX9_canPick_1 rfl (lv_at hl 1 rfl) ?_
  obtain ⟨q2, V2, e2, hf⟩ := gbw hf
  refine kx_X9_requireBranch hS hC hY hI hl.1 e2 tw_5_33 ⟨Nat.le_of_ble_eq_true rfl, Nat.le_of_ble_eq_true rfl⟩ ⟨Nat.le_of_ble_eq_true rfl, Nat.le_of_ble_eq_true rfl⟩ ⟨Nat.le_of_ble_eq_true rfl, Nat.le_of_ble_eq_true rfl⟩ (Nat.le_of_ble_eq_true rfl) dX9_canPick_2 (fun h0 => hx3 ((if_neg h0).symm.trans hf)) (fun h0 H locs hI => ?_)
  have hf := (if_pos h0).symm.trans hf
  refine lv_aload_n hx hb dX9_canPick_5 rfl (lv_at hl 0 rfl) ?_
  refine lv_iload_n hx hb dX9_canPick_6 rfl (lv_at hl 2 rfl) ?_
  obtain ⟨q7, V7, e7, hf⟩ := gbw hf
  refine kx_X9_requireRevision hS hC hY hI hl.1 e7 tw_4_127 ⟨Nat.le_of_ble_eq_true rfl, Nat.le_of_ble_eq_true rfl⟩ ⟨Nat.le_of_ble_eq_true rfl, Nat.le_of_ble_eq_true rfl⟩ ⟨Nat.le_of_ble_eq_true rfl, Nat.le_of_ble_eq_true rfl⟩ (Nat.le_of_ble_eq_true rfl) dX9_canPick_7 (fun h0 => hx3 ((if_neg h0).symm.trans hf)) (fun h0 H locs hI => ?_)
  have hf := (if_pos h0).symm.trans hf
  refine lv_aload_n hx hb dX9_canPick_10 rfl (lv_at hl 0 rfl) ?_
  refine g_248_store hC hI tw_1_213 dX9_canPick_11 ?_
  refine lv_iload_n hx hb dX9_canPick_14 rfl (lv_at hl 1 rfl) ?_
  refine lv_iload_n hx hb dX9_canPick_15 rfl (lv_at hl 2 rfl) ?_
  obtain ⟨r16, V16, q16, hf⟩ := gbd hf
  refine k_X8_refusalOfPick hS hC hI hl.1 q16 tw_4_54 ⟨Nat.le_of_ble_eq_true rfl, Nat.le_of_ble_eq_true rfl⟩ ⟨Nat.le_of_ble_eq_true rfl, Nat.le_of_ble_eq_true rfl⟩ (Nat.le_of_ble_eq_true rfl) dX9_canPick_16 (fun H locs hI => ?_)
  refine r_gsR 0 hS hC hI (by decide) tw_5_111 dX9_canPick_19 ?_
  obtain ⟨b22, hf⟩ := gi hf
  refine r_acR_ne (tgt := 29) hS hC b22 (by decide) dX9_canPick_22 (by decide) (fun c22 => ?_) (fun c22 => ?_)
  · have hf := gf hf c22
    refine lv_iconst (v := 0) hx hb dX9_canPick_29 rfl ?_
    exact x_zret hC hI (.inl rfl) hf ⟨Nat.le_of_ble_eq_true rfl, Nat.le_of_ble_eq_true rfl⟩ dX9_canPick_30
  · have hf := gt hf c22
    refine lv_iconst (v := 1) hx hb dX9_canPick_25 rfl ?_
    refine lv_goto (tgt := 30) hx hb dX9_canPick_26 (by decide) ?_
    exact x_zret hC hI (.inr rfl) hf ⟨Nat.le_of_ble_eq_true rfl, Nat.le_of_ble_eq_true rfl⟩ dX9_canPick_30
theorem kx_X9_canPick {p : Program} {l : Launch} {e : Env} {R : Room} {cells slots mc ms : Nat} {s : State} {m : MethodId} {args : Array Value} {below : List Frame} {meth : Method} {c : Code} {H : Heap} {locs : List Loc} {Qc : Array Value → State → Outcome → State → Prop} {E : En} {ad : Nat → Nat} {V : Mem} {ow : String} {b : ByteArray} {n : Nat} {ret : Option FieldType} {pc index : Nat} {ls : Array Slot} {rest : List Value} {a1 : Int32} {a2 : Int32} {k1 k : Nat} {r : Int32} {V1 Vz : Mem} (hS : SF E) (hC : Cx p s m args c meth E ow b n ret) (hY : Cy l c) (hI : In E ad V s H locs) (hsz : ls.size = n) (hf : f_X9_canPick V a1 a2 = some (k1, r, V1)) (hl : Cond.methodLink ow index yX9_canPick ∈ TB) (hR : 7 + 1 ≤ R.frames ∧ 8 + (3 + 11) + 40 * 7 ≤ R.locals) (hcs : cells + 2 ≤ R.cells ∧ slots + 12 ≤ R.slots) (hc : cells + 2 ≤ mc ∧ slots + 12 ≤ ms) (hw : (rest.map fun v => v.category).sum ≤ 8) (hdg : decode b pc = .ok (.invokevirtual index, 3)) (hx : k1 ≠ 0 → k1 = k ∧ V1 = Vz) (kk : k1 = 0 → ∀ (H1 : Heap) (locs1 : List Loc), In E ad V1 s H1 locs1 → W p l e R s m args below meth c H1 locs1 (cells + 2) (slots + 12) (vx_MQ below Qc (QX E ad k Vz) args s mc ms (ours E)) (F0 m (pc + 3) ls ((.int r) :: rest))) : W p l e R s m args below meth c H locs cells slots (vx_MQ below Qc (QX E ad k Vz) args s mc ms (ours E)) (F0 m pc ls (.int a2 :: .int a1 :: .ref (ad 248) :: rest)) :=
  after_callX hC hY hI (xrunV_tb (As := [.int a1, .int a2]) (rest := rest) hC hI hsz (m_X9_canPick l hY.2 E ad V a1 a2 hS k1 r V1 hf) cv_X9_canPick hl (by decide) (ce_248 _) rfl rfl rfl hR hcs hw hdg) hc hx kk

theorem dX9_tagCount_0 : decode cX9_tagCount 0 = .ok (.aload_n 0, 1) := by decide +kernel
theorem dX9_tagCount_1 : decode cX9_tagCount 1 = .ok (.getfield 10, 3) := by decide +kernel
theorem dX9_tagCount_4 : decode cX9_tagCount 4 = .ok (.invokevirtual 258, 3) := by decide +kernel
theorem dX9_tagCount_7 : decode cX9_tagCount 7 = .ok (.ireturn, 1) := by decide +kernel
def f_X9_tagCount (V : Mem) : Option (Int32 × Mem) :=
  bd (f_X8_countTags V) fun r4 V4 =>
  some (r4, V4)
theorem cv_X9_tagCount : CalV yX9_tagCount cX9_tagCount 1 (some .int) 0 := ⟨⟨⟨by decide +kernel, by decide +kernel⟩, tw_1_1, tw_2_113, by decide +kernel⟩, tw_2_111, tw_2_112⟩
set_option maxRecDepth 100000 in
set_option maxHeartbeats 4000000 in
theorem m_X9_tagCount (l : Launch) (E : En) (ad : Nat → Nat) (V : Mem) (r : Int32) (Vz : Mem) (hf : f_X9_tagCount V = some (r, Vz)) : MR l E ad yX9_tagCount cX9_tagCount 1 (some .int) 4 [.ref (ad 248)] V (some (.int r)) Vz := by
  refine ent (E := E) (ad := ad) (V := V) "LetterRepository" (by decide +kernel) rfl (Nat.le_of_ble_eq_true rfl) ?_
  intro p e s m below meth c ls hC hI hl
  have hx := hC.1
  have hb := hC.2.1
  have hl : lv_has ls 1 [(0, .ref (ad 248))] := hl
  unfold f_X9_tagCount at hf
  refine lv_aload_n hx hb dX9_tagCount_0 rfl (lv_at hl 0 rfl) ?_
  refine g_248_store hC hI tw_1_213 dX9_tagCount_1 ?_
  obtain ⟨r4, V4, q4, hf⟩ := gbd hf
  refine k_X8_countTags hC hI hl.1 q4 tw_2_114 ⟨Nat.le_of_ble_eq_true rfl, Nat.le_of_ble_eq_true rfl⟩ ⟨Nat.le_refl _, Nat.le_refl _⟩ (Nat.le_of_ble_eq_true rfl) dX9_tagCount_4 (fun H locs hI => ?_)
  exact r_iret2 hC hI hf dX9_tagCount_7
theorem k_X9_tagCount {p : Program} {l : Launch} {e : Env} {R : Room} {cells slots : Nat} {s : State} {m : MethodId} {args : Array Value} {below : List Frame} {meth : Method} {c : Code} {H : Heap} {locs : List Loc} {Q : State → Prop} {E : En} {ad : Nat → Nat} {V : Mem} {ow : String} {b : ByteArray} {n : Nat} {ret : Option FieldType} {pc index : Nat} {ls : Array Slot} {rest : List Value} {r : Int32} {V1 : Mem} (hC : Cx p s m args c meth E ow b n ret) (hI : In E ad V s H locs) (hsz : ls.size = n) (hf : f_X9_tagCount V = some (r, V1)) (hl : Cond.methodLink ow index yX9_tagCount ∈ TB) (hR : 4 + 1 ≤ R.frames ∧ 8 + (1 + 11) + 40 * 4 ≤ R.locals) (hcs : cells ≤ R.cells ∧ slots ≤ R.slots) (hw : (rest.map fun v => v.category).sum ≤ 8) (hdg : decode b pc = .ok (.invokevirtual index, 3)) (kk : ∀ (H1 : Heap) (locs1 : List Loc), In E ad V1 s H1 locs1 → W p l e R s m args below meth c H1 locs1 cells slots Q (F0 m (pc + 3) ls ((.int r) :: rest))) : W p l e R s m args below meth c H locs cells slots Q (F0 m pc ls (.ref (ad 248) :: rest)) :=
  r_calV (As := []) (rest := rest) hC hI hsz (m_X9_tagCount l E ad V r _ hf) cv_X9_tagCount hl (by decide) (ce_248 _) rfl rfl rfl hR hcs hw hdg kk

theorem dX9_taggedRevision_0 : decode cX9_taggedRevision 0 = .ok (.aload_n 0, 1) := by decide +kernel
theorem dX9_taggedRevision_1 : decode cX9_taggedRevision 1 = .ok (.getfield 10, 3) := by decide +kernel
theorem dX9_taggedRevision_4 : decode cX9_taggedRevision 4 = .ok (.iload_n 1, 1) := by decide +kernel
theorem dX9_taggedRevision_5 : decode cX9_taggedRevision 5 = .ok (.invokevirtual 261, 3) := by decide +kernel
theorem dX9_taggedRevision_8 : decode cX9_taggedRevision 8 = .ok (.invokestatic 151, 3) := by decide +kernel
theorem dX9_taggedRevision_11 : decode cX9_taggedRevision 11 = .ok (.ireturn, 1) := by decide +kernel
def f_X9_taggedRevision (V : Mem) (a1 : Int32) : Option (Nat × Int32 × Mem) :=
  bd (f_X8_revisionWithTag V a1) fun r5 V5 =>
  bx 0 (f_X9_requirePresent V5 r5) fun r8 V8 =>
  some (0, r8, V8)
theorem cv_X9_taggedRevision : CalV yX9_taggedRevision cX9_taggedRevision 2 (some .int) 1 := ⟨⟨⟨by decide +kernel, by decide +kernel⟩, tw_1_1, tw_5_134, by decide +kernel⟩, tw_5_132, tw_5_133⟩
set_option maxRecDepth 100000 in
set_option maxHeartbeats 4000000 in
theorem m_X9_taggedRevision (l : Launch) (hT : l.stackTraces = false) (E : En) (ad : Nat → Nat) (V : Mem) (a1 : Int32) (hS : SF E) (k : Nat) (r : Int32) (Vz : Mem) (hf : f_X9_taggedRevision V a1 = some (k, r, Vz)) : MX l E ad yX9_taggedRevision cX9_taggedRevision 2 (some .int) 7 1 6 [.ref (ad 248), .int a1] V k (some (.int r)) Vz := by
  refine entX (E := E) (ad := ad) (V := V) "LetterRepository" hT (by decide +kernel) rfl (Nat.le_of_ble_eq_true rfl) ?_
  intro p e s m below meth c ls hC hY hI hl
  have hx := hC.1
  have hb := hC.2.1
  have hl : lv_has ls 2 [(0, .ref (ad 248)), (1, .int a1)] := hl
  unfold f_X9_taggedRevision at hf
  refine lv_aload_n hx hb dX9_taggedRevision_0 rfl (lv_at hl 0 rfl) ?_
  refine g_248_store hC hI tw_1_213 dX9_taggedRevision_1 ?_
  refine lv_iload_n hx hb dX9_taggedRevision_4 rfl (lv_at hl 1 rfl) ?_
  obtain ⟨r5, V5, q5, hf⟩ := gbd hf
  refine k_X8_revisionWithTag hC hI hl.1 q5 tw_5_135 ⟨Nat.le_of_ble_eq_true rfl, Nat.le_of_ble_eq_true rfl⟩ ⟨Nat.le_of_ble_eq_true rfl, Nat.le_of_ble_eq_true rfl⟩ (Nat.le_of_ble_eq_true rfl) dX9_taggedRevision_5 (fun H locs hI => ?_)
  obtain ⟨q8, r8, V8, e8, hf⟩ := gbx hf
  refine kx_X9_requirePresent hS hC hY hI hl.1 e8 tw_4_142 ⟨Nat.le_of_ble_eq_true rfl, Nat.le_of_ble_eq_true rfl⟩ ⟨Nat.le_of_ble_eq_true rfl, Nat.le_of_ble_eq_true rfl⟩ ⟨Nat.le_of_ble_eq_true rfl, Nat.le_of_ble_eq_true rfl⟩ (Nat.le_of_ble_eq_true rfl) dX9_taggedRevision_8 (fun h0 => hx3 ((if_neg h0).symm.trans hf)) (fun h0 H locs hI => ?_)
  have hf := (if_pos h0).symm.trans hf
  exact x_iret hC hI hf ⟨Nat.le_of_ble_eq_true rfl, Nat.le_of_ble_eq_true rfl⟩ dX9_taggedRevision_11
theorem kx_X9_taggedRevision {p : Program} {l : Launch} {e : Env} {R : Room} {cells slots mc ms : Nat} {s : State} {m : MethodId} {args : Array Value} {below : List Frame} {meth : Method} {c : Code} {H : Heap} {locs : List Loc} {Qc : Array Value → State → Outcome → State → Prop} {E : En} {ad : Nat → Nat} {V : Mem} {ow : String} {b : ByteArray} {n : Nat} {ret : Option FieldType} {pc index : Nat} {ls : Array Slot} {rest : List Value} {a1 : Int32} {k1 k : Nat} {r : Int32} {V1 Vz : Mem} (hS : SF E) (hC : Cx p s m args c meth E ow b n ret) (hY : Cy l c) (hI : In E ad V s H locs) (hsz : ls.size = n) (hf : f_X9_taggedRevision V a1 = some (k1, r, V1)) (hl : Cond.methodLink ow index yX9_taggedRevision ∈ TB) (hR : 7 + 1 ≤ R.frames ∧ 8 + (2 + 11) + 40 * 7 ≤ R.locals) (hcs : cells + 1 ≤ R.cells ∧ slots + 6 ≤ R.slots) (hc : cells + 1 ≤ mc ∧ slots + 6 ≤ ms) (hw : (rest.map fun v => v.category).sum ≤ 8) (hdg : decode b pc = .ok (.invokevirtual index, 3)) (hx : k1 ≠ 0 → k1 = k ∧ V1 = Vz) (kk : k1 = 0 → ∀ (H1 : Heap) (locs1 : List Loc), In E ad V1 s H1 locs1 → W p l e R s m args below meth c H1 locs1 (cells + 1) (slots + 6) (vx_MQ below Qc (QX E ad k Vz) args s mc ms (ours E)) (F0 m (pc + 3) ls ((.int r) :: rest))) : W p l e R s m args below meth c H locs cells slots (vx_MQ below Qc (QX E ad k Vz) args s mc ms (ours E)) (F0 m pc ls (.int a1 :: .ref (ad 248) :: rest)) :=
  after_callX hC hY hI (xrunV_tb (As := [.int a1]) (rest := rest) hC hI hsz (m_X9_taggedRevision l hY.2 E ad V a1 hS k1 r V1 hf) cv_X9_taggedRevision hl (by decide) (ce_248 _) rfl rfl rfl hR hcs hw hdg) hc hx kk

theorem dX9_tagOf_0 : decode cX9_tagOf 0 = .ok (.aload_n 0, 1) := by decide +kernel
theorem dX9_tagOf_1 : decode cX9_tagOf 1 = .ok (.iload_n 1, 1) := by decide +kernel
theorem dX9_tagOf_2 : decode cX9_tagOf 2 = .ok (.invokevirtual 140, 3) := by decide +kernel
theorem dX9_tagOf_5 : decode cX9_tagOf 5 = .ok (.aload_n 0, 1) := by decide +kernel
theorem dX9_tagOf_6 : decode cX9_tagOf 6 = .ok (.getfield 10, 3) := by decide +kernel
theorem dX9_tagOf_9 : decode cX9_tagOf 9 = .ok (.iload_n 1, 1) := by decide +kernel
theorem dX9_tagOf_10 : decode cX9_tagOf 10 = .ok (.invokevirtual 264, 3) := by decide +kernel
theorem dX9_tagOf_13 : decode cX9_tagOf 13 = .ok (.invokestatic 151, 3) := by decide +kernel
theorem dX9_tagOf_16 : decode cX9_tagOf 16 = .ok (.i2c, 1) := by decide +kernel
theorem dX9_tagOf_17 : decode cX9_tagOf 17 = .ok (.ireturn, 1) := by decide +kernel
def f_X9_tagOf (V : Mem) (a1 : Int32) : Option (Nat × Int32 × Mem) :=
  bw 0 (f_X9_requireRevision V a1) fun V2 =>
  bd (f_X8_firstTagOf V2 a1) fun r10 V10 =>
  bx 0 (f_X9_requirePresent V10 r10) fun r13 V13 =>
  some (0, (((r13 : Int32).toUInt32 % 65536).toInt32), V13)
theorem cv_X9_tagOf : CalV yX9_tagOf cX9_tagOf 2 (some .char) 1 := ⟨⟨⟨by decide +kernel, by decide +kernel⟩, tw_1_1, tw_5_142, by decide +kernel⟩, tw_5_140, tw_5_141⟩
set_option maxRecDepth 100000 in
set_option maxHeartbeats 4000000 in
theorem m_X9_tagOf (l : Launch) (hT : l.stackTraces = false) (E : En) (ad : Nat → Nat) (V : Mem) (a1 : Int32) (hS : SF E) (k : Nat) (r : Int32) (Vz : Mem) (hf : f_X9_tagOf V a1 = some (k, r, Vz)) : MX l E ad yX9_tagOf cX9_tagOf 2 (some .char) 7 2 12 [.ref (ad 248), .int a1] V k (some (.int r)) Vz := by
  refine entX (E := E) (ad := ad) (V := V) "LetterRepository" hT (by decide +kernel) rfl (Nat.le_of_ble_eq_true rfl) ?_
  intro p e s m below meth c ls hC hY hI hl
  have hx := hC.1
  have hb := hC.2.1
  have hl : lv_has ls 2 [(0, .ref (ad 248)), (1, .int a1)] := hl
  unfold f_X9_tagOf at hf
  refine lv_aload_n hx hb dX9_tagOf_0 rfl (lv_at hl 0 rfl) ?_
  refine lv_iload_n hx hb dX9_tagOf_1 rfl (lv_at hl 1 rfl) ?_
  obtain ⟨q2, V2, e2, hf⟩ := gbw hf
  refine kx_X9_requireRevision hS hC hY hI hl.1 e2 tw_4_127 ⟨Nat.le_of_ble_eq_true rfl, Nat.le_of_ble_eq_true rfl⟩ ⟨Nat.le_of_ble_eq_true rfl, Nat.le_of_ble_eq_true rfl⟩ ⟨Nat.le_of_ble_eq_true rfl, Nat.le_of_ble_eq_true rfl⟩ (Nat.le_of_ble_eq_true rfl) dX9_tagOf_2 (fun h0 => hx3 ((if_neg h0).symm.trans hf)) (fun h0 H locs hI => ?_)
  have hf := (if_pos h0).symm.trans hf
  refine lv_aload_n hx hb dX9_tagOf_5 rfl (lv_at hl 0 rfl) ?_
  refine g_248_store hC hI tw_1_213 dX9_tagOf_6 ?_
  refine lv_iload_n hx hb dX9_tagOf_9 rfl (lv_at hl 1 rfl) ?_
  obtain ⟨r10, V10, q10, hf⟩ := gbd hf
  refine k_X8_firstTagOf hC hI hl.1 q10 tw_5_143 ⟨Nat.le_of_ble_eq_true rfl, Nat.le_of_ble_eq_true rfl⟩ ⟨Nat.le_of_ble_eq_true rfl, Nat.le_of_ble_eq_true rfl⟩ (Nat.le_of_ble_eq_true rfl) dX9_tagOf_10 (fun H locs hI => ?_)
  obtain ⟨q13, r13, V13, e13, hf⟩ := gbx hf
  refine kx_X9_requirePresent hS hC hY hI hl.1 e13 tw_4_142 ⟨Nat.le_of_ble_eq_true rfl, Nat.le_of_ble_eq_true rfl⟩ ⟨Nat.le_of_ble_eq_true rfl, Nat.le_of_ble_eq_true rfl⟩ ⟨Nat.le_of_ble_eq_true rfl, Nat.le_of_ble_eq_true rfl⟩ (Nat.le_of_ble_eq_true rfl) dX9_tagOf_13 (fun h0 => hx3 ((if_neg h0).symm.trans hf)) (fun h0 H locs hI => ?_)
  have hf := (if_pos h0).symm.trans hf
  refine lv_i2c hx hb dX9_tagOf_16 rfl ?_
  exact x_cret hC hI hf ⟨Nat.le_of_ble_eq_true rfl, Nat.le_of_ble_eq_true rfl⟩ dX9_tagOf_17
theorem kx_X9_tagOf {p : Program} {l : Launch} {e : Env} {R : Room} {cells slots mc ms : Nat} {s : State} {m : MethodId} {args : Array Value} {below : List Frame} {meth : Method} {c : Code} {H : Heap} {locs : List Loc} {Qc : Array Value → State → Outcome → State → Prop} {E : En} {ad : Nat → Nat} {V : Mem} {ow : String} {b : ByteArray} {n : Nat} {ret : Option FieldType} {pc index : Nat} {ls : Array Slot} {rest : List Value} {a1 : Int32} {k1 k : Nat} {r : Int32} {V1 Vz : Mem} (hS : SF E) (hC : Cx p s m args c meth E ow b n ret) (hY : Cy l c) (hI : In E ad V s H locs) (hsz : ls.size = n) (hf : f_X9_tagOf V a1 = some (k1, r, V1)) (hl : Cond.methodLink ow index yX9_tagOf ∈ TB) (hR : 7 + 1 ≤ R.frames ∧ 8 + (2 + 11) + 40 * 7 ≤ R.locals) (hcs : cells + 2 ≤ R.cells ∧ slots + 12 ≤ R.slots) (hc : cells + 2 ≤ mc ∧ slots + 12 ≤ ms) (hw : (rest.map fun v => v.category).sum ≤ 8) (hdg : decode b pc = .ok (.invokevirtual index, 3)) (hx : k1 ≠ 0 → k1 = k ∧ V1 = Vz) (kk : k1 = 0 → ∀ (H1 : Heap) (locs1 : List Loc), In E ad V1 s H1 locs1 → W p l e R s m args below meth c H1 locs1 (cells + 2) (slots + 12) (vx_MQ below Qc (QX E ad k Vz) args s mc ms (ours E)) (F0 m (pc + 3) ls ((.int r) :: rest))) : W p l e R s m args below meth c H locs cells slots (vx_MQ below Qc (QX E ad k Vz) args s mc ms (ours E)) (F0 m pc ls (.int a1 :: .ref (ad 248) :: rest)) :=
  after_callX hC hY hI (xrunV_tb (As := [.int a1]) (rest := rest) hC hI hsz (m_X9_tagOf l hY.2 E ad V a1 hS k1 r V1 hf) cv_X9_tagOf hl (by decide) (ce_248 _) rfl rfl rfl hR hcs hw hdg) hc hx kk

theorem dX9_usedCount_0 : decode cX9_usedCount 0 = .ok (.aload_n 0, 1) := by decide +kernel
theorem dX9_usedCount_1 : decode cX9_usedCount 1 = .ok (.getfield 10, 3) := by decide +kernel
theorem dX9_usedCount_4 : decode cX9_usedCount 4 = .ok (.invokevirtual 267, 3) := by decide +kernel
theorem dX9_usedCount_7 : decode cX9_usedCount 7 = .ok (.invokestatic 176, 3) := by decide +kernel
theorem dX9_usedCount_10 : decode cX9_usedCount 10 = .ok (.ireturn, 1) := by decide +kernel
def f_X9_usedCount (V : Mem) : Option (Int32 × Mem) :=
  bd (f_X8_usedSet V) fun r4 V4 =>
  bd (f_J6_bitCount_0f7a4 V4 r4) fun r7 V7 =>
  some (r7, V7)
theorem cv_X9_usedCount : CalV yX9_usedCount cX9_usedCount 1 (some .int) 0 := ⟨⟨⟨by decide +kernel, by decide +kernel⟩, tw_1_1, tw_2_121, by decide +kernel⟩, tw_2_119, tw_2_120⟩
set_option maxRecDepth 100000 in
set_option maxHeartbeats 4000000 in
theorem m_X9_usedCount (l : Launch) (E : En) (ad : Nat → Nat) (V : Mem) (r : Int32) (Vz : Mem) (hf : f_X9_usedCount V = some (r, Vz)) : MR l E ad yX9_usedCount cX9_usedCount 1 (some .int) 31 [.ref (ad 248)] V (some (.int r)) Vz := by
  refine ent (E := E) (ad := ad) (V := V) "LetterRepository" (by decide +kernel) rfl (Nat.le_of_ble_eq_true rfl) ?_
  intro p e s m below meth c ls hC hI hl
  have hx := hC.1
  have hb := hC.2.1
  have hl : lv_has ls 1 [(0, .ref (ad 248))] := hl
  unfold f_X9_usedCount at hf
  refine lv_aload_n hx hb dX9_usedCount_0 rfl (lv_at hl 0 rfl) ?_
  refine g_248_store hC hI tw_1_213 dX9_usedCount_1 ?_
  obtain ⟨r4, V4, q4, hf⟩ := gbd hf
  refine k_X8_usedSet hC hI hl.1 q4 tw_2_122 ⟨Nat.le_of_ble_eq_true rfl, Nat.le_of_ble_eq_true rfl⟩ ⟨Nat.le_refl _, Nat.le_refl _⟩ (Nat.le_of_ble_eq_true rfl) dX9_usedCount_4 (fun H locs hI => ?_)
  obtain ⟨r7, V7, q7, hf⟩ := gbd hf
  refine k_J6_bitCount_0f7a4 hC hI hl.1 q7 tw_2_123 ⟨Nat.le_of_ble_eq_true rfl, Nat.le_of_ble_eq_true rfl⟩ ⟨Nat.le_refl _, Nat.le_refl _⟩ (Nat.le_of_ble_eq_true rfl) dX9_usedCount_7 (fun H locs hI => ?_)
  exact r_iret2 hC hI hf dX9_usedCount_10
theorem k_X9_usedCount {p : Program} {l : Launch} {e : Env} {R : Room} {cells slots : Nat} {s : State} {m : MethodId} {args : Array Value} {below : List Frame} {meth : Method} {c : Code} {H : Heap} {locs : List Loc} {Q : State → Prop} {E : En} {ad : Nat → Nat} {V : Mem} {ow : String} {b : ByteArray} {n : Nat} {ret : Option FieldType} {pc index : Nat} {ls : Array Slot} {rest : List Value} {r : Int32} {V1 : Mem} (hC : Cx p s m args c meth E ow b n ret) (hI : In E ad V s H locs) (hsz : ls.size = n) (hf : f_X9_usedCount V = some (r, V1)) (hl : Cond.methodLink ow index yX9_usedCount ∈ TB) (hR : 31 + 1 ≤ R.frames ∧ 8 + (1 + 11) + 40 * 31 ≤ R.locals) (hcs : cells ≤ R.cells ∧ slots ≤ R.slots) (hw : (rest.map fun v => v.category).sum ≤ 8) (hdg : decode b pc = .ok (.invokevirtual index, 3)) (kk : ∀ (H1 : Heap) (locs1 : List Loc), In E ad V1 s H1 locs1 → W p l e R s m args below meth c H1 locs1 cells slots Q (F0 m (pc + 3) ls ((.int r) :: rest))) : W p l e R s m args below meth c H locs cells slots Q (F0 m pc ls (.ref (ad 248) :: rest)) :=
  r_calV (As := []) (rest := rest) hC hI hsz (m_X9_usedCount l E ad V r _ hf) cv_X9_usedCount hl (by decide) (ce_248 _) rfl rfl rfl hR hcs hw hdg kk

theorem dX9_usedCountByMarks_0 : decode cX9_usedCountByMarks 0 = .ok (.aload_n 0, 1) := by decide +kernel
theorem dX9_usedCountByMarks_1 : decode cX9_usedCountByMarks 1 = .ok (.getfield 10, 3) := by decide +kernel
theorem dX9_usedCountByMarks_4 : decode cX9_usedCountByMarks 4 = .ok (.invokevirtual 270, 3) := by decide +kernel
theorem dX9_usedCountByMarks_7 : decode cX9_usedCountByMarks 7 = .ok (.ireturn, 1) := by decide +kernel
def f_X9_usedCountByMarks (V : Mem) : Option (Int32 × Mem) :=
  bd (f_X8_countUsedByMarks V) fun r4 V4 =>
  some (r4, V4)
theorem cv_X9_usedCountByMarks : CalV yX9_usedCountByMarks cX9_usedCountByMarks 1 (some .int) 0 := ⟨⟨⟨by decide +kernel, by decide +kernel⟩, tw_1_1, tw_2_127, by decide +kernel⟩, tw_2_125, tw_2_126⟩
set_option maxRecDepth 100000 in
set_option maxHeartbeats 4000000 in
theorem m_X9_usedCountByMarks (l : Launch) (E : En) (ad : Nat → Nat) (V : Mem) (r : Int32) (Vz : Mem) (hf : f_X9_usedCountByMarks V = some (r, Vz)) : MR l E ad yX9_usedCountByMarks cX9_usedCountByMarks 1 (some .int) 6 [.ref (ad 248)] V (some (.int r)) Vz := by
  refine ent (E := E) (ad := ad) (V := V) "LetterRepository" (by decide +kernel) rfl (Nat.le_of_ble_eq_true rfl) ?_
  intro p e s m below meth c ls hC hI hl
  have hx := hC.1
  have hb := hC.2.1
  have hl : lv_has ls 1 [(0, .ref (ad 248))] := hl
  unfold f_X9_usedCountByMarks at hf
  refine lv_aload_n hx hb dX9_usedCountByMarks_0 rfl (lv_at hl 0 rfl) ?_
  refine g_248_store hC hI tw_1_213 dX9_usedCountByMarks_1 ?_
  obtain ⟨r4, V4, q4, hf⟩ := gbd hf
  refine k_X8_countUsedByMarks hC hI hl.1 q4 tw_2_128 ⟨Nat.le_of_ble_eq_true rfl, Nat.le_of_ble_eq_true rfl⟩ ⟨Nat.le_refl _, Nat.le_refl _⟩ (Nat.le_of_ble_eq_true rfl) dX9_usedCountByMarks_4 (fun H locs hI => ?_)
  exact r_iret2 hC hI hf dX9_usedCountByMarks_7
theorem k_X9_usedCountByMarks {p : Program} {l : Launch} {e : Env} {R : Room} {cells slots : Nat} {s : State} {m : MethodId} {args : Array Value} {below : List Frame} {meth : Method} {c : Code} {H : Heap} {locs : List Loc} {Q : State → Prop} {E : En} {ad : Nat → Nat} {V : Mem} {ow : String} {b : ByteArray} {n : Nat} {ret : Option FieldType} {pc index : Nat} {ls : Array Slot} {rest : List Value} {r : Int32} {V1 : Mem} (hC : Cx p s m args c meth E ow b n ret) (hI : In E ad V s H locs) (hsz : ls.size = n) (hf : f_X9_usedCountByMarks V = some (r, V1)) (hl : Cond.methodLink ow index yX9_usedCountByMarks ∈ TB) (hR : 6 + 1 ≤ R.frames ∧ 8 + (1 + 11) + 40 * 6 ≤ R.locals) (hcs : cells ≤ R.cells ∧ slots ≤ R.slots) (hw : (rest.map fun v => v.category).sum ≤ 8) (hdg : decode b pc = .ok (.invokevirtual index, 3)) (kk : ∀ (H1 : Heap) (locs1 : List Loc), In E ad V1 s H1 locs1 → W p l e R s m args below meth c H1 locs1 cells slots Q (F0 m (pc + 3) ls ((.int r) :: rest))) : W p l e R s m args below meth c H locs cells slots Q (F0 m pc ls (.ref (ad 248) :: rest)) :=
  r_calV (As := []) (rest := rest) hC hI hsz (m_X9_usedCountByMarks l E ad V r _ hf) cv_X9_usedCountByMarks hl (by decide) (ce_248 _) rfl rfl rfl hR hcs hw hdg kk

theorem dX9_meanGeneration_0 : decode cX9_meanGeneration 0 = .ok (.aload_n 0, 1) := by decide +kernel
theorem dX9_meanGeneration_1 : decode cX9_meanGeneration 1 = .ok (.getfield 10, 3) := by decide +kernel
theorem dX9_meanGeneration_4 : decode cX9_meanGeneration 4 = .ok (.getfield 131, 3) := by decide +kernel
theorem dX9_meanGeneration_7 : decode cX9_meanGeneration 7 = .ok (.invokevirtual 273, 3) := by decide +kernel
theorem dX9_meanGeneration_10 : decode cX9_meanGeneration 10 = .ok (.dreturn, 1) := by decide +kernel
def f_X9_meanGeneration (V : Mem) : Option (UInt64 × Mem) :=
  bd (f_X6_meanOfGenerations V) fun r7 V7 =>
  some (r7, V7)
theorem cv_X9_meanGeneration : CalV yX9_meanGeneration cX9_meanGeneration 1 (some .double) 0 := ⟨⟨⟨by decide +kernel, by decide +kernel⟩, tw_1_1, tw_2_143, by decide +kernel⟩, tw_2_141, tw_2_142⟩
set_option maxRecDepth 100000 in
set_option maxHeartbeats 4000000 in
theorem m_X9_meanGeneration (l : Launch) (E : En) (ad : Nat → Nat) (V : Mem) (r : UInt64) (Vz : Mem) (hf : f_X9_meanGeneration V = some (r, Vz)) : MR l E ad yX9_meanGeneration cX9_meanGeneration 1 (some .double) 4 [.ref (ad 248)] V (some (.double r)) Vz := by
  refine ent (E := E) (ad := ad) (V := V) "LetterRepository" (by decide +kernel) rfl (Nat.le_of_ble_eq_true rfl) ?_
  intro p e s m below meth c ls hC hI hl
  have hx := hC.1
  have hb := hC.2.1
  have hl : lv_has ls 1 [(0, .ref (ad 248))] := hl
  unfold f_X9_meanGeneration at hf
  refine lv_aload_n hx hb dX9_meanGeneration_0 rfl (lv_at hl 0 rfl) ?_
  refine g_248_store hC hI tw_1_213 dX9_meanGeneration_1 ?_
  refine gN_0_revisions hC hI tw_1_100 dX9_meanGeneration_4 ?_
  obtain ⟨r7, V7, q7, hf⟩ := gbd hf
  refine k_X6_meanOfGenerations hC hI hl.1 q7 tw_2_144 ⟨Nat.le_of_ble_eq_true rfl, Nat.le_of_ble_eq_true rfl⟩ ⟨Nat.le_refl _, Nat.le_refl _⟩ (Nat.le_of_ble_eq_true rfl) dX9_meanGeneration_7 (fun H locs hI => ?_)
  exact r_dret2 hC hI hf dX9_meanGeneration_10
theorem k_X9_meanGeneration {p : Program} {l : Launch} {e : Env} {R : Room} {cells slots : Nat} {s : State} {m : MethodId} {args : Array Value} {below : List Frame} {meth : Method} {c : Code} {H : Heap} {locs : List Loc} {Q : State → Prop} {E : En} {ad : Nat → Nat} {V : Mem} {ow : String} {b : ByteArray} {n : Nat} {ret : Option FieldType} {pc index : Nat} {ls : Array Slot} {rest : List Value} {r : UInt64} {V1 : Mem} (hC : Cx p s m args c meth E ow b n ret) (hI : In E ad V s H locs) (hsz : ls.size = n) (hf : f_X9_meanGeneration V = some (r, V1)) (hl : Cond.methodLink ow index yX9_meanGeneration ∈ TB) (hR : 4 + 1 ≤ R.frames ∧ 8 + (1 + 11) + 40 * 4 ≤ R.locals) (hcs : cells ≤ R.cells ∧ slots ≤ R.slots) (hw : (rest.map fun v => v.category).sum ≤ 8) (hdg : decode b pc = .ok (.invokevirtual index, 3)) (kk : ∀ (H1 : Heap) (locs1 : List Loc), In E ad V1 s H1 locs1 → W p l e R s m args below meth c H1 locs1 cells slots Q (F0 m (pc + 3) ls ((.double r) :: rest))) : W p l e R s m args below meth c H locs cells slots Q (F0 m pc ls (.ref (ad 248) :: rest)) :=
  r_calV (As := []) (rest := rest) hC hI hsz (m_X9_meanGeneration l E ad V r _ hf) cv_X9_meanGeneration hl (by decide) (ce_248 _) rfl rfl rfl hR hcs hw hdg kk

theorem dX9_archivedShare_0 : decode cX9_archivedShare 0 = .ok (.aload_n 0, 1) := by decide +kernel
theorem dX9_archivedShare_1 : decode cX9_archivedShare 1 = .ok (.getfield 10, 3) := by decide +kernel
theorem dX9_archivedShare_4 : decode cX9_archivedShare 4 = .ok (.getfield 131, 3) := by decide +kernel
theorem dX9_archivedShare_7 : decode cX9_archivedShare 7 = .ok (.invokevirtual 277, 3) := by decide +kernel
theorem dX9_archivedShare_10 : decode cX9_archivedShare 10 = .ok (.freturn, 1) := by decide +kernel
def f_X9_archivedShare (V : Mem) : Option (UInt32 × Mem) :=
  bd (f_X6_shareOfArchived V) fun r7 V7 =>
  some (r7, V7)
theorem cv_X9_archivedShare : CalV yX9_archivedShare cX9_archivedShare 1 (some .float) 0 := ⟨⟨⟨by decide +kernel, by decide +kernel⟩, tw_1_1, tw_2_155, by decide +kernel⟩, tw_2_153, tw_2_154⟩
set_option maxRecDepth 100000 in
set_option maxHeartbeats 4000000 in
theorem m_X9_archivedShare (l : Launch) (E : En) (ad : Nat → Nat) (V : Mem) (r : UInt32) (Vz : Mem) (hf : f_X9_archivedShare V = some (r, Vz)) : MR l E ad yX9_archivedShare cX9_archivedShare 1 (some .float) 3 [.ref (ad 248)] V (some (.float r)) Vz := by
  refine ent (E := E) (ad := ad) (V := V) "LetterRepository" (by decide +kernel) rfl (Nat.le_of_ble_eq_true rfl) ?_
  intro p e s m below meth c ls hC hI hl
  have hx := hC.1
  have hb := hC.2.1
  have hl : lv_has ls 1 [(0, .ref (ad 248))] := hl
  unfold f_X9_archivedShare at hf
  refine lv_aload_n hx hb dX9_archivedShare_0 rfl (lv_at hl 0 rfl) ?_
  refine g_248_store hC hI tw_1_213 dX9_archivedShare_1 ?_
  refine gN_0_revisions hC hI tw_1_100 dX9_archivedShare_4 ?_
  obtain ⟨r7, V7, q7, hf⟩ := gbd hf
  refine k_X6_shareOfArchived hC hI hl.1 q7 tw_2_156 ⟨Nat.le_of_ble_eq_true rfl, Nat.le_of_ble_eq_true rfl⟩ ⟨Nat.le_refl _, Nat.le_refl _⟩ (Nat.le_of_ble_eq_true rfl) dX9_archivedShare_7 (fun H locs hI => ?_)
  exact r_fret2 hC hI hf dX9_archivedShare_10
theorem k_X9_archivedShare {p : Program} {l : Launch} {e : Env} {R : Room} {cells slots : Nat} {s : State} {m : MethodId} {args : Array Value} {below : List Frame} {meth : Method} {c : Code} {H : Heap} {locs : List Loc} {Q : State → Prop} {E : En} {ad : Nat → Nat} {V : Mem} {ow : String} {b : ByteArray} {n : Nat} {ret : Option FieldType} {pc index : Nat} {ls : Array Slot} {rest : List Value} {r : UInt32} {V1 : Mem} (hC : Cx p s m args c meth E ow b n ret) (hI : In E ad V s H locs) (hsz : ls.size = n) (hf : f_X9_archivedShare V = some (r, V1)) (hl : Cond.methodLink ow index yX9_archivedShare ∈ TB) (hR : 3 + 1 ≤ R.frames ∧ 8 + (1 + 11) + 40 * 3 ≤ R.locals) (hcs : cells ≤ R.cells ∧ slots ≤ R.slots) (hw : (rest.map fun v => v.category).sum ≤ 8) (hdg : decode b pc = .ok (.invokevirtual index, 3)) (kk : ∀ (H1 : Heap) (locs1 : List Loc), In E ad V1 s H1 locs1 → W p l e R s m args below meth c H1 locs1 cells slots Q (F0 m (pc + 3) ls ((.float r) :: rest))) : W p l e R s m args below meth c H locs cells slots Q (F0 m pc ls (.ref (ad 248) :: rest)) :=
  r_calV (As := []) (rest := rest) hC hI hsz (m_X9_archivedShare l E ad V r _ hf) cv_X9_archivedShare hl (by decide) (ce_248 _) rfl rfl rfl hR hcs hw hdg kk

theorem dX9_isConsistent_0 : decode cX9_isConsistent 0 = .ok (.aload_n 0, 1) := by decide +kernel
theorem dX9_isConsistent_1 : decode cX9_isConsistent 1 = .ok (.getfield 10, 3) := by decide +kernel
theorem dX9_isConsistent_4 : decode cX9_isConsistent 4 = .ok (.invokevirtual 281, 3) := by decide +kernel
theorem dX9_isConsistent_7 : decode cX9_isConsistent 7 = .ok (.ifCond .eq 58, 3) := by decide +kernel
theorem dX9_isConsistent_10 : decode cX9_isConsistent 10 = .ok (.aload_n 0, 1) := by decide +kernel
theorem dX9_isConsistent_11 : decode cX9_isConsistent 11 = .ok (.getfield 10, 3) := by decide +kernel
theorem dX9_isConsistent_14 : decode cX9_isConsistent 14 = .ok (.invokevirtual 285, 3) := by decide +kernel
theorem dX9_isConsistent_17 : decode cX9_isConsistent 17 = .ok (.ifCond .eq 48, 3) := by decide +kernel
theorem dX9_isConsistent_20 : decode cX9_isConsistent 20 = .ok (.aload_n 0, 1) := by decide +kernel
theorem dX9_isConsistent_21 : decode cX9_isConsistent 21 = .ok (.getfield 10, 3) := by decide +kernel
theorem dX9_isConsistent_24 : decode cX9_isConsistent 24 = .ok (.invokevirtual 267, 3) := by decide +kernel
theorem dX9_isConsistent_27 : decode cX9_isConsistent 27 = .ok (.invokestatic 176, 3) := by decide +kernel
theorem dX9_isConsistent_30 : decode cX9_isConsistent 30 = .ok (.aload_n 0, 1) := by decide +kernel
theorem dX9_isConsistent_31 : decode cX9_isConsistent 31 = .ok (.getfield 10, 3) := by decide +kernel
theorem dX9_isConsistent_34 : decode cX9_isConsistent 34 = .ok (.invokevirtual 270, 3) := by decide +kernel
theorem dX9_isConsistent_37 : decode cX9_isConsistent 37 = .ok (.if_icmp .ne 28, 3) := by decide +kernel
theorem dX9_isConsistent_40 : decode cX9_isConsistent 40 = .ok (.aload_n 0, 1) := by decide +kernel
theorem dX9_isConsistent_41 : decode cX9_isConsistent 41 = .ok (.getfield 10, 3) := by decide +kernel
theorem dX9_isConsistent_44 : decode cX9_isConsistent 44 = .ok (.invokevirtual 267, 3) := by decide +kernel
theorem dX9_isConsistent_47 : decode cX9_isConsistent 47 = .ok (.aload_n 0, 1) := by decide +kernel
theorem dX9_isConsistent_48 : decode cX9_isConsistent 48 = .ok (.getfield 10, 3) := by decide +kernel
theorem dX9_isConsistent_51 : decode cX9_isConsistent 51 = .ok (.getfield 131, 3) := by decide +kernel
theorem dX9_isConsistent_54 : decode cX9_isConsistent 54 = .ok (.getfield 288, 3) := by decide +kernel
theorem dX9_isConsistent_57 : decode cX9_isConsistent 57 = .ok (.iand, 1) := by decide +kernel
theorem dX9_isConsistent_58 : decode cX9_isConsistent 58 = .ok (.ifCond .ne 7, 3) := by decide +kernel
theorem dX9_isConsistent_61 : decode cX9_isConsistent 61 = .ok (.iconst 1, 1) := by decide +kernel
theorem dX9_isConsistent_62 : decode cX9_isConsistent 62 = .ok (.goto 4, 3) := by decide +kernel
theorem dX9_isConsistent_65 : decode cX9_isConsistent 65 = .ok (.iconst 0, 1) := by decide +kernel
theorem dX9_isConsistent_66 : decode cX9_isConsistent 66 = .ok (.ireturn, 1) := by decide +kernel
def f_X9_isConsistent (V : Mem) : Option (Int32 × Mem) :=
  bd (f_X8_ancestorsAgree V) fun r4 V4 =>
  if r4 = 0 then
    some (0, V4)
  else
    bd (f_X8_originsAgree V4) fun r14 V14 =>
    if r14 = 0 then
      some (0, V14)
    else
      bd (f_X8_usedSet V14) fun r24 V24 =>
      bd (f_J6_bitCount_0f7a4 V24 r24) fun r27 V27 =>
      bd (f_X8_countUsedByMarks V27) fun r34 V34 =>
      if r27 = r34 then
        bd (f_X8_usedSet V34) fun r44 V44 =>
        if (r44 &&& (V44 1 0)) = 0 then
          some (1, V44)
        else
          some (0, V44)
      else
        some (0, V34)
theorem cv_X9_isConsistent : CalV yX9_isConsistent cX9_isConsistent 1 (some .boolean) 0 := ⟨⟨⟨by decide +kernel, by decide +kernel⟩, tw_1_1, tw_2_164, by decide +kernel⟩, tw_2_162, tw_2_163⟩
set_option maxRecDepth 100000 in
set_option maxHeartbeats 4000000 in
theorem m_X9_isConsistent (l : Launch) (E : En) (ad : Nat → Nat) (V : Mem) (r : Int32) (Vz : Mem) (hf : f_X9_isConsistent V = some (r, Vz)) : MR l E ad yX9_isConsistent cX9_isConsistent 1 (some .boolean) 32 [.ref (ad 248)] V (some (.int r)) Vz := by
  refine ent (E := E) (ad := ad) (V := V) "LetterRepository" (by decide +kernel) rfl (Nat.le_of_ble_eq_true rfl) ?_
  intro p e s m below meth c ls hC hI hl
  have hx := hC.1
  have hb := hC.2.1
  have hl : lv_has ls 1 [(0, .ref (ad 248))] := hl
  unfold f_X9_isConsistent at hf
  refine lv_aload_n hx hb dX9_isConsistent_0 rfl (lv_at hl 0 rfl) ?_
  refine g_248_store hC hI tw_1_213 dX9_isConsistent_1 ?_
  obtain ⟨r4, V4, q4, hf⟩ := gbd hf
  refine k_X8_ancestorsAgree hC hI hl.1 q4 tw_2_165 ⟨Nat.le_of_ble_eq_true rfl, Nat.le_of_ble_eq_true rfl⟩ ⟨Nat.le_refl _, Nat.le_refl _⟩ (Nat.le_of_ble_eq_true rfl) dX9_isConsistent_4 (fun H locs hI => ?_)
  refine lv_if_eq (tgt := 65) hx hb dX9_isConsistent_7 (by decide) (fun c7 => ?_) (fun c7 => ?_)
  · have hf := gt hf c7
    refine lv_iconst (v := 0) hx hb dX9_isConsistent_65 rfl ?_
    exact r_zret2 hC hI (.inl rfl) hf dX9_isConsistent_66
  · have hf := gf hf c7
    refine lv_aload_n hx hb dX9_isConsistent_10 rfl (lv_at hl 0 rfl) ?_
    refine g_248_store hC hI tw_1_213 dX9_isConsistent_11 ?_
    obtain ⟨r14, V14, q14, hf⟩ := gbd hf
    refine k_X8_originsAgree hC hI hl.1 q14 tw_2_181 ⟨Nat.le_of_ble_eq_true rfl, Nat.le_of_ble_eq_true rfl⟩ ⟨Nat.le_refl _, Nat.le_refl _⟩ (Nat.le_of_ble_eq_true rfl) dX9_isConsistent_14 (fun H locs hI => ?_)
    refine lv_if_eq (tgt := 65) hx hb dX9_isConsistent_17 (by decide) (fun c17 => ?_) (fun c17 => ?_)
    · have hf := gt hf c17
      refine lv_iconst (v := 0) hx hb dX9_isConsistent_65 rfl ?_
      exact r_zret2 hC hI (.inl rfl) hf dX9_isConsistent_66
    · have hf := gf hf c17
      refine lv_aload_n hx hb dX9_isConsistent_20 rfl (lv_at hl 0 rfl) ?_
      refine g_248_store hC hI tw_1_213 dX9_isConsistent_21 ?_
      obtain ⟨r24, V24, q24, hf⟩ := gbd hf
      refine k_X8_usedSet hC hI hl.1 q24 tw_2_122 ⟨Nat.le_of_ble_eq_true rfl, Nat.le_of_ble_eq_true rfl⟩ ⟨Nat.le_refl _, Nat.le_refl _⟩ (Nat.le_of_ble_eq_true rfl) dX9_isConsistent_24 (fun H locs hI => ?_)
      obtain ⟨r27, V27, q27, hf⟩ := gbd hf
      refine k_J6_bitCount_0f7a4 hC hI hl.1 q27 tw_2_123 ⟨Nat.le_of_ble_eq_true rfl, Nat.le_of_ble_eq_true rfl⟩ ⟨Nat.le_refl _, Nat.le_refl _⟩ (Nat.le_of_ble_eq_true rfl) dX9_isConsistent_27 (fun H locs hI => ?_)
      refine lv_aload_n hx hb dX9_isConsistent_30 rfl (lv_at hl 0 rfl) ?_
      refine g_248_store hC hI tw_1_213 dX9_isConsistent_31 ?_
      obtain ⟨r34, V34, q34, hf⟩ := gbd hf
      refine k_X8_countUsedByMarks hC hI hl.1 q34 tw_2_128 ⟨Nat.le_of_ble_eq_true rfl, Nat.le_of_ble_eq_true rfl⟩ ⟨Nat.le_refl _, Nat.le_refl _⟩ (Nat.le_of_ble_eq_true rfl) dX9_isConsistent_34 (fun H locs hI => ?_)
      refine lv_icmp_ne (tgt := 65) hx hb dX9_isConsistent_37 (by decide) (fun c37 => ?_) (fun c37 => ?_)
      · have hf := gf hf c37
        refine lv_iconst (v := 0) hx hb dX9_isConsistent_65 rfl ?_
        exact r_zret2 hC hI (.inl rfl) hf dX9_isConsistent_66
      · have hf := gt hf c37
        refine lv_aload_n hx hb dX9_isConsistent_40 rfl (lv_at hl 0 rfl) ?_
        refine g_248_store hC hI tw_1_213 dX9_isConsistent_41 ?_
        obtain ⟨r44, V44, q44, hf⟩ := gbd hf
        refine k_X8_usedSet hC hI hl.1 q44 tw_2_122 ⟨Nat.le_of_ble_eq_true rfl, Nat.le_of_ble_eq_true rfl⟩ ⟨Nat.le_refl _, Nat.le_refl _⟩ (Nat.le_of_ble_eq_true rfl) dX9_isConsistent_44 (fun H locs hI => ?_)
        refine lv_aload_n hx hb dX9_isConsistent_47 rfl (lv_at hl 0 rfl) ?_
        refine g_248_store hC hI tw_1_213 dX9_isConsistent_48 ?_
        refine gN_0_revisions hC hI tw_1_100 dX9_isConsistent_51 ?_
        refine gN_1_archived hC hI tw_1_76 dX9_isConsistent_54 ?_
        refine lv_iand hx hb dX9_isConsistent_57 ?_
        refine lv_if_ne (tgt := 65) hx hb dX9_isConsistent_58 (by decide) (fun c58 => ?_) (fun c58 => ?_)
        · have hf := gf hf c58
          refine lv_iconst (v := 0) hx hb dX9_isConsistent_65 rfl ?_
          exact r_zret2 hC hI (.inl rfl) hf dX9_isConsistent_66
        · have hf := gt hf c58
          refine lv_iconst (v := 1) hx hb dX9_isConsistent_61 rfl ?_
          refine lv_goto (tgt := 66) hx hb dX9_isConsistent_62 (by decide) ?_
          exact r_zret2 hC hI (.inr rfl) hf dX9_isConsistent_66
theorem k_X9_isConsistent {p : Program} {l : Launch} {e : Env} {R : Room} {cells slots : Nat} {s : State} {m : MethodId} {args : Array Value} {below : List Frame} {meth : Method} {c : Code} {H : Heap} {locs : List Loc} {Q : State → Prop} {E : En} {ad : Nat → Nat} {V : Mem} {ow : String} {b : ByteArray} {n : Nat} {ret : Option FieldType} {pc index : Nat} {ls : Array Slot} {rest : List Value} {r : Int32} {V1 : Mem} (hC : Cx p s m args c meth E ow b n ret) (hI : In E ad V s H locs) (hsz : ls.size = n) (hf : f_X9_isConsistent V = some (r, V1)) (hl : Cond.methodLink ow index yX9_isConsistent ∈ TB) (hR : 32 + 1 ≤ R.frames ∧ 8 + (1 + 11) + 40 * 32 ≤ R.locals) (hcs : cells ≤ R.cells ∧ slots ≤ R.slots) (hw : (rest.map fun v => v.category).sum ≤ 8) (hdg : decode b pc = .ok (.invokevirtual index, 3)) (kk : ∀ (H1 : Heap) (locs1 : List Loc), In E ad V1 s H1 locs1 → W p l e R s m args below meth c H1 locs1 cells slots Q (F0 m (pc + 3) ls ((.int r) :: rest))) : W p l e R s m args below meth c H locs cells slots Q (F0 m pc ls (.ref (ad 248) :: rest)) :=
  r_calV (As := []) (rest := rest) hC hI hsz (m_X9_isConsistent l E ad V r _ hf) cv_X9_isConsistent hl (by decide) (ce_248 _) rfl rfl rfl hR hcs hw hdg kk

theorem dX9_appendParent_0 : decode cX9_appendParent 0 = .ok (.iload_n 2, 1) := by decide +kernel
theorem dX9_appendParent_1 : decode cX9_appendParent 1 = .ok (.iconst (-1), 1) := by decide +kernel
theorem dX9_appendParent_2 : decode cX9_appendParent 2 = .ok (.if_icmp .eq 16, 3) := by decide +kernel
theorem dX9_appendParent_5 : decode cX9_appendParent 5 = .ok (.aload_n 0, 1) := by decide +kernel
theorem dX9_appendParent_6 : decode cX9_appendParent 6 = .ok (.getfield 40, 3) := by decide +kernel
theorem dX9_appendParent_9 : decode cX9_appendParent 9 = .ok (.aload_n 1, 1) := by decide +kernel
theorem dX9_appendParent_10 : decode cX9_appendParent 10 = .ok (.invokevirtual 303, 3) := by decide +kernel
theorem dX9_appendParent_13 : decode cX9_appendParent 13 = .ok (.iload_n 2, 1) := by decide +kernel
theorem dX9_appendParent_14 : decode cX9_appendParent 14 = .ok (.invokevirtual 298, 3) := by decide +kernel
theorem dX9_appendParent_17 : decode cX9_appendParent 17 = .ok (.pop, 1) := by decide +kernel
theorem dX9_appendParent_18 : decode cX9_appendParent 18 = .ok (.return_, 1) := by decide +kernel
def f_X9_appendParent (V : Mem) (w : Nat) (a2 : Int32) : Option Mem :=
  if a2 = (-1) then
    some V
  else
    bv (f_J4_append_15ec4 V 251 w) fun V10 =>
    bv (f_J4_append_bf812 V10 251 a2) fun V14 =>
    some V14
theorem cv_X9_appendParent : CalW "LetterRepository" yX9_appendParent cX9_appendParent 3 none 2 := ⟨⟨⟨by decide +kernel, by decide +kernel⟩, tw_1_1, tw_6_212, by decide +kernel⟩, tw_6_211, tp_13⟩
set_option maxRecDepth 100000 in
set_option maxHeartbeats 4000000 in
theorem m_X9_appendParent (l : Launch) (E : En) (ad : Nat → Nat) (V : Mem) (w : Nat) (a2 : Int32) (hS : SF E) (hFr : Fr E) (hw4 : w < 17) (Vz : Mem) (hf : f_X9_appendParent V w a2 = some Vz) : MA l E ad yX9_appendParent cX9_appendParent 3 none 7 2 144 [.ref (ad 248), .ref (eA E 3 w), .int a2] V none Vz := by
  refine entA (E := E) (ad := ad) (V := V) "LetterRepository" (by decide +kernel) rfl (Nat.le_of_ble_eq_true rfl) ?_
  intro p e s m below meth c ls hC hI hl
  have hx := hC.1
  have hb := hC.2.1
  have hC0 := hC
  have hl : lv_has ls 3 [(0, .ref (ad 248)), (1, .ref (eA E 3 w)), (2, .int a2)] := hl
  unfold f_X9_appendParent at hf
  refine lv_iload_n hx hb dX9_appendParent_0 rfl (lv_at hl 2 rfl) ?_
  refine lv_iconst (v := (-1)) hx hb dX9_appendParent_1 rfl ?_
  refine lv_icmp_eq (tgt := 18) hx hb dX9_appendParent_2 (by decide) (fun c2 => ?_) (fun c2 => ?_)
  · have hf := gt hf c2
    refine x_wid (c2 := 2) (s2 := 144) (Nat.le_of_ble_eq_true rfl) (Nat.le_of_ble_eq_true rfl) ?_
    exact r_vret2 hC hI hf dX9_appendParent_18
  · have hf := gf hf c2
    refine lv_aload_n hx hb dX9_appendParent_5 rfl (lv_at hl 0 rfl) ?_
    refine g_248_line hC hI tw_1_218 dX9_appendParent_6 ?_
    refine lv_aload_n hx hb dX9_appendParent_9 rfl (lv_at hl 1 rfl) ?_
    obtain ⟨V10, q10, hf⟩ := gbv hf
    refine ka_J4_append_15ec4 hS hFr (.inr rfl) hw4 hC hI hl.1 q10 tw_6_207 ⟨Nat.le_of_ble_eq_true rfl, Nat.le_of_ble_eq_true rfl⟩ ⟨Nat.le_of_ble_eq_true rfl, Nat.le_of_ble_eq_true rfl⟩ (Nat.le_of_ble_eq_true rfl) dX9_appendParent_10 (fun H locs hI => ?_)
    refine lv_iload_n hx hb dX9_appendParent_13 rfl (lv_at hl 2 rfl) ?_
    obtain ⟨V14, q14, hf⟩ := gbv hf
    refine ka_J4_append_bf812 hS hFr (.inr rfl) hC hI hl.1 q14 tw_6_205 ⟨Nat.le_of_ble_eq_true rfl, Nat.le_of_ble_eq_true rfl⟩ ⟨Nat.le_of_ble_eq_true rfl, Nat.le_of_ble_eq_true rfl⟩ (Nat.le_of_ble_eq_true rfl) dX9_appendParent_14 (fun H locs hI => ?_)
    refine lv_pop hx hb dX9_appendParent_17 rfl ?_
    refine x_wid (c2 := 2) (s2 := 144) (Nat.le_of_ble_eq_true rfl) (Nat.le_of_ble_eq_true rfl) ?_
    exact r_vret2 hC hI hf dX9_appendParent_18
theorem ka_X9_appendParent {p : Program} {l : Launch} {e : Env} {R : Room} {cells slots : Nat} {s : State} {m : MethodId} {args : Array Value} {below : List Frame} {meth : Method} {c : Code} {H : Heap} {locs : List Loc} {Q : State → Prop} {E : En} {ad : Nat → Nat} {V : Mem} {ow : String} {b : ByteArray} {n : Nat} {ret : Option FieldType} {pc index : Nat} {ls : Array Slot} {rest : List Value} {w : Nat} {a2 : Int32} {V1 : Mem} (hS : SF E) (hFr : Fr E) (hw4 : w < 17) (hC : Cx p s m args c meth E ow b n ret) (hI : In E ad V s H locs) (hsz : ls.size = n) (hf : f_X9_appendParent V w a2 = some V1) (hl : Cond.methodLink ow index yX9_appendParent ∈ TB) (hR : 7 + 1 ≤ R.frames ∧ 8 + (3 + 11) + 40 * 7 ≤ R.locals) (hcs : cells + 2 ≤ R.cells ∧ slots + 144 ≤ R.slots) (hw : (rest.map fun v => v.category).sum ≤ 8) (hdg : decode b pc = .ok (.invokevirtual index, 3)) (kk : ∀ (H1 : Heap) (locs1 : List Loc), In E ad V1 s H1 locs1 → W p l e R s m args below meth c H1 locs1 (cells + 2) (slots + 144) Q (F0 m (pc + 3) ls (rest))) : W p l e R s m args below meth c H locs cells slots Q (F0 m pc ls (.int a2 :: .ref (eA E 3 w) :: .ref (ad 248) :: rest)) :=
  after_callA hI (runW_tb (As := [.ref (eA E 3 w), .int a2]) (rest := rest) hC hI hsz (m_X9_appendParent l E ad V w a2 hS hFr hw4 V1 hf) cv_X9_appendParent hl (by decide) (fun sa => ce_248 _ _) rfl rfl rfl hR hcs hw hdg) kk

theorem dX9_formatRevision_0 : decode cX9_formatRevision 0 = .ok (.aload_n 0, 1) := by decide +kernel
theorem dX9_formatRevision_1 : decode cX9_formatRevision 1 = .ok (.iload_n 1, 1) := by decide +kernel
theorem dX9_formatRevision_2 : decode cX9_formatRevision 2 = .ok (.invokevirtual 140, 3) := by decide +kernel
theorem dX9_formatRevision_5 : decode cX9_formatRevision 5 = .ok (.aload_n 0, 1) := by decide +kernel
theorem dX9_formatRevision_6 : decode cX9_formatRevision 6 = .ok (.getfield 10, 3) := by decide +kernel
theorem dX9_formatRevision_9 : decode cX9_formatRevision 9 = .ok (.getfield 131, 3) := by decide +kernel
theorem dX9_formatRevision_12 : decode cX9_formatRevision 12 = .ok (.astore_n 2, 1) := by decide +kernel
theorem dX9_formatRevision_13 : decode cX9_formatRevision 13 = .ok (.aload_n 0, 1) := by decide +kernel
theorem dX9_formatRevision_14 : decode cX9_formatRevision 14 = .ok (.getfield 40, 3) := by decide +kernel
theorem dX9_formatRevision_17 : decode cX9_formatRevision 17 = .ok (.iconst 0, 1) := by decide +kernel
theorem dX9_formatRevision_18 : decode cX9_formatRevision 18 = .ok (.invokevirtual 291, 3) := by decide +kernel
theorem dX9_formatRevision_21 : decode cX9_formatRevision 21 = .ok (.aload_n 0, 1) := by decide +kernel
theorem dX9_formatRevision_22 : decode cX9_formatRevision 22 = .ok (.getfield 40, 3) := by decide +kernel
theorem dX9_formatRevision_25 : decode cX9_formatRevision 25 = .ok (.bipush 114, 2) := by decide +kernel
theorem dX9_formatRevision_27 : decode cX9_formatRevision 27 = .ok (.invokevirtual 294, 3) := by decide +kernel
theorem dX9_formatRevision_30 : decode cX9_formatRevision 30 = .ok (.iload_n 1, 1) := by decide +kernel
theorem dX9_formatRevision_31 : decode cX9_formatRevision 31 = .ok (.invokevirtual 298, 3) := by decide +kernel
theorem dX9_formatRevision_34 : decode cX9_formatRevision 34 = .ok (.bipush 32, 2) := by decide +kernel
theorem dX9_formatRevision_36 : decode cX9_formatRevision 36 = .ok (.invokevirtual 294, 3) := by decide +kernel
theorem dX9_formatRevision_39 : decode cX9_formatRevision 39 = .ok (.pop, 1) := by decide +kernel
theorem dX9_formatRevision_40 : decode cX9_formatRevision 40 = .ok (.iconst 0, 1) := by decide +kernel
theorem dX9_formatRevision_41 : decode cX9_formatRevision 41 = .ok (.istore_n 3, 1) := by decide +kernel
theorem dX9_formatRevision_42 : decode cX9_formatRevision 42 = .ok (.iload_n 3, 1) := by decide +kernel
theorem dX9_formatRevision_43 : decode cX9_formatRevision 43 = .ok (.bipush 8, 2) := by decide +kernel
theorem dX9_formatRevision_45 : decode cX9_formatRevision 45 = .ok (.if_icmp .ge 24, 3) := by decide +kernel
theorem dX9_formatRevision_48 : decode cX9_formatRevision 48 = .ok (.aload_n 0, 1) := by decide +kernel
theorem dX9_formatRevision_49 : decode cX9_formatRevision 49 = .ok (.getfield 40, 3) := by decide +kernel
theorem dX9_formatRevision_52 : decode cX9_formatRevision 52 = .ok (.aload_n 2, 1) := by decide +kernel
theorem dX9_formatRevision_53 : decode cX9_formatRevision 53 = .ok (.iload_n 1, 1) := by decide +kernel
theorem dX9_formatRevision_54 : decode cX9_formatRevision 54 = .ok (.iload_n 3, 1) := by decide +kernel
theorem dX9_formatRevision_55 : decode cX9_formatRevision 55 = .ok (.invokevirtual 166, 3) := by decide +kernel
theorem dX9_formatRevision_58 : decode cX9_formatRevision 58 = .ok (.i2c, 1) := by decide +kernel
theorem dX9_formatRevision_59 : decode cX9_formatRevision 59 = .ok (.invokevirtual 294, 3) := by decide +kernel
theorem dX9_formatRevision_62 : decode cX9_formatRevision 62 = .ok (.pop, 1) := by decide +kernel
theorem dX9_formatRevision_63 : decode cX9_formatRevision 63 = .ok (.iinc 3 1, 3) := by decide +kernel
theorem dX9_formatRevision_66 : decode cX9_formatRevision 66 = .ok (.goto (-24), 3) := by decide +kernel
theorem dX9_formatRevision_69 : decode cX9_formatRevision 69 = .ok (.aload_n 0, 1) := by decide +kernel
theorem dX9_formatRevision_70 : decode cX9_formatRevision 70 = .ok (.getfield 40, 3) := by decide +kernel
theorem dX9_formatRevision_73 : decode cX9_formatRevision 73 = .ok (.ldc_w 301, 3) := by decide +kernel
theorem dX9_formatRevision_76 : decode cX9_formatRevision 76 = .ok (.invokevirtual 303, 3) := by decide +kernel
theorem dX9_formatRevision_79 : decode cX9_formatRevision 79 = .ok (.aload_n 2, 1) := by decide +kernel
theorem dX9_formatRevision_80 : decode cX9_formatRevision 80 = .ok (.iload_n 1, 1) := by decide +kernel
theorem dX9_formatRevision_81 : decode cX9_formatRevision 81 = .ok (.invokevirtual 157, 3) := by decide +kernel
theorem dX9_formatRevision_84 : decode cX9_formatRevision 84 = .ok (.invokevirtual 298, 3) := by decide +kernel
theorem dX9_formatRevision_87 : decode cX9_formatRevision 87 = .ok (.pop, 1) := by decide +kernel
theorem dX9_formatRevision_88 : decode cX9_formatRevision 88 = .ok (.aload_n 0, 1) := by decide +kernel
theorem dX9_formatRevision_89 : decode cX9_formatRevision 89 = .ok (.ldc_w 306, 3) := by decide +kernel
theorem dX9_formatRevision_92 : decode cX9_formatRevision 92 = .ok (.aload_n 2, 1) := by decide +kernel
theorem dX9_formatRevision_93 : decode cX9_formatRevision 93 = .ok (.iload_n 1, 1) := by decide +kernel
theorem dX9_formatRevision_94 : decode cX9_formatRevision 94 = .ok (.invokevirtual 148, 3) := by decide +kernel
theorem dX9_formatRevision_97 : decode cX9_formatRevision 97 = .ok (.invokevirtual 308, 3) := by decide +kernel
theorem dX9_formatRevision_100 : decode cX9_formatRevision 100 = .ok (.aload_n 0, 1) := by decide +kernel
theorem dX9_formatRevision_101 : decode cX9_formatRevision 101 = .ok (.ldc_w 312, 3) := by decide +kernel
theorem dX9_formatRevision_104 : decode cX9_formatRevision 104 = .ok (.aload_n 2, 1) := by decide +kernel
theorem dX9_formatRevision_105 : decode cX9_formatRevision 105 = .ok (.iload_n 1, 1) := by decide +kernel
theorem dX9_formatRevision_106 : decode cX9_formatRevision 106 = .ok (.invokevirtual 154, 3) := by decide +kernel
theorem dX9_formatRevision_109 : decode cX9_formatRevision 109 = .ok (.invokevirtual 308, 3) := by decide +kernel
theorem dX9_formatRevision_112 : decode cX9_formatRevision 112 = .ok (.aload_n 2, 1) := by decide +kernel
theorem dX9_formatRevision_113 : decode cX9_formatRevision 113 = .ok (.iload_n 1, 1) := by decide +kernel
theorem dX9_formatRevision_114 : decode cX9_formatRevision 114 = .ok (.invokevirtual 144, 3) := by decide +kernel
theorem dX9_formatRevision_117 : decode cX9_formatRevision 117 = .ok (.ifCond .eq 14, 3) := by decide +kernel
theorem dX9_formatRevision_120 : decode cX9_formatRevision 120 = .ok (.aload_n 0, 1) := by decide +kernel
theorem dX9_formatRevision_121 : decode cX9_formatRevision 121 = .ok (.getfield 40, 3) := by decide +kernel
theorem dX9_formatRevision_124 : decode cX9_formatRevision 124 = .ok (.ldc_w 314, 3) := by decide +kernel
theorem dX9_formatRevision_127 : decode cX9_formatRevision 127 = .ok (.invokevirtual 303, 3) := by decide +kernel
theorem dX9_formatRevision_130 : decode cX9_formatRevision 130 = .ok (.pop, 1) := by decide +kernel
theorem dX9_formatRevision_131 : decode cX9_formatRevision 131 = .ok (.aload_n 0, 1) := by decide +kernel
theorem dX9_formatRevision_132 : decode cX9_formatRevision 132 = .ok (.getfield 40, 3) := by decide +kernel
theorem dX9_formatRevision_135 : decode cX9_formatRevision 135 = .ok (.invokevirtual 316, 3) := by decide +kernel
theorem dX9_formatRevision_138 : decode cX9_formatRevision 138 = .ok (.ireturn, 1) := by decide +kernel
def f_X9_formatRevision (V : Mem) (a1 : Int32) : Option (Nat × Int32 × Mem) :=
  bw 0 (f_X9_requireRevision V a1) fun V2 =>
  bv (f_J4_setLength_d00df V2 251 0) fun V18 =>
  bv (f_J4_append_cf468 V18 251 114) fun V27 =>
  bv (f_J4_append_bf812 V27 251 a1) fun V31 =>
  bv (f_J4_append_cf468 V31 251 32) fun V36 =>
  bd (f_X6_letterOf V36 a1 0) fun r55 V55 =>
  bv (f_J4_append_cf468 V55 251 (((r55 : Int32).toUInt32 % 65536).toInt32)) fun V59 =>
  bd (f_X6_letterOf V59 a1 1) fun r55 V55 =>
  bv (f_J4_append_cf468 V55 251 (((r55 : Int32).toUInt32 % 65536).toInt32)) fun V59 =>
  bd (f_X6_letterOf V59 a1 2) fun r55 V55 =>
  bv (f_J4_append_cf468 V55 251 (((r55 : Int32).toUInt32 % 65536).toInt32)) fun V59 =>
  bd (f_X6_letterOf V59 a1 3) fun r55 V55 =>
  bv (f_J4_append_cf468 V55 251 (((r55 : Int32).toUInt32 % 65536).toInt32)) fun V59 =>
  bd (f_X6_letterOf V59 a1 4) fun r55 V55 =>
  bv (f_J4_append_cf468 V55 251 (((r55 : Int32).toUInt32 % 65536).toInt32)) fun V59 =>
  bd (f_X6_letterOf V59 a1 5) fun r55 V55 =>
  bv (f_J4_append_cf468 V55 251 (((r55 : Int32).toUInt32 % 65536).toInt32)) fun V59 =>
  bd (f_X6_letterOf V59 a1 6) fun r55 V55 =>
  bv (f_J4_append_cf468 V55 251 (((r55 : Int32).toUInt32 % 65536).toInt32)) fun V59 =>
  bd (f_X6_letterOf V59 a1 7) fun r55 V55 =>
  bv (f_J4_append_cf468 V55 251 (((r55 : Int32).toUInt32 % 65536).toInt32)) fun V59 =>
  bv (f_J4_append_15ec4 V59 251 13) fun V76 =>
  bd (f_X6_writerOf V76 a1) fun r81 V81 =>
  bv (f_J4_append_bf812 V81 251 r81) fun V84 =>
  bd (f_X6_firstParentOf V84 a1) fun r94 V94 =>
  bv (f_X9_appendParent V94 14 r94) fun V97 =>
  bd (f_X6_secondParentOf V97 a1) fun r106 V106 =>
  bv (f_X9_appendParent V106 15 r106) fun V109 =>
  bd (f_X6_inArchive V109 a1) fun r114 V114 =>
  jn (α := Mem → Option (Nat × Int32 × Mem)) (fun j131 =>
    if r114 = 0 then
      j131 V114
    else
      bv (f_J4_append_15ec4 V114 251 16) fun V127 =>
      j131 V127
  ) (fun (V131 : Mem) =>
    bd (f_J4_length_8abf5 V131 251) fun r135 V135 =>
    some (0, r135, V135)
  )
theorem cv_X9_formatRevision : CalV yX9_formatRevision cX9_formatRevision 4 (some .int) 1 := ⟨⟨⟨by decide +kernel, by decide +kernel⟩, tw_1_1, tw_5_153, by decide +kernel⟩, tw_5_151, tw_5_152⟩
set_option maxRecDepth 100000 in
set_option maxHeartbeats 4000000 in
theorem m_X9_formatRevision (l : Launch) (hT : l.stackTraces = false) (E : En) (ad : Nat → Nat) (V : Mem) (a1 : Int32) (hS : SF E) (hFr : Fr E) (k : Nat) (r : Int32) (Vz : Mem) (hf : f_X9_formatRevision V a1 = some (k, r, Vz)) : MX l E ad yX9_formatRevision cX9_formatRevision 4 (some .int) 8 20 1374 [.ref (ad 248), .int a1] V k (some (.int r)) Vz := by
  refine entX (E := E) (ad := ad) (V := V) "LetterRepository" hT (by decide +kernel) rfl (Nat.le_of_ble_eq_true rfl) ?_
  intro p e s m below meth c ls hC hY hI hl
  have hx := hC.1
  have hb := hC.2.1
  have hl : lv_has ls 4 [(0, .ref (ad 248)), (1, .int a1)] := hl
  unfold f_X9_formatRevision at hf
  refine lv_aload_n hx hb dX9_formatRevision_0 rfl (lv_at hl 0 rfl) ?_
  refine lv_iload_n hx hb dX9_formatRevision_1 rfl (lv_at hl 1 rfl) ?_
  obtain ⟨q2, V2, e2, hf⟩ := gbw hf
  refine kx_X9_requireRevision hS hC hY hI hl.1 e2 tw_4_127 ⟨Nat.le_of_ble_eq_true rfl, Nat.le_of_ble_eq_true rfl⟩ ⟨Nat.le_of_ble_eq_true rfl, Nat.le_of_ble_eq_true rfl⟩ ⟨Nat.le_of_ble_eq_true rfl, Nat.le_of_ble_eq_true rfl⟩ (Nat.le_of_ble_eq_true rfl) dX9_formatRevision_2 (fun h0 => hx3 ((if_neg h0).symm.trans hf)) (fun h0 H locs hI => ?_)
  have hf := (if_pos h0).symm.trans hf
  refine lv_aload_n hx hb dX9_formatRevision_5 rfl (lv_at hl 0 rfl) ?_
  refine g_248_store hC hI tw_1_213 dX9_formatRevision_6 ?_
  refine gN_0_revisions hC hI tw_1_100 dX9_formatRevision_9 ?_
  refine lv_astore_n (lv' := [(2, .ref (ad 1)), (0, .ref (ad 248)), (1, .int a1)]) hx hb dX9_formatRevision_12 rfl hl (Nat.lt_of_lt_of_eq (by decide) rfl) rfl (fun ls hl => ?_)
  refine lv_aload_n hx hb dX9_formatRevision_13 rfl (lv_at hl 1 rfl) ?_
  refine g_248_line hC hI tw_1_218 dX9_formatRevision_14 ?_
  refine lv_iconst (v := 0) hx hb dX9_formatRevision_17 rfl ?_
  obtain ⟨V18, q18, hf⟩ := gbv hf
  refine ka_J4_setLength_d00df hS hFr (.inr rfl) hC hI hl.1 q18 tw_5_154 ⟨Nat.le_of_ble_eq_true rfl, Nat.le_of_ble_eq_true rfl⟩ ⟨Nat.le_of_ble_eq_true rfl, Nat.le_of_ble_eq_true rfl⟩ (Nat.le_of_ble_eq_true rfl) dX9_formatRevision_18 (fun H locs hI => ?_)
  refine lv_aload_n hx hb dX9_formatRevision_21 rfl (lv_at hl 1 rfl) ?_
  refine g_248_line hC hI tw_1_218 dX9_formatRevision_22 ?_
  refine lv_bipush (v := 114) hx hb dX9_formatRevision_25 rfl ?_
  obtain ⟨V27, q27, hf⟩ := gbv hf
  refine ka_J4_append_cf468 hS hFr (.inr rfl) hC hI hl.1 q27 tw_6_183 ⟨Nat.le_of_ble_eq_true rfl, Nat.le_of_ble_eq_true rfl⟩ ⟨Nat.le_of_ble_eq_true rfl, Nat.le_of_ble_eq_true rfl⟩ (Nat.le_of_ble_eq_true rfl) dX9_formatRevision_27 (fun H locs hI => ?_)
  refine lv_iload_n hx hb dX9_formatRevision_30 rfl (lv_at hl 2 rfl) ?_
  obtain ⟨V31, q31, hf⟩ := gbv hf
  refine ka_J4_append_bf812 hS hFr (.inr rfl) hC hI hl.1 q31 tw_6_205 ⟨Nat.le_of_ble_eq_true rfl, Nat.le_of_ble_eq_true rfl⟩ ⟨Nat.le_of_ble_eq_true rfl, Nat.le_of_ble_eq_true rfl⟩ (Nat.le_of_ble_eq_true rfl) dX9_formatRevision_31 (fun H locs hI => ?_)
  refine lv_bipush (v := 32) hx hb dX9_formatRevision_34 rfl ?_
  obtain ⟨V36, q36, hf⟩ := gbv hf
  refine ka_J4_append_cf468 hS hFr (.inr rfl) hC hI hl.1 q36 tw_6_183 ⟨Nat.le_of_ble_eq_true rfl, Nat.le_of_ble_eq_true rfl⟩ ⟨Nat.le_of_ble_eq_true rfl, Nat.le_of_ble_eq_true rfl⟩ (Nat.le_of_ble_eq_true rfl) dX9_formatRevision_36 (fun H locs hI => ?_)
  refine lv_pop hx hb dX9_formatRevision_39 rfl ?_
  refine lv_iconst (v := 0) hx hb dX9_formatRevision_40 rfl ?_
  refine lv_istore_n (lv' := [(3, .int 0), (2, .ref (ad 1)), (0, .ref (ad 248)), (1, .int a1)]) hx hb dX9_formatRevision_41 rfl hl (Nat.lt_of_lt_of_eq (by decide) rfl) rfl (fun ls hl => ?_)
  refine lv_iload_n hx hb dX9_formatRevision_42 rfl (lv_at hl 0 rfl) ?_
  refine lv_bipush (v := 8) hx hb dX9_formatRevision_43 rfl ?_
  refine lv_icmp_ge (tgt := 69) hx hb dX9_formatRevision_45 (by decide) (fun c45 => (absurd c45 (by decide))) (fun c45 => ?_)
  refine lv_aload_n hx hb dX9_formatRevision_48 rfl (lv_at hl 2 rfl) ?_
  refine g_248_line hC hI tw_1_218 dX9_formatRevision_49 ?_
  refine lv_aload_n hx hb dX9_formatRevision_52 rfl (lv_at hl 1 rfl) ?_
  refine lv_iload_n hx hb dX9_formatRevision_53 rfl (lv_at hl 3 rfl) ?_
  refine lv_iload_n hx hb dX9_formatRevision_54 rfl (lv_at hl 0 rfl) ?_
  obtain ⟨r55, V55, q55, hf⟩ := gbd hf
  refine k_X6_letterOf hC hI hl.1 q55 tw_4_182 ⟨Nat.le_of_ble_eq_true rfl, Nat.le_of_ble_eq_true rfl⟩ ⟨Nat.le_of_ble_eq_true rfl, Nat.le_of_ble_eq_true rfl⟩ (Nat.le_of_ble_eq_true rfl) dX9_formatRevision_55 (fun H locs hI => ?_)
  refine lv_i2c hx hb dX9_formatRevision_58 rfl ?_
  obtain ⟨V59, q59, hf⟩ := gbv hf
  refine ka_J4_append_cf468 hS hFr (.inr rfl) hC hI hl.1 q59 tw_6_183 ⟨Nat.le_of_ble_eq_true rfl, Nat.le_of_ble_eq_true rfl⟩ ⟨Nat.le_of_ble_eq_true rfl, Nat.le_of_ble_eq_true rfl⟩ (Nat.le_of_ble_eq_true rfl) dX9_formatRevision_59 (fun H locs hI => ?_)
  refine lv_pop hx hb dX9_formatRevision_62 rfl ?_
  refine lv_iinc (v := 1) (lv' := [(3, .int 1), (2, .ref (ad 1)), (0, .ref (ad 248)), (1, .int a1)]) hx hb dX9_formatRevision_63 hl (k := 0) rfl rfl (Nat.lt_of_lt_of_eq (by decide) rfl) rfl (fun ls hl => ?_)
  refine lv_goto (tgt := 42) hx hb dX9_formatRevision_66 (by decide) ?_
  refine lv_iload_n hx hb dX9_formatRevision_42 rfl (lv_at hl 0 rfl) ?_
  refine lv_bipush (v := 8) hx hb dX9_formatRevision_43 rfl ?_
  refine lv_icmp_ge (tgt := 69) hx hb dX9_formatRevision_45 (by decide) (fun c45 => (absurd c45 (by decide))) (fun c45 => ?_)
  refine lv_aload_n hx hb dX9_formatRevision_48 rfl (lv_at hl 2 rfl) ?_
  refine g_248_line hC hI tw_1_218 dX9_formatRevision_49 ?_
  refine lv_aload_n hx hb dX9_formatRevision_52 rfl (lv_at hl 1 rfl) ?_
  refine lv_iload_n hx hb dX9_formatRevision_53 rfl (lv_at hl 3 rfl) ?_
  refine lv_iload_n hx hb dX9_formatRevision_54 rfl (lv_at hl 0 rfl) ?_
  obtain ⟨r55, V55, q55, hf⟩ := gbd hf
  refine k_X6_letterOf hC hI hl.1 q55 tw_4_182 ⟨Nat.le_of_ble_eq_true rfl, Nat.le_of_ble_eq_true rfl⟩ ⟨Nat.le_of_ble_eq_true rfl, Nat.le_of_ble_eq_true rfl⟩ (Nat.le_of_ble_eq_true rfl) dX9_formatRevision_55 (fun H locs hI => ?_)
  refine lv_i2c hx hb dX9_formatRevision_58 rfl ?_
  obtain ⟨V59, q59, hf⟩ := gbv hf
  refine ka_J4_append_cf468 hS hFr (.inr rfl) hC hI hl.1 q59 tw_6_183 ⟨Nat.le_of_ble_eq_true rfl, Nat.le_of_ble_eq_true rfl⟩ ⟨Nat.le_of_ble_eq_true rfl, Nat.le_of_ble_eq_true rfl⟩ (Nat.le_of_ble_eq_true rfl) dX9_formatRevision_59 (fun H locs hI => ?_)
  refine lv_pop hx hb dX9_formatRevision_62 rfl ?_
  refine lv_iinc (v := 2) (lv' := [(3, .int 2), (2, .ref (ad 1)), (0, .ref (ad 248)), (1, .int a1)]) hx hb dX9_formatRevision_63 hl (k := 0) rfl rfl (Nat.lt_of_lt_of_eq (by decide) rfl) rfl (fun ls hl => ?_)
  refine lv_goto (tgt := 42) hx hb dX9_formatRevision_66 (by decide) ?_
  refine lv_iload_n hx hb dX9_formatRevision_42 rfl (lv_at hl 0 rfl) ?_
  refine lv_bipush (v := 8) hx hb dX9_formatRevision_43 rfl ?_
  refine lv_icmp_ge (tgt := 69) hx hb dX9_formatRevision_45 (by decide) (fun c45 => (absurd c45 (by decide))) (fun c45 => ?_)
  refine lv_aload_n hx hb dX9_formatRevision_48 rfl (lv_at hl 2 rfl) ?_
  refine g_248_line hC hI tw_1_218 dX9_formatRevision_49 ?_
  refine lv_aload_n hx hb dX9_formatRevision_52 rfl (lv_at hl 1 rfl) ?_
  refine lv_iload_n hx hb dX9_formatRevision_53 rfl (lv_at hl 3 rfl) ?_
  refine lv_iload_n hx hb dX9_formatRevision_54 rfl (lv_at hl 0 rfl) ?_
  obtain ⟨r55, V55, q55, hf⟩ := gbd hf
  refine k_X6_letterOf hC hI hl.1 q55 tw_4_182 ⟨Nat.le_of_ble_eq_true rfl, Nat.le_of_ble_eq_true rfl⟩ ⟨Nat.le_of_ble_eq_true rfl, Nat.le_of_ble_eq_true rfl⟩ (Nat.le_of_ble_eq_true rfl) dX9_formatRevision_55 (fun H locs hI => ?_)
  refine lv_i2c hx hb dX9_formatRevision_58 rfl ?_
  obtain ⟨V59, q59, hf⟩ := gbv hf
  refine ka_J4_append_cf468 hS hFr (.inr rfl) hC hI hl.1 q59 tw_6_183 ⟨Nat.le_of_ble_eq_true rfl, Nat.le_of_ble_eq_true rfl⟩ ⟨Nat.le_of_ble_eq_true rfl, Nat.le_of_ble_eq_true rfl⟩ (Nat.le_of_ble_eq_true rfl) dX9_formatRevision_59 (fun H locs hI => ?_)
  refine lv_pop hx hb dX9_formatRevision_62 rfl ?_
  refine lv_iinc (v := 3) (lv' := [(3, .int 3), (2, .ref (ad 1)), (0, .ref (ad 248)), (1, .int a1)]) hx hb dX9_formatRevision_63 hl (k := 0) rfl rfl (Nat.lt_of_lt_of_eq (by decide) rfl) rfl (fun ls hl => ?_)
  refine lv_goto (tgt := 42) hx hb dX9_formatRevision_66 (by decide) ?_
  refine lv_iload_n hx hb dX9_formatRevision_42 rfl (lv_at hl 0 rfl) ?_
  refine lv_bipush (v := 8) hx hb dX9_formatRevision_43 rfl ?_
  refine lv_icmp_ge (tgt := 69) hx hb dX9_formatRevision_45 (by decide) (fun c45 => (absurd c45 (by decide))) (fun c45 => ?_)
  refine lv_aload_n hx hb dX9_formatRevision_48 rfl (lv_at hl 2 rfl) ?_
  refine g_248_line hC hI tw_1_218 dX9_formatRevision_49 ?_
  refine lv_aload_n hx hb dX9_formatRevision_52 rfl (lv_at hl 1 rfl) ?_
  refine lv_iload_n hx hb dX9_formatRevision_53 rfl (lv_at hl 3 rfl) ?_
  refine lv_iload_n hx hb dX9_formatRevision_54 rfl (lv_at hl 0 rfl) ?_
  obtain ⟨r55, V55, q55, hf⟩ := gbd hf
  refine k_X6_letterOf hC hI hl.1 q55 tw_4_182 ⟨Nat.le_of_ble_eq_true rfl, Nat.le_of_ble_eq_true rfl⟩ ⟨Nat.le_of_ble_eq_true rfl, Nat.le_of_ble_eq_true rfl⟩ (Nat.le_of_ble_eq_true rfl) dX9_formatRevision_55 (fun H locs hI => ?_)
  refine lv_i2c hx hb dX9_formatRevision_58 rfl ?_
  obtain ⟨V59, q59, hf⟩ := gbv hf
  refine ka_J4_append_cf468 hS hFr (.inr rfl) hC hI hl.1 q59 tw_6_183 ⟨Nat.le_of_ble_eq_true rfl, Nat.le_of_ble_eq_true rfl⟩ ⟨Nat.le_of_ble_eq_true rfl, Nat.le_of_ble_eq_true rfl⟩ (Nat.le_of_ble_eq_true rfl) dX9_formatRevision_59 (fun H locs hI => ?_)
  refine lv_pop hx hb dX9_formatRevision_62 rfl ?_
  refine lv_iinc (v := 4) (lv' := [(3, .int 4), (2, .ref (ad 1)), (0, .ref (ad 248)), (1, .int a1)]) hx hb dX9_formatRevision_63 hl (k := 0) rfl rfl (Nat.lt_of_lt_of_eq (by decide) rfl) rfl (fun ls hl => ?_)
  refine lv_goto (tgt := 42) hx hb dX9_formatRevision_66 (by decide) ?_
  refine lv_iload_n hx hb dX9_formatRevision_42 rfl (lv_at hl 0 rfl) ?_
  refine lv_bipush (v := 8) hx hb dX9_formatRevision_43 rfl ?_
  refine lv_icmp_ge (tgt := 69) hx hb dX9_formatRevision_45 (by decide) (fun c45 => (absurd c45 (by decide))) (fun c45 => ?_)
  refine lv_aload_n hx hb dX9_formatRevision_48 rfl (lv_at hl 2 rfl) ?_
  refine g_248_line hC hI tw_1_218 dX9_formatRevision_49 ?_
  refine lv_aload_n hx hb dX9_formatRevision_52 rfl (lv_at hl 1 rfl) ?_
  refine lv_iload_n hx hb dX9_formatRevision_53 rfl (lv_at hl 3 rfl) ?_
  refine lv_iload_n hx hb dX9_formatRevision_54 rfl (lv_at hl 0 rfl) ?_
  obtain ⟨r55, V55, q55, hf⟩ := gbd hf
  refine k_X6_letterOf hC hI hl.1 q55 tw_4_182 ⟨Nat.le_of_ble_eq_true rfl, Nat.le_of_ble_eq_true rfl⟩ ⟨Nat.le_of_ble_eq_true rfl, Nat.le_of_ble_eq_true rfl⟩ (Nat.le_of_ble_eq_true rfl) dX9_formatRevision_55 (fun H locs hI => ?_)
  refine lv_i2c hx hb dX9_formatRevision_58 rfl ?_
  obtain ⟨V59, q59, hf⟩ := gbv hf
  refine ka_J4_append_cf468 hS hFr (.inr rfl) hC hI hl.1 q59 tw_6_183 ⟨Nat.le_of_ble_eq_true rfl, Nat.le_of_ble_eq_true rfl⟩ ⟨Nat.le_of_ble_eq_true rfl, Nat.le_of_ble_eq_true rfl⟩ (Nat.le_of_ble_eq_true rfl) dX9_formatRevision_59 (fun H locs hI => ?_)
  refine lv_pop hx hb dX9_formatRevision_62 rfl ?_
  refine lv_iinc (v := 5) (lv' := [(3, .int 5), (2, .ref (ad 1)), (0, .ref (ad 248)), (1, .int a1)]) hx hb dX9_formatRevision_63 hl (k := 0) rfl rfl (Nat.lt_of_lt_of_eq (by decide) rfl) rfl (fun ls hl => ?_)
  refine lv_goto (tgt := 42) hx hb dX9_formatRevision_66 (by decide) ?_
  refine lv_iload_n hx hb dX9_formatRevision_42 rfl (lv_at hl 0 rfl) ?_
  refine lv_bipush (v := 8) hx hb dX9_formatRevision_43 rfl ?_
  refine lv_icmp_ge (tgt := 69) hx hb dX9_formatRevision_45 (by decide) (fun c45 => (absurd c45 (by decide))) (fun c45 => ?_)
  refine lv_aload_n hx hb dX9_formatRevision_48 rfl (lv_at hl 2 rfl) ?_
  refine g_248_line hC hI tw_1_218 dX9_formatRevision_49 ?_
  refine lv_aload_n hx hb dX9_formatRevision_52 rfl (lv_at hl 1 rfl) ?_
  refine lv_iload_n hx hb dX9_formatRevision_53 rfl (lv_at hl 3 rfl) ?_
  refine lv_iload_n hx hb dX9_formatRevision_54 rfl (lv_at hl 0 rfl) ?_
  obtain ⟨r55, V55, q55, hf⟩ := gbd hf
  refine k_X6_letterOf hC hI hl.1 q55 tw_4_182 ⟨Nat.le_of_ble_eq_true rfl, Nat.le_of_ble_eq_true rfl⟩ ⟨Nat.le_of_ble_eq_true rfl, Nat.le_of_ble_eq_true rfl⟩ (Nat.le_of_ble_eq_true rfl) dX9_formatRevision_55 (fun H locs hI => ?_)
  refine lv_i2c hx hb dX9_formatRevision_58 rfl ?_
  obtain ⟨V59, q59, hf⟩ := gbv hf
  refine ka_J4_append_cf468 hS hFr (.inr rfl) hC hI hl.1 q59 tw_6_183 ⟨Nat.le_of_ble_eq_true rfl, Nat.le_of_ble_eq_true rfl⟩ ⟨Nat.le_of_ble_eq_true rfl, Nat.le_of_ble_eq_true rfl⟩ (Nat.le_of_ble_eq_true rfl) dX9_formatRevision_59 (fun H locs hI => ?_)
  refine lv_pop hx hb dX9_formatRevision_62 rfl ?_
  refine lv_iinc (v := 6) (lv' := [(3, .int 6), (2, .ref (ad 1)), (0, .ref (ad 248)), (1, .int a1)]) hx hb dX9_formatRevision_63 hl (k := 0) rfl rfl (Nat.lt_of_lt_of_eq (by decide) rfl) rfl (fun ls hl => ?_)
  refine lv_goto (tgt := 42) hx hb dX9_formatRevision_66 (by decide) ?_
  refine lv_iload_n hx hb dX9_formatRevision_42 rfl (lv_at hl 0 rfl) ?_
  refine lv_bipush (v := 8) hx hb dX9_formatRevision_43 rfl ?_
  refine lv_icmp_ge (tgt := 69) hx hb dX9_formatRevision_45 (by decide) (fun c45 => (absurd c45 (by decide))) (fun c45 => ?_)
  refine lv_aload_n hx hb dX9_formatRevision_48 rfl (lv_at hl 2 rfl) ?_
  refine g_248_line hC hI tw_1_218 dX9_formatRevision_49 ?_
  refine lv_aload_n hx hb dX9_formatRevision_52 rfl (lv_at hl 1 rfl) ?_
  refine lv_iload_n hx hb dX9_formatRevision_53 rfl (lv_at hl 3 rfl) ?_
  refine lv_iload_n hx hb dX9_formatRevision_54 rfl (lv_at hl 0 rfl) ?_
  obtain ⟨r55, V55, q55, hf⟩ := gbd hf
  refine k_X6_letterOf hC hI hl.1 q55 tw_4_182 ⟨Nat.le_of_ble_eq_true rfl, Nat.le_of_ble_eq_true rfl⟩ ⟨Nat.le_of_ble_eq_true rfl, Nat.le_of_ble_eq_true rfl⟩ (Nat.le_of_ble_eq_true rfl) dX9_formatRevision_55 (fun H locs hI => ?_)
  refine lv_i2c hx hb dX9_formatRevision_58 rfl ?_
  obtain ⟨V59, q59, hf⟩ := gbv hf
  refine ka_J4_append_cf468 hS hFr (.inr rfl) hC hI hl.1 q59 tw_6_183 ⟨Nat.le_of_ble_eq_true rfl, Nat.le_of_ble_eq_true rfl⟩ ⟨Nat.le_of_ble_eq_true rfl, Nat.le_of_ble_eq_true rfl⟩ (Nat.le_of_ble_eq_true rfl) dX9_formatRevision_59 (fun H locs hI => ?_)
  refine lv_pop hx hb dX9_formatRevision_62 rfl ?_
  refine lv_iinc (v := 7) (lv' := [(3, .int 7), (2, .ref (ad 1)), (0, .ref (ad 248)), (1, .int a1)]) hx hb dX9_formatRevision_63 hl (k := 0) rfl rfl (Nat.lt_of_lt_of_eq (by decide) rfl) rfl (fun ls hl => ?_)
  refine lv_goto (tgt := 42) hx hb dX9_formatRevision_66 (by decide) ?_
  refine lv_iload_n hx hb dX9_formatRevision_42 rfl (lv_at hl 0 rfl) ?_
  refine lv_bipush (v := 8) hx hb dX9_formatRevision_43 rfl ?_
  refine lv_icmp_ge (tgt := 69) hx hb dX9_formatRevision_45 (by decide) (fun c45 => (absurd c45 (by decide))) (fun c45 => ?_)
  refine lv_aload_n hx hb dX9_formatRevision_48 rfl (lv_at hl 2 rfl) ?_
  refine g_248_line hC hI tw_1_218 dX9_formatRevision_49 ?_
  refine lv_aload_n hx hb dX9_formatRevision_52 rfl (lv_at hl 1 rfl) ?_
  refine lv_iload_n hx hb dX9_formatRevision_53 rfl (lv_at hl 3 rfl) ?_
  refine lv_iload_n hx hb dX9_formatRevision_54 rfl (lv_at hl 0 rfl) ?_
  obtain ⟨r55, V55, q55, hf⟩ := gbd hf
  refine k_X6_letterOf hC hI hl.1 q55 tw_4_182 ⟨Nat.le_of_ble_eq_true rfl, Nat.le_of_ble_eq_true rfl⟩ ⟨Nat.le_of_ble_eq_true rfl, Nat.le_of_ble_eq_true rfl⟩ (Nat.le_of_ble_eq_true rfl) dX9_formatRevision_55 (fun H locs hI => ?_)
  refine lv_i2c hx hb dX9_formatRevision_58 rfl ?_
  obtain ⟨V59, q59, hf⟩ := gbv hf
  refine ka_J4_append_cf468 hS hFr (.inr rfl) hC hI hl.1 q59 tw_6_183 ⟨Nat.le_of_ble_eq_true rfl, Nat.le_of_ble_eq_true rfl⟩ ⟨Nat.le_of_ble_eq_true rfl, Nat.le_of_ble_eq_true rfl⟩ (Nat.le_of_ble_eq_true rfl) dX9_formatRevision_59 (fun H locs hI => ?_)
  refine lv_pop hx hb dX9_formatRevision_62 rfl ?_
  refine lv_iinc (v := 8) (lv' := [(3, .int 8), (2, .ref (ad 1)), (0, .ref (ad 248)), (1, .int a1)]) hx hb dX9_formatRevision_63 hl (k := 0) rfl rfl (Nat.lt_of_lt_of_eq (by decide) rfl) rfl (fun ls hl => ?_)
  refine lv_goto (tgt := 42) hx hb dX9_formatRevision_66 (by decide) ?_
  refine lv_iload_n hx hb dX9_formatRevision_42 rfl (lv_at hl 0 rfl) ?_
  refine lv_bipush (v := 8) hx hb dX9_formatRevision_43 rfl ?_
  refine lv_icmp_ge (tgt := 69) hx hb dX9_formatRevision_45 (by decide) (fun c45 => ?_) (fun c45 => (absurd c45 (by decide)))
  refine lv_aload_n hx hb dX9_formatRevision_69 rfl (lv_at hl 2 rfl) ?_
  refine g_248_line hC hI tw_1_218 dX9_formatRevision_70 ?_
  refine t_ldcw_13 hS hC hI dX9_formatRevision_73 ?_
  obtain ⟨V76, q76, hf⟩ := gbv hf
  refine ka_J4_append_15ec4 hS hFr (.inr rfl) (by decide) hC hI hl.1 q76 tw_6_207 ⟨Nat.le_of_ble_eq_true rfl, Nat.le_of_ble_eq_true rfl⟩ ⟨Nat.le_of_ble_eq_true rfl, Nat.le_of_ble_eq_true rfl⟩ (Nat.le_of_ble_eq_true rfl) dX9_formatRevision_76 (fun H locs hI => ?_)
  refine lv_aload_n hx hb dX9_formatRevision_79 rfl (lv_at hl 1 rfl) ?_
  refine lv_iload_n hx hb dX9_formatRevision_80 rfl (lv_at hl 3 rfl) ?_
  obtain ⟨r81, V81, q81, hf⟩ := gbd hf
  refine k_X6_writerOf hC hI hl.1 q81 tw_4_161 ⟨Nat.le_of_ble_eq_true rfl, Nat.le_of_ble_eq_true rfl⟩ ⟨Nat.le_of_ble_eq_true rfl, Nat.le_of_ble_eq_true rfl⟩ (Nat.le_of_ble_eq_true rfl) dX9_formatRevision_81 (fun H locs hI => ?_)
  obtain ⟨V84, q84, hf⟩ := gbv hf
  refine ka_J4_append_bf812 hS hFr (.inr rfl) hC hI hl.1 q84 tw_6_205 ⟨Nat.le_of_ble_eq_true rfl, Nat.le_of_ble_eq_true rfl⟩ ⟨Nat.le_of_ble_eq_true rfl, Nat.le_of_ble_eq_true rfl⟩ (Nat.le_of_ble_eq_true rfl) dX9_formatRevision_84 (fun H locs hI => ?_)
  refine lv_pop hx hb dX9_formatRevision_87 rfl ?_
  refine lv_aload_n hx hb dX9_formatRevision_88 rfl (lv_at hl 2 rfl) ?_
  refine t_ldcw_14 hS hC hI dX9_formatRevision_89 ?_
  refine lv_aload_n hx hb dX9_formatRevision_92 rfl (lv_at hl 1 rfl) ?_
  refine lv_iload_n hx hb dX9_formatRevision_93 rfl (lv_at hl 3 rfl) ?_
  obtain ⟨r94, V94, q94, hf⟩ := gbd hf
  refine k_X6_firstParentOf hC hI hl.1 q94 tw_4_141 ⟨Nat.le_of_ble_eq_true rfl, Nat.le_of_ble_eq_true rfl⟩ ⟨Nat.le_of_ble_eq_true rfl, Nat.le_of_ble_eq_true rfl⟩ (Nat.le_of_ble_eq_true rfl) dX9_formatRevision_94 (fun H locs hI => ?_)
  obtain ⟨V97, q97, hf⟩ := gbv hf
  refine ka_X9_appendParent hS hFr (by decide) hC hI hl.1 q97 tw_6_209 ⟨Nat.le_of_ble_eq_true rfl, Nat.le_of_ble_eq_true rfl⟩ ⟨Nat.le_of_ble_eq_true rfl, Nat.le_of_ble_eq_true rfl⟩ (Nat.le_of_ble_eq_true rfl) dX9_formatRevision_97 (fun H locs hI => ?_)
  refine lv_aload_n hx hb dX9_formatRevision_100 rfl (lv_at hl 2 rfl) ?_
  refine t_ldcw_15 hS hC hI dX9_formatRevision_101 ?_
  refine lv_aload_n hx hb dX9_formatRevision_104 rfl (lv_at hl 1 rfl) ?_
  refine lv_iload_n hx hb dX9_formatRevision_105 rfl (lv_at hl 3 rfl) ?_
  obtain ⟨r106, V106, q106, hf⟩ := gbd hf
  refine k_X6_secondParentOf hC hI hl.1 q106 tw_4_153 ⟨Nat.le_of_ble_eq_true rfl, Nat.le_of_ble_eq_true rfl⟩ ⟨Nat.le_of_ble_eq_true rfl, Nat.le_of_ble_eq_true rfl⟩ (Nat.le_of_ble_eq_true rfl) dX9_formatRevision_106 (fun H locs hI => ?_)
  obtain ⟨V109, q109, hf⟩ := gbv hf
  refine ka_X9_appendParent hS hFr (by decide) hC hI hl.1 q109 tw_6_209 ⟨Nat.le_of_ble_eq_true rfl, Nat.le_of_ble_eq_true rfl⟩ ⟨Nat.le_of_ble_eq_true rfl, Nat.le_of_ble_eq_true rfl⟩ (Nat.le_of_ble_eq_true rfl) dX9_formatRevision_109 (fun H locs hI => ?_)
  refine lv_aload_n hx hb dX9_formatRevision_112 rfl (lv_at hl 1 rfl) ?_
  refine lv_iload_n hx hb dX9_formatRevision_113 rfl (lv_at hl 3 rfl) ?_
  obtain ⟨r114, V114, q114, hf⟩ := gbd hf
  refine k_X6_inArchive hC hI hl.1 q114 tw_4_133 ⟨Nat.le_of_ble_eq_true rfl, Nat.le_of_ble_eq_true rfl⟩ ⟨Nat.le_of_ble_eq_true rfl, Nat.le_of_ble_eq_true rfl⟩ (Nat.le_of_ble_eq_true rfl) dX9_formatRevision_114 (fun H locs hI => ?_)
  obtain ⟨j131, hj131, hf⟩ := gj hf
  have J131 : ∀ (V131 : Mem) (H : Heap) (locs : List Loc) (ls : Array Slot), j131 V131 = some (k, r, Vz) → In E ad V131 s H locs → lv_has ls 4 [(0, .ref (ad 248))] → W p l e (rmx 8 20 1374) s m ([.ref (ad 248), .int a1] : List Value).toArray below meth c H locs 20 1374 (vx_MQ below (QRX E ad k (some (.int r)) Vz) (QX E ad k Vz) ([.ref (ad 248), .int a1] : List Value).toArray s 20 1374 (ours E)) (F0 m 131 ls []) := by
    intro V131 H locs ls hf hI hl
    rw [hj131] at hf
    dsimp only at hf
    refine lv_aload_n hx hb dX9_formatRevision_131 rfl (lv_at hl 0 rfl) ?_
    refine g_248_line hC hI tw_1_218 dX9_formatRevision_132 ?_
    obtain ⟨r135, V135, q135, hf⟩ := gbd hf
    refine k_J4_length_8abf5 (.inr rfl) hC hI hl.1 q135 tw_6_215 ⟨Nat.le_of_ble_eq_true rfl, Nat.le_of_ble_eq_true rfl⟩ ⟨Nat.le_of_ble_eq_true rfl, Nat.le_of_ble_eq_true rfl⟩ (Nat.le_of_ble_eq_true rfl) dX9_formatRevision_135 (fun H locs hI => ?_)
    exact x_iret hC hI hf ⟨Nat.le_of_ble_eq_true rfl, Nat.le_of_ble_eq_true rfl⟩ dX9_formatRevision_138
  refine lv_if_eq (tgt := 131) hx hb dX9_formatRevision_117 (by decide) (fun c117 => ?_) (fun c117 => ?_)
  · have hf := gt hf c117
    refine x_wid (c2 := 20) (s2 := 1374) (Nat.le_of_ble_eq_true rfl) (Nat.le_of_ble_eq_true rfl) ?_
    exact J131 _ _ _ _ hf hI (lv_sub hl [2] rfl)
  · have hf := gf hf c117
    refine lv_aload_n hx hb dX9_formatRevision_120 rfl (lv_at hl 2 rfl) ?_
    refine g_248_line hC hI tw_1_218 dX9_formatRevision_121 ?_
    refine t_ldcw_16 hS hC hI dX9_formatRevision_124 ?_
    obtain ⟨V127, q127, hf⟩ := gbv hf
    refine ka_J4_append_15ec4 hS hFr (.inr rfl) (by decide) hC hI hl.1 q127 tw_6_207 ⟨Nat.le_of_ble_eq_true rfl, Nat.le_of_ble_eq_true rfl⟩ ⟨Nat.le_of_ble_eq_true rfl, Nat.le_of_ble_eq_true rfl⟩ (Nat.le_of_ble_eq_true rfl) dX9_formatRevision_127 (fun H locs hI => ?_)
    refine lv_pop hx hb dX9_formatRevision_130 rfl ?_
    exact J131 _ _ _ _ hf hI (lv_sub hl [2] rfl)
theorem kx_X9_formatRevision {p : Program} {l : Launch} {e : Env} {R : Room} {cells slots mc ms : Nat} {s : State} {m : MethodId} {args : Array Value} {below : List Frame} {meth : Method} {c : Code} {H : Heap} {locs : List Loc} {Qc : Array Value → State → Outcome → State → Prop} {E : En} {ad : Nat → Nat} {V : Mem} {ow : String} {b : ByteArray} {n : Nat} {ret : Option FieldType} {pc index : Nat} {ls : Array Slot} {rest : List Value} {a1 : Int32} {k1 k : Nat} {r : Int32} {V1 Vz : Mem} (hS : SF E) (hFr : Fr E) (hC : Cx p s m args c meth E ow b n ret) (hY : Cy l c) (hI : In E ad V s H locs) (hsz : ls.size = n) (hf : f_X9_formatRevision V a1 = some (k1, r, V1)) (hl : Cond.methodLink ow index yX9_formatRevision ∈ TB) (hR : 8 + 1 ≤ R.frames ∧ 8 + (4 + 11) + 40 * 8 ≤ R.locals) (hcs : cells + 20 ≤ R.cells ∧ slots + 1374 ≤ R.slots) (hc : cells + 20 ≤ mc ∧ slots + 1374 ≤ ms) (hw : (rest.map fun v => v.category).sum ≤ 8) (hdg : decode b pc = .ok (.invokevirtual index, 3)) (hx : k1 ≠ 0 → k1 = k ∧ V1 = Vz) (kk : k1 = 0 → ∀ (H1 : Heap) (locs1 : List Loc), In E ad V1 s H1 locs1 → W p l e R s m args below meth c H1 locs1 (cells + 20) (slots + 1374) (vx_MQ below Qc (QX E ad k Vz) args s mc ms (ours E)) (F0 m (pc + 3) ls ((.int r) :: rest))) : W p l e R s m args below meth c H locs cells slots (vx_MQ below Qc (QX E ad k Vz) args s mc ms (ours E)) (F0 m pc ls (.int a1 :: .ref (ad 248) :: rest)) :=
  after_callX hC hY hI (xrunV_tb (As := [.int a1]) (rest := rest) hC hI hsz (m_X9_formatRevision l hY.2 E ad V a1 hS hFr k1 r V1 hf) cv_X9_formatRevision hl (by decide) (ce_248 _) rfl rfl rfl hR hcs hw hdg) hc hx kk

theorem dX9_formatBranch_0 : decode cX9_formatBranch 0 = .ok (.aload_n 0, 1) := by decide +kernel
theorem dX9_formatBranch_1 : decode cX9_formatBranch 1 = .ok (.iload_n 1, 1) := by decide +kernel
theorem dX9_formatBranch_2 : decode cX9_formatBranch 2 = .ok (.invokevirtual 216, 3) := by decide +kernel
theorem dX9_formatBranch_5 : decode cX9_formatBranch 5 = .ok (.aload_n 0, 1) := by decide +kernel
theorem dX9_formatBranch_6 : decode cX9_formatBranch 6 = .ok (.getfield 40, 3) := by decide +kernel
theorem dX9_formatBranch_9 : decode cX9_formatBranch 9 = .ok (.iconst 0, 1) := by decide +kernel
theorem dX9_formatBranch_10 : decode cX9_formatBranch 10 = .ok (.invokevirtual 291, 3) := by decide +kernel
theorem dX9_formatBranch_13 : decode cX9_formatBranch 13 = .ok (.aload_n 0, 1) := by decide +kernel
theorem dX9_formatBranch_14 : decode cX9_formatBranch 14 = .ok (.getfield 40, 3) := by decide +kernel
theorem dX9_formatBranch_17 : decode cX9_formatBranch 17 = .ok (.bipush 98, 2) := by decide +kernel
theorem dX9_formatBranch_19 : decode cX9_formatBranch 19 = .ok (.invokevirtual 294, 3) := by decide +kernel
theorem dX9_formatBranch_22 : decode cX9_formatBranch 22 = .ok (.iload_n 1, 1) := by decide +kernel
theorem dX9_formatBranch_23 : decode cX9_formatBranch 23 = .ok (.invokevirtual 298, 3) := by decide +kernel
theorem dX9_formatBranch_26 : decode cX9_formatBranch 26 = .ok (.bipush 58, 2) := by decide +kernel
theorem dX9_formatBranch_28 : decode cX9_formatBranch 28 = .ok (.invokevirtual 294, 3) := by decide +kernel
theorem dX9_formatBranch_31 : decode cX9_formatBranch 31 = .ok (.aload_n 0, 1) := by decide +kernel
theorem dX9_formatBranch_32 : decode cX9_formatBranch 32 = .ok (.getfield 10, 3) := by decide +kernel
theorem dX9_formatBranch_35 : decode cX9_formatBranch 35 = .ok (.iload_n 1, 1) := by decide +kernel
theorem dX9_formatBranch_36 : decode cX9_formatBranch 36 = .ok (.invokevirtual 219, 3) := by decide +kernel
theorem dX9_formatBranch_39 : decode cX9_formatBranch 39 = .ok (.invokevirtual 298, 3) := by decide +kernel
theorem dX9_formatBranch_42 : decode cX9_formatBranch 42 = .ok (.bipush 32, 2) := by decide +kernel
theorem dX9_formatBranch_44 : decode cX9_formatBranch 44 = .ok (.invokevirtual 294, 3) := by decide +kernel
theorem dX9_formatBranch_47 : decode cX9_formatBranch 47 = .ok (.pop, 1) := by decide +kernel
theorem dX9_formatBranch_48 : decode cX9_formatBranch 48 = .ok (.iconst 0, 1) := by decide +kernel
theorem dX9_formatBranch_49 : decode cX9_formatBranch 49 = .ok (.istore_n 2, 1) := by decide +kernel
theorem dX9_formatBranch_50 : decode cX9_formatBranch 50 = .ok (.iload_n 2, 1) := by decide +kernel
theorem dX9_formatBranch_51 : decode cX9_formatBranch 51 = .ok (.bipush 8, 2) := by decide +kernel
theorem dX9_formatBranch_53 : decode cX9_formatBranch 53 = .ok (.if_icmp .ge 51, 3) := by decide +kernel
theorem dX9_formatBranch_56 : decode cX9_formatBranch 56 = .ok (.aload_n 0, 1) := by decide +kernel
theorem dX9_formatBranch_57 : decode cX9_formatBranch 57 = .ok (.getfield 10, 3) := by decide +kernel
theorem dX9_formatBranch_60 : decode cX9_formatBranch 60 = .ok (.iload_n 1, 1) := by decide +kernel
theorem dX9_formatBranch_61 : decode cX9_formatBranch 61 = .ok (.iload_n 2, 1) := by decide +kernel
theorem dX9_formatBranch_62 : decode cX9_formatBranch 62 = .ok (.invokevirtual 222, 3) := by decide +kernel
theorem dX9_formatBranch_65 : decode cX9_formatBranch 65 = .ok (.istore_n 3, 1) := by decide +kernel
theorem dX9_formatBranch_66 : decode cX9_formatBranch 66 = .ok (.aload_n 0, 1) := by decide +kernel
theorem dX9_formatBranch_67 : decode cX9_formatBranch 67 = .ok (.getfield 40, 3) := by decide +kernel
theorem dX9_formatBranch_70 : decode cX9_formatBranch 70 = .ok (.aload_n 0, 1) := by decide +kernel
theorem dX9_formatBranch_71 : decode cX9_formatBranch 71 = .ok (.getfield 10, 3) := by decide +kernel
theorem dX9_formatBranch_74 : decode cX9_formatBranch 74 = .ok (.iload_n 1, 1) := by decide +kernel
theorem dX9_formatBranch_75 : decode cX9_formatBranch 75 = .ok (.iload_n 2, 1) := by decide +kernel
theorem dX9_formatBranch_76 : decode cX9_formatBranch 76 = .ok (.invokevirtual 225, 3) := by decide +kernel
theorem dX9_formatBranch_79 : decode cX9_formatBranch 79 = .ok (.ifCond .eq 13, 3) := by decide +kernel
theorem dX9_formatBranch_82 : decode cX9_formatBranch 82 = .ok (.iload_n 3, 1) := by decide +kernel
theorem dX9_formatBranch_83 : decode cX9_formatBranch 83 = .ok (.bipush 97, 2) := by decide +kernel
theorem dX9_formatBranch_85 : decode cX9_formatBranch 85 = .ok (.isub, 1) := by decide +kernel
theorem dX9_formatBranch_86 : decode cX9_formatBranch 86 = .ok (.bipush 65, 2) := by decide +kernel
theorem dX9_formatBranch_88 : decode cX9_formatBranch 88 = .ok (.iadd, 1) := by decide +kernel
theorem dX9_formatBranch_89 : decode cX9_formatBranch 89 = .ok (.goto 4, 3) := by decide +kernel
theorem dX9_formatBranch_92 : decode cX9_formatBranch 92 = .ok (.iload_n 3, 1) := by decide +kernel
theorem dX9_formatBranch_93 : decode cX9_formatBranch 93 = .ok (.i2c, 1) := by decide +kernel
theorem dX9_formatBranch_94 : decode cX9_formatBranch 94 = .ok (.invokevirtual 294, 3) := by decide +kernel
theorem dX9_formatBranch_97 : decode cX9_formatBranch 97 = .ok (.pop, 1) := by decide +kernel
theorem dX9_formatBranch_98 : decode cX9_formatBranch 98 = .ok (.iinc 2 1, 3) := by decide +kernel
theorem dX9_formatBranch_101 : decode cX9_formatBranch 101 = .ok (.goto (-51), 3) := by decide +kernel
theorem dX9_formatBranch_104 : decode cX9_formatBranch 104 = .ok (.aload_n 0, 1) := by decide +kernel
theorem dX9_formatBranch_105 : decode cX9_formatBranch 105 = .ok (.getfield 40, 3) := by decide +kernel
theorem dX9_formatBranch_108 : decode cX9_formatBranch 108 = .ok (.invokevirtual 316, 3) := by decide +kernel
theorem dX9_formatBranch_111 : decode cX9_formatBranch 111 = .ok (.ireturn, 1) := by decide +kernel
def f_X9_formatBranch (V : Mem) (a1 : Int32) : Option (Nat × Int32 × Mem) :=
  bw 0 (f_X9_requireBranch V a1) fun V2 =>
  bv (f_J4_setLength_d00df V2 251 0) fun V10 =>
  bv (f_J4_append_cf468 V10 251 98) fun V19 =>
  bv (f_J4_append_bf812 V19 251 a1) fun V23 =>
  bv (f_J4_append_cf468 V23 251 58) fun V28 =>
  bd (f_X8_headOf V28 a1) fun r36 V36 =>
  bv (f_J4_append_bf812 V36 251 r36) fun V39 =>
  bv (f_J4_append_cf468 V39 251 32) fun V44 =>
  bd (f_X8_workingLetter V44 a1 0) fun r62 V62 =>
  bd (f_X8_differsFromHead V62 a1 0) fun r76 V76 =>
  jn (α := Mem → Int32 → Option (Nat × Int32 × Mem)) (fun j93 =>
    if r76 = 0 then
      j93 V76 r62
    else
      j93 V76 ((r62 - 97) + 65)
  ) (fun (V93 : Mem) (s0_93 : Int32) =>
    bv (f_J4_append_cf468 V93 251 (((s0_93 : Int32).toUInt32 % 65536).toInt32)) fun V94 =>
    bd (f_X8_workingLetter V94 a1 1) fun r62 V62 =>
    bd (f_X8_differsFromHead V62 a1 1) fun r76 V76 =>
    jn (α := Mem → Int32 → Option (Nat × Int32 × Mem)) (fun j93 =>
      if r76 = 0 then
        j93 V76 r62
      else
        j93 V76 ((r62 - 97) + 65)
    ) (fun (V93 : Mem) (s0_93 : Int32) =>
      bv (f_J4_append_cf468 V93 251 (((s0_93 : Int32).toUInt32 % 65536).toInt32)) fun V94 =>
      bd (f_X8_workingLetter V94 a1 2) fun r62 V62 =>
      bd (f_X8_differsFromHead V62 a1 2) fun r76 V76 =>
      jn (α := Mem → Int32 → Option (Nat × Int32 × Mem)) (fun j93 =>
        if r76 = 0 then
          j93 V76 r62
        else
          j93 V76 ((r62 - 97) + 65)
      ) (fun (V93 : Mem) (s0_93 : Int32) =>
        bv (f_J4_append_cf468 V93 251 (((s0_93 : Int32).toUInt32 % 65536).toInt32)) fun V94 =>
        bd (f_X8_workingLetter V94 a1 3) fun r62 V62 =>
        bd (f_X8_differsFromHead V62 a1 3) fun r76 V76 =>
        jn (α := Mem → Int32 → Option (Nat × Int32 × Mem)) (fun j93 =>
          if r76 = 0 then
            j93 V76 r62
          else
            j93 V76 ((r62 - 97) + 65)
        ) (fun (V93 : Mem) (s0_93 : Int32) =>
          bv (f_J4_append_cf468 V93 251 (((s0_93 : Int32).toUInt32 % 65536).toInt32)) fun V94 =>
          bd (f_X8_workingLetter V94 a1 4) fun r62 V62 =>
          bd (f_X8_differsFromHead V62 a1 4) fun r76 V76 =>
          jn (α := Mem → Int32 → Option (Nat × Int32 × Mem)) (fun j93 =>
            if r76 = 0 then
              j93 V76 r62
            else
              j93 V76 ((r62 - 97) + 65)
          ) (fun (V93 : Mem) (s0_93 : Int32) =>
            bv (f_J4_append_cf468 V93 251 (((s0_93 : Int32).toUInt32 % 65536).toInt32)) fun V94 =>
            bd (f_X8_workingLetter V94 a1 5) fun r62 V62 =>
            bd (f_X8_differsFromHead V62 a1 5) fun r76 V76 =>
            jn (α := Mem → Int32 → Option (Nat × Int32 × Mem)) (fun j93 =>
              if r76 = 0 then
                j93 V76 r62
              else
                j93 V76 ((r62 - 97) + 65)
            ) (fun (V93 : Mem) (s0_93 : Int32) =>
              bv (f_J4_append_cf468 V93 251 (((s0_93 : Int32).toUInt32 % 65536).toInt32)) fun V94 =>
              bd (f_X8_workingLetter V94 a1 6) fun r62 V62 =>
              bd (f_X8_differsFromHead V62 a1 6) fun r76 V76 =>
              jn (α := Mem → Int32 → Option (Nat × Int32 × Mem)) (fun j93 =>
                if r76 = 0 then
                  j93 V76 r62
                else
                  j93 V76 ((r62 - 97) + 65)
              ) (fun (V93 : Mem) (s0_93 : Int32) =>
                bv (f_J4_append_cf468 V93 251 (((s0_93 : Int32).toUInt32 % 65536).toInt32)) fun V94 =>
                bd (f_X8_workingLetter V94 a1 7) fun r62 V62 =>
                bd (f_X8_differsFromHead V62 a1 7) fun r76 V76 =>
                jn (α := Mem → Int32 → Option (Nat × Int32 × Mem)) (fun j93 =>
                  if r76 = 0 then
                    j93 V76 r62
                  else
                    j93 V76 ((r62 - 97) + 65)
                ) (fun (V93 : Mem) (s0_93 : Int32) =>
                  bv (f_J4_append_cf468 V93 251 (((s0_93 : Int32).toUInt32 % 65536).toInt32)) fun V94 =>
                  bd (f_J4_length_8abf5 V94 251) fun r108 V108 =>
                  some (0, r108, V108)
                )
              )
            )
          )
        )
      )
    )
  )
theorem cv_X9_formatBranch : CalV yX9_formatBranch cX9_formatBranch 4 (some .int) 1 := ⟨⟨⟨by decide +kernel, by decide +kernel⟩, tw_1_1, tw_6_222, by decide +kernel⟩, tw_6_220, tw_6_221⟩
set_option maxRecDepth 100000 in
set_option maxHeartbeats 4000000 in
theorem m_X9_formatBranch (l : Launch) (hT : l.stackTraces = false) (E : En) (ad : Nat → Nat) (V : Mem) (a1 : Int32) (hS : SF E) (hFr : Fr E) (k : Nat) (r : Int32) (Vz : Mem) (hf : f_X9_formatBranch V a1 = some (k, r, Vz)) : MX l E ad yX9_formatBranch cX9_formatBranch 4 (some .int) 7 15 1014 [.ref (ad 248), .int a1] V k (some (.int r)) Vz := by
  refine entX (E := E) (ad := ad) (V := V) "LetterRepository" hT (by decide +kernel) rfl (Nat.le_of_ble_eq_true rfl) ?_
  intro p e s m below meth c ls hC hY hI hl
  have hx := hC.1
  have hb := hC.2.1
  have hl : lv_has ls 4 [(0, .ref (ad 248)), (1, .int a1)] := hl
  unfold f_X9_formatBranch at hf
  refine lv_aload_n hx hb dX9_formatBranch_0 rfl (lv_at hl 0 rfl) ?_
  refine lv_iload_n hx hb dX9_formatBranch_1 rfl (lv_at hl 1 rfl) ?_
  obtain ⟨q2, V2, e2, hf⟩ := gbw hf
  refine kx_X9_requireBranch hS hC hY hI hl.1 e2 tw_5_33 ⟨Nat.le_of_ble_eq_true rfl, Nat.le_of_ble_eq_true rfl⟩ ⟨Nat.le_of_ble_eq_true rfl, Nat.le_of_ble_eq_true rfl⟩ ⟨Nat.le_of_ble_eq_true rfl, Nat.le_of_ble_eq_true rfl⟩ (Nat.le_of_ble_eq_true rfl) dX9_formatBranch_2 (fun h0 => hx3 ((if_neg h0).symm.trans hf)) (fun h0 H locs hI => ?_)
  have hf := (if_pos h0).symm.trans hf
  refine lv_aload_n hx hb dX9_formatBranch_5 rfl (lv_at hl 0 rfl) ?_
  refine g_248_line hC hI tw_1_218 dX9_formatBranch_6 ?_
  refine lv_iconst (v := 0) hx hb dX9_formatBranch_9 rfl ?_
  obtain ⟨V10, q10, hf⟩ := gbv hf
  refine ka_J4_setLength_d00df hS hFr (.inr rfl) hC hI hl.1 q10 tw_5_154 ⟨Nat.le_of_ble_eq_true rfl, Nat.le_of_ble_eq_true rfl⟩ ⟨Nat.le_of_ble_eq_true rfl, Nat.le_of_ble_eq_true rfl⟩ (Nat.le_of_ble_eq_true rfl) dX9_formatBranch_10 (fun H locs hI => ?_)
  refine lv_aload_n hx hb dX9_formatBranch_13 rfl (lv_at hl 0 rfl) ?_
  refine g_248_line hC hI tw_1_218 dX9_formatBranch_14 ?_
  refine lv_bipush (v := 98) hx hb dX9_formatBranch_17 rfl ?_
  obtain ⟨V19, q19, hf⟩ := gbv hf
  refine ka_J4_append_cf468 hS hFr (.inr rfl) hC hI hl.1 q19 tw_6_183 ⟨Nat.le_of_ble_eq_true rfl, Nat.le_of_ble_eq_true rfl⟩ ⟨Nat.le_of_ble_eq_true rfl, Nat.le_of_ble_eq_true rfl⟩ (Nat.le_of_ble_eq_true rfl) dX9_formatBranch_19 (fun H locs hI => ?_)
  refine lv_iload_n hx hb dX9_formatBranch_22 rfl (lv_at hl 1 rfl) ?_
  obtain ⟨V23, q23, hf⟩ := gbv hf
  refine ka_J4_append_bf812 hS hFr (.inr rfl) hC hI hl.1 q23 tw_6_205 ⟨Nat.le_of_ble_eq_true rfl, Nat.le_of_ble_eq_true rfl⟩ ⟨Nat.le_of_ble_eq_true rfl, Nat.le_of_ble_eq_true rfl⟩ (Nat.le_of_ble_eq_true rfl) dX9_formatBranch_23 (fun H locs hI => ?_)
  refine lv_bipush (v := 58) hx hb dX9_formatBranch_26 rfl ?_
  obtain ⟨V28, q28, hf⟩ := gbv hf
  refine ka_J4_append_cf468 hS hFr (.inr rfl) hC hI hl.1 q28 tw_6_183 ⟨Nat.le_of_ble_eq_true rfl, Nat.le_of_ble_eq_true rfl⟩ ⟨Nat.le_of_ble_eq_true rfl, Nat.le_of_ble_eq_true rfl⟩ (Nat.le_of_ble_eq_true rfl) dX9_formatBranch_28 (fun H locs hI => ?_)
  refine lv_aload_n hx hb dX9_formatBranch_31 rfl (lv_at hl 0 rfl) ?_
  refine g_248_store hC hI tw_1_213 dX9_formatBranch_32 ?_
  refine lv_iload_n hx hb dX9_formatBranch_35 rfl (lv_at hl 1 rfl) ?_
  obtain ⟨r36, V36, q36, hf⟩ := gbd hf
  refine k_X8_headOf hC hI hl.1 q36 tw_5_39 ⟨Nat.le_of_ble_eq_true rfl, Nat.le_of_ble_eq_true rfl⟩ ⟨Nat.le_of_ble_eq_true rfl, Nat.le_of_ble_eq_true rfl⟩ (Nat.le_of_ble_eq_true rfl) dX9_formatBranch_36 (fun H locs hI => ?_)
  obtain ⟨V39, q39, hf⟩ := gbv hf
  refine ka_J4_append_bf812 hS hFr (.inr rfl) hC hI hl.1 q39 tw_6_205 ⟨Nat.le_of_ble_eq_true rfl, Nat.le_of_ble_eq_true rfl⟩ ⟨Nat.le_of_ble_eq_true rfl, Nat.le_of_ble_eq_true rfl⟩ (Nat.le_of_ble_eq_true rfl) dX9_formatBranch_39 (fun H locs hI => ?_)
  refine lv_bipush (v := 32) hx hb dX9_formatBranch_42 rfl ?_
  obtain ⟨V44, q44, hf⟩ := gbv hf
  refine ka_J4_append_cf468 hS hFr (.inr rfl) hC hI hl.1 q44 tw_6_183 ⟨Nat.le_of_ble_eq_true rfl, Nat.le_of_ble_eq_true rfl⟩ ⟨Nat.le_of_ble_eq_true rfl, Nat.le_of_ble_eq_true rfl⟩ (Nat.le_of_ble_eq_true rfl) dX9_formatBranch_44 (fun H locs hI => ?_)
  refine lv_pop hx hb dX9_formatBranch_47 rfl ?_
  refine lv_iconst (v := 0) hx hb dX9_formatBranch_48 rfl ?_
  refine lv_istore_n (lv' := [(2, .int 0), (0, .ref (ad 248)), (1, .int a1)]) hx hb dX9_formatBranch_49 rfl hl (Nat.lt_of_lt_of_eq (by decide) rfl) rfl (fun ls hl => ?_)
  refine lv_iload_n hx hb dX9_formatBranch_50 rfl (lv_at hl 0 rfl) ?_
  refine lv_bipush (v := 8) hx hb dX9_formatBranch_51 rfl ?_
  refine lv_icmp_ge (tgt := 104) hx hb dX9_formatBranch_53 (by decide) (fun c53 => (absurd c53 (by decide))) (fun c53 => ?_)
  refine lv_aload_n hx hb dX9_formatBranch_56 rfl (lv_at hl 1 rfl) ?_
  refine g_248_store hC hI tw_1_213 dX9_formatBranch_57 ?_
  refine lv_iload_n hx hb dX9_formatBranch_60 rfl (lv_at hl 2 rfl) ?_
  refine lv_iload_n hx hb dX9_formatBranch_61 rfl (lv_at hl 0 rfl) ?_
  obtain ⟨r62, V62, q62, hf⟩ := gbd hf
  refine k_X8_workingLetter hC hI hl.1 q62 tw_5_47 ⟨Nat.le_of_ble_eq_true rfl, Nat.le_of_ble_eq_true rfl⟩ ⟨Nat.le_of_ble_eq_true rfl, Nat.le_of_ble_eq_true rfl⟩ (Nat.le_of_ble_eq_true rfl) dX9_formatBranch_62 (fun H locs hI => ?_)
  refine lv_istore_n (lv' := [(3, .int r62), (2, .int 0), (0, .ref (ad 248)), (1, .int a1)]) hx hb dX9_formatBranch_65 rfl hl (Nat.lt_of_lt_of_eq (by decide) rfl) rfl (fun ls hl => ?_)
  refine lv_aload_n hx hb dX9_formatBranch_66 rfl (lv_at hl 2 rfl) ?_
  refine g_248_line hC hI tw_1_218 dX9_formatBranch_67 ?_
  refine lv_aload_n hx hb dX9_formatBranch_70 rfl (lv_at hl 2 rfl) ?_
  refine g_248_store hC hI tw_1_213 dX9_formatBranch_71 ?_
  refine lv_iload_n hx hb dX9_formatBranch_74 rfl (lv_at hl 3 rfl) ?_
  refine lv_iload_n hx hb dX9_formatBranch_75 rfl (lv_at hl 1 rfl) ?_
  obtain ⟨r76, V76, q76, hf⟩ := gbd hf
  refine k_X8_differsFromHead hC hI hl.1 q76 tw_5_55 ⟨Nat.le_of_ble_eq_true rfl, Nat.le_of_ble_eq_true rfl⟩ ⟨Nat.le_of_ble_eq_true rfl, Nat.le_of_ble_eq_true rfl⟩ (Nat.le_of_ble_eq_true rfl) dX9_formatBranch_76 (fun H locs hI => ?_)
  obtain ⟨j93, hj93, hf⟩ := gj hf
  have J93 : ∀ (V93 : Mem) (s0_93 : Int32) (H : Heap) (locs : List Loc) (ls : Array Slot), j93 V93 s0_93 = some (k, r, Vz) → In E ad V93 s H locs → lv_has ls 4 [(0, .ref (ad 248)), (1, .int a1), (2, .int 0)] → W p l e (rmx 7 15 1014) s m ([.ref (ad 248), .int a1] : List Value).toArray below meth c H locs 7 438 (vx_MQ below (QRX E ad k (some (.int r)) Vz) (QX E ad k Vz) ([.ref (ad 248), .int a1] : List Value).toArray s 15 1014 (ours E)) (F0 m 93 ls [.int s0_93, .ref (ad 251)]) := by
    intro V93 s0_93 H locs ls hf hI hl
    rw [hj93] at hf
    dsimp only at hf
    refine lv_i2c hx hb dX9_formatBranch_93 rfl ?_
    obtain ⟨V94, q94, hf⟩ := gbv hf
    refine ka_J4_append_cf468 hS hFr (.inr rfl) hC hI hl.1 q94 tw_6_183 ⟨Nat.le_of_ble_eq_true rfl, Nat.le_of_ble_eq_true rfl⟩ ⟨Nat.le_of_ble_eq_true rfl, Nat.le_of_ble_eq_true rfl⟩ (Nat.le_of_ble_eq_true rfl) dX9_formatBranch_94 (fun H locs hI => ?_)
    refine lv_pop hx hb dX9_formatBranch_97 rfl ?_
    refine lv_iinc (v := 1) (lv' := [(2, .int 1), (0, .ref (ad 248)), (1, .int a1)]) hx hb dX9_formatBranch_98 hl (k := 2) rfl rfl (Nat.lt_of_lt_of_eq (by decide) rfl) rfl (fun ls hl => ?_)
    refine lv_goto (tgt := 50) hx hb dX9_formatBranch_101 (by decide) ?_
    refine lv_iload_n hx hb dX9_formatBranch_50 rfl (lv_at hl 0 rfl) ?_
    refine lv_bipush (v := 8) hx hb dX9_formatBranch_51 rfl ?_
    refine lv_icmp_ge (tgt := 104) hx hb dX9_formatBranch_53 (by decide) (fun c53 => (absurd c53 (by decide))) (fun c53 => ?_)
    refine lv_aload_n hx hb dX9_formatBranch_56 rfl (lv_at hl 1 rfl) ?_
    refine g_248_store hC hI tw_1_213 dX9_formatBranch_57 ?_
    refine lv_iload_n hx hb dX9_formatBranch_60 rfl (lv_at hl 2 rfl) ?_
    refine lv_iload_n hx hb dX9_formatBranch_61 rfl (lv_at hl 0 rfl) ?_
    obtain ⟨r62, V62, q62, hf⟩ := gbd hf
    refine k_X8_workingLetter hC hI hl.1 q62 tw_5_47 ⟨Nat.le_of_ble_eq_true rfl, Nat.le_of_ble_eq_true rfl⟩ ⟨Nat.le_of_ble_eq_true rfl, Nat.le_of_ble_eq_true rfl⟩ (Nat.le_of_ble_eq_true rfl) dX9_formatBranch_62 (fun H locs hI => ?_)
    refine lv_istore_n (lv' := [(3, .int r62), (2, .int 1), (0, .ref (ad 248)), (1, .int a1)]) hx hb dX9_formatBranch_65 rfl hl (Nat.lt_of_lt_of_eq (by decide) rfl) rfl (fun ls hl => ?_)
    refine lv_aload_n hx hb dX9_formatBranch_66 rfl (lv_at hl 2 rfl) ?_
    refine g_248_line hC hI tw_1_218 dX9_formatBranch_67 ?_
    refine lv_aload_n hx hb dX9_formatBranch_70 rfl (lv_at hl 2 rfl) ?_
    refine g_248_store hC hI tw_1_213 dX9_formatBranch_71 ?_
    refine lv_iload_n hx hb dX9_formatBranch_74 rfl (lv_at hl 3 rfl) ?_
    refine lv_iload_n hx hb dX9_formatBranch_75 rfl (lv_at hl 1 rfl) ?_
    obtain ⟨r76, V76, q76, hf⟩ := gbd hf
    refine k_X8_differsFromHead hC hI hl.1 q76 tw_5_55 ⟨Nat.le_of_ble_eq_true rfl, Nat.le_of_ble_eq_true rfl⟩ ⟨Nat.le_of_ble_eq_true rfl, Nat.le_of_ble_eq_true rfl⟩ (Nat.le_of_ble_eq_true rfl) dX9_formatBranch_76 (fun H locs hI => ?_)
    obtain ⟨j93, hj93, hf⟩ := gj hf
    have J93 : ∀ (V93 : Mem) (s0_93 : Int32) (H : Heap) (locs : List Loc) (ls : Array Slot), j93 V93 s0_93 = some (k, r, Vz) → In E ad V93 s H locs → lv_has ls 4 [(0, .ref (ad 248)), (1, .int a1), (2, .int 1)] → W p l e (rmx 7 15 1014) s m ([.ref (ad 248), .int a1] : List Value).toArray below meth c H locs 8 510 (vx_MQ below (QRX E ad k (some (.int r)) Vz) (QX E ad k Vz) ([.ref (ad 248), .int a1] : List Value).toArray s 15 1014 (ours E)) (F0 m 93 ls [.int s0_93, .ref (ad 251)]) := by
      intro V93 s0_93 H locs ls hf hI hl
      rw [hj93] at hf
      dsimp only at hf
      refine lv_i2c hx hb dX9_formatBranch_93 rfl ?_
      obtain ⟨V94, q94, hf⟩ := gbv hf
      refine ka_J4_append_cf468 hS hFr (.inr rfl) hC hI hl.1 q94 tw_6_183 ⟨Nat.le_of_ble_eq_true rfl, Nat.le_of_ble_eq_true rfl⟩ ⟨Nat.le_of_ble_eq_true rfl, Nat.le_of_ble_eq_true rfl⟩ (Nat.le_of_ble_eq_true rfl) dX9_formatBranch_94 (fun H locs hI => ?_)
      refine lv_pop hx hb dX9_formatBranch_97 rfl ?_
      refine lv_iinc (v := 2) (lv' := [(2, .int 2), (0, .ref (ad 248)), (1, .int a1)]) hx hb dX9_formatBranch_98 hl (k := 2) rfl rfl (Nat.lt_of_lt_of_eq (by decide) rfl) rfl (fun ls hl => ?_)
      refine lv_goto (tgt := 50) hx hb dX9_formatBranch_101 (by decide) ?_
      refine lv_iload_n hx hb dX9_formatBranch_50 rfl (lv_at hl 0 rfl) ?_
      refine lv_bipush (v := 8) hx hb dX9_formatBranch_51 rfl ?_
      refine lv_icmp_ge (tgt := 104) hx hb dX9_formatBranch_53 (by decide) (fun c53 => (absurd c53 (by decide))) (fun c53 => ?_)
      refine lv_aload_n hx hb dX9_formatBranch_56 rfl (lv_at hl 1 rfl) ?_
      refine g_248_store hC hI tw_1_213 dX9_formatBranch_57 ?_
      refine lv_iload_n hx hb dX9_formatBranch_60 rfl (lv_at hl 2 rfl) ?_
      refine lv_iload_n hx hb dX9_formatBranch_61 rfl (lv_at hl 0 rfl) ?_
      obtain ⟨r62, V62, q62, hf⟩ := gbd hf
      refine k_X8_workingLetter hC hI hl.1 q62 tw_5_47 ⟨Nat.le_of_ble_eq_true rfl, Nat.le_of_ble_eq_true rfl⟩ ⟨Nat.le_of_ble_eq_true rfl, Nat.le_of_ble_eq_true rfl⟩ (Nat.le_of_ble_eq_true rfl) dX9_formatBranch_62 (fun H locs hI => ?_)
      refine lv_istore_n (lv' := [(3, .int r62), (2, .int 2), (0, .ref (ad 248)), (1, .int a1)]) hx hb dX9_formatBranch_65 rfl hl (Nat.lt_of_lt_of_eq (by decide) rfl) rfl (fun ls hl => ?_)
      refine lv_aload_n hx hb dX9_formatBranch_66 rfl (lv_at hl 2 rfl) ?_
      refine g_248_line hC hI tw_1_218 dX9_formatBranch_67 ?_
      refine lv_aload_n hx hb dX9_formatBranch_70 rfl (lv_at hl 2 rfl) ?_
      refine g_248_store hC hI tw_1_213 dX9_formatBranch_71 ?_
      refine lv_iload_n hx hb dX9_formatBranch_74 rfl (lv_at hl 3 rfl) ?_
      refine lv_iload_n hx hb dX9_formatBranch_75 rfl (lv_at hl 1 rfl) ?_
      obtain ⟨r76, V76, q76, hf⟩ := gbd hf
      refine k_X8_differsFromHead hC hI hl.1 q76 tw_5_55 ⟨Nat.le_of_ble_eq_true rfl, Nat.le_of_ble_eq_true rfl⟩ ⟨Nat.le_of_ble_eq_true rfl, Nat.le_of_ble_eq_true rfl⟩ (Nat.le_of_ble_eq_true rfl) dX9_formatBranch_76 (fun H locs hI => ?_)
      obtain ⟨j93, hj93, hf⟩ := gj hf
      have J93 : ∀ (V93 : Mem) (s0_93 : Int32) (H : Heap) (locs : List Loc) (ls : Array Slot), j93 V93 s0_93 = some (k, r, Vz) → In E ad V93 s H locs → lv_has ls 4 [(0, .ref (ad 248)), (1, .int a1), (2, .int 2)] → W p l e (rmx 7 15 1014) s m ([.ref (ad 248), .int a1] : List Value).toArray below meth c H locs 9 582 (vx_MQ below (QRX E ad k (some (.int r)) Vz) (QX E ad k Vz) ([.ref (ad 248), .int a1] : List Value).toArray s 15 1014 (ours E)) (F0 m 93 ls [.int s0_93, .ref (ad 251)]) := by
        intro V93 s0_93 H locs ls hf hI hl
        rw [hj93] at hf
        dsimp only at hf
        refine lv_i2c hx hb dX9_formatBranch_93 rfl ?_
        obtain ⟨V94, q94, hf⟩ := gbv hf
        refine ka_J4_append_cf468 hS hFr (.inr rfl) hC hI hl.1 q94 tw_6_183 ⟨Nat.le_of_ble_eq_true rfl, Nat.le_of_ble_eq_true rfl⟩ ⟨Nat.le_of_ble_eq_true rfl, Nat.le_of_ble_eq_true rfl⟩ (Nat.le_of_ble_eq_true rfl) dX9_formatBranch_94 (fun H locs hI => ?_)
        refine lv_pop hx hb dX9_formatBranch_97 rfl ?_
        refine lv_iinc (v := 3) (lv' := [(2, .int 3), (0, .ref (ad 248)), (1, .int a1)]) hx hb dX9_formatBranch_98 hl (k := 2) rfl rfl (Nat.lt_of_lt_of_eq (by decide) rfl) rfl (fun ls hl => ?_)
        refine lv_goto (tgt := 50) hx hb dX9_formatBranch_101 (by decide) ?_
        refine lv_iload_n hx hb dX9_formatBranch_50 rfl (lv_at hl 0 rfl) ?_
        refine lv_bipush (v := 8) hx hb dX9_formatBranch_51 rfl ?_
        refine lv_icmp_ge (tgt := 104) hx hb dX9_formatBranch_53 (by decide) (fun c53 => (absurd c53 (by decide))) (fun c53 => ?_)
        refine lv_aload_n hx hb dX9_formatBranch_56 rfl (lv_at hl 1 rfl) ?_
        refine g_248_store hC hI tw_1_213 dX9_formatBranch_57 ?_
        refine lv_iload_n hx hb dX9_formatBranch_60 rfl (lv_at hl 2 rfl) ?_
        refine lv_iload_n hx hb dX9_formatBranch_61 rfl (lv_at hl 0 rfl) ?_
        obtain ⟨r62, V62, q62, hf⟩ := gbd hf
        refine k_X8_workingLetter hC hI hl.1 q62 tw_5_47 ⟨Nat.le_of_ble_eq_true rfl, Nat.le_of_ble_eq_true rfl⟩ ⟨Nat.le_of_ble_eq_true rfl, Nat.le_of_ble_eq_true rfl⟩ (Nat.le_of_ble_eq_true rfl) dX9_formatBranch_62 (fun H locs hI => ?_)
        refine lv_istore_n (lv' := [(3, .int r62), (2, .int 3), (0, .ref (ad 248)), (1, .int a1)]) hx hb dX9_formatBranch_65 rfl hl (Nat.lt_of_lt_of_eq (by decide) rfl) rfl (fun ls hl => ?_)
        refine lv_aload_n hx hb dX9_formatBranch_66 rfl (lv_at hl 2 rfl) ?_
        refine g_248_line hC hI tw_1_218 dX9_formatBranch_67 ?_
        refine lv_aload_n hx hb dX9_formatBranch_70 rfl (lv_at hl 2 rfl) ?_
        refine g_248_store hC hI tw_1_213 dX9_formatBranch_71 ?_
        refine lv_iload_n hx hb dX9_formatBranch_74 rfl (lv_at hl 3 rfl) ?_
        refine lv_iload_n hx hb dX9_formatBranch_75 rfl (lv_at hl 1 rfl) ?_
        obtain ⟨r76, V76, q76, hf⟩ := gbd hf
        refine k_X8_differsFromHead hC hI hl.1 q76 tw_5_55 ⟨Nat.le_of_ble_eq_true rfl, Nat.le_of_ble_eq_true rfl⟩ ⟨Nat.le_of_ble_eq_true rfl, Nat.le_of_ble_eq_true rfl⟩ (Nat.le_of_ble_eq_true rfl) dX9_formatBranch_76 (fun H locs hI => ?_)
        obtain ⟨j93, hj93, hf⟩ := gj hf
        have J93 : ∀ (V93 : Mem) (s0_93 : Int32) (H : Heap) (locs : List Loc) (ls : Array Slot), j93 V93 s0_93 = some (k, r, Vz) → In E ad V93 s H locs → lv_has ls 4 [(0, .ref (ad 248)), (1, .int a1), (2, .int 3)] → W p l e (rmx 7 15 1014) s m ([.ref (ad 248), .int a1] : List Value).toArray below meth c H locs 10 654 (vx_MQ below (QRX E ad k (some (.int r)) Vz) (QX E ad k Vz) ([.ref (ad 248), .int a1] : List Value).toArray s 15 1014 (ours E)) (F0 m 93 ls [.int s0_93, .ref (ad 251)]) := by
          intro V93 s0_93 H locs ls hf hI hl
          rw [hj93] at hf
          dsimp only at hf
          refine lv_i2c hx hb dX9_formatBranch_93 rfl ?_
          obtain ⟨V94, q94, hf⟩ := gbv hf
          refine ka_J4_append_cf468 hS hFr (.inr rfl) hC hI hl.1 q94 tw_6_183 ⟨Nat.le_of_ble_eq_true rfl, Nat.le_of_ble_eq_true rfl⟩ ⟨Nat.le_of_ble_eq_true rfl, Nat.le_of_ble_eq_true rfl⟩ (Nat.le_of_ble_eq_true rfl) dX9_formatBranch_94 (fun H locs hI => ?_)
          refine lv_pop hx hb dX9_formatBranch_97 rfl ?_
          refine lv_iinc (v := 4) (lv' := [(2, .int 4), (0, .ref (ad 248)), (1, .int a1)]) hx hb dX9_formatBranch_98 hl (k := 2) rfl rfl (Nat.lt_of_lt_of_eq (by decide) rfl) rfl (fun ls hl => ?_)
          refine lv_goto (tgt := 50) hx hb dX9_formatBranch_101 (by decide) ?_
          refine lv_iload_n hx hb dX9_formatBranch_50 rfl (lv_at hl 0 rfl) ?_
          refine lv_bipush (v := 8) hx hb dX9_formatBranch_51 rfl ?_
          refine lv_icmp_ge (tgt := 104) hx hb dX9_formatBranch_53 (by decide) (fun c53 => (absurd c53 (by decide))) (fun c53 => ?_)
          refine lv_aload_n hx hb dX9_formatBranch_56 rfl (lv_at hl 1 rfl) ?_
          refine g_248_store hC hI tw_1_213 dX9_formatBranch_57 ?_
          refine lv_iload_n hx hb dX9_formatBranch_60 rfl (lv_at hl 2 rfl) ?_
          refine lv_iload_n hx hb dX9_formatBranch_61 rfl (lv_at hl 0 rfl) ?_
          obtain ⟨r62, V62, q62, hf⟩ := gbd hf
          refine k_X8_workingLetter hC hI hl.1 q62 tw_5_47 ⟨Nat.le_of_ble_eq_true rfl, Nat.le_of_ble_eq_true rfl⟩ ⟨Nat.le_of_ble_eq_true rfl, Nat.le_of_ble_eq_true rfl⟩ (Nat.le_of_ble_eq_true rfl) dX9_formatBranch_62 (fun H locs hI => ?_)
          refine lv_istore_n (lv' := [(3, .int r62), (2, .int 4), (0, .ref (ad 248)), (1, .int a1)]) hx hb dX9_formatBranch_65 rfl hl (Nat.lt_of_lt_of_eq (by decide) rfl) rfl (fun ls hl => ?_)
          refine lv_aload_n hx hb dX9_formatBranch_66 rfl (lv_at hl 2 rfl) ?_
          refine g_248_line hC hI tw_1_218 dX9_formatBranch_67 ?_
          refine lv_aload_n hx hb dX9_formatBranch_70 rfl (lv_at hl 2 rfl) ?_
          refine g_248_store hC hI tw_1_213 dX9_formatBranch_71 ?_
          refine lv_iload_n hx hb dX9_formatBranch_74 rfl (lv_at hl 3 rfl) ?_
          refine lv_iload_n hx hb dX9_formatBranch_75 rfl (lv_at hl 1 rfl) ?_
          obtain ⟨r76, V76, q76, hf⟩ := gbd hf
          refine k_X8_differsFromHead hC hI hl.1 q76 tw_5_55 ⟨Nat.le_of_ble_eq_true rfl, Nat.le_of_ble_eq_true rfl⟩ ⟨Nat.le_of_ble_eq_true rfl, Nat.le_of_ble_eq_true rfl⟩ (Nat.le_of_ble_eq_true rfl) dX9_formatBranch_76 (fun H locs hI => ?_)
          obtain ⟨j93, hj93, hf⟩ := gj hf
          have J93 : ∀ (V93 : Mem) (s0_93 : Int32) (H : Heap) (locs : List Loc) (ls : Array Slot), j93 V93 s0_93 = some (k, r, Vz) → In E ad V93 s H locs → lv_has ls 4 [(0, .ref (ad 248)), (1, .int a1), (2, .int 4)] → W p l e (rmx 7 15 1014) s m ([.ref (ad 248), .int a1] : List Value).toArray below meth c H locs 11 726 (vx_MQ below (QRX E ad k (some (.int r)) Vz) (QX E ad k Vz) ([.ref (ad 248), .int a1] : List Value).toArray s 15 1014 (ours E)) (F0 m 93 ls [.int s0_93, .ref (ad 251)]) := by
            intro V93 s0_93 H locs ls hf hI hl
            rw [hj93] at hf
            dsimp only at hf
            refine lv_i2c hx hb dX9_formatBranch_93 rfl ?_
            obtain ⟨V94, q94, hf⟩ := gbv hf
            refine ka_J4_append_cf468 hS hFr (.inr rfl) hC hI hl.1 q94 tw_6_183 ⟨Nat.le_of_ble_eq_true rfl, Nat.le_of_ble_eq_true rfl⟩ ⟨Nat.le_of_ble_eq_true rfl, Nat.le_of_ble_eq_true rfl⟩ (Nat.le_of_ble_eq_true rfl) dX9_formatBranch_94 (fun H locs hI => ?_)
            refine lv_pop hx hb dX9_formatBranch_97 rfl ?_
            refine lv_iinc (v := 5) (lv' := [(2, .int 5), (0, .ref (ad 248)), (1, .int a1)]) hx hb dX9_formatBranch_98 hl (k := 2) rfl rfl (Nat.lt_of_lt_of_eq (by decide) rfl) rfl (fun ls hl => ?_)
            refine lv_goto (tgt := 50) hx hb dX9_formatBranch_101 (by decide) ?_
            refine lv_iload_n hx hb dX9_formatBranch_50 rfl (lv_at hl 0 rfl) ?_
            refine lv_bipush (v := 8) hx hb dX9_formatBranch_51 rfl ?_
            refine lv_icmp_ge (tgt := 104) hx hb dX9_formatBranch_53 (by decide) (fun c53 => (absurd c53 (by decide))) (fun c53 => ?_)
            refine lv_aload_n hx hb dX9_formatBranch_56 rfl (lv_at hl 1 rfl) ?_
            refine g_248_store hC hI tw_1_213 dX9_formatBranch_57 ?_
            refine lv_iload_n hx hb dX9_formatBranch_60 rfl (lv_at hl 2 rfl) ?_
            refine lv_iload_n hx hb dX9_formatBranch_61 rfl (lv_at hl 0 rfl) ?_
            obtain ⟨r62, V62, q62, hf⟩ := gbd hf
            refine k_X8_workingLetter hC hI hl.1 q62 tw_5_47 ⟨Nat.le_of_ble_eq_true rfl, Nat.le_of_ble_eq_true rfl⟩ ⟨Nat.le_of_ble_eq_true rfl, Nat.le_of_ble_eq_true rfl⟩ (Nat.le_of_ble_eq_true rfl) dX9_formatBranch_62 (fun H locs hI => ?_)
            refine lv_istore_n (lv' := [(3, .int r62), (2, .int 5), (0, .ref (ad 248)), (1, .int a1)]) hx hb dX9_formatBranch_65 rfl hl (Nat.lt_of_lt_of_eq (by decide) rfl) rfl (fun ls hl => ?_)
            refine lv_aload_n hx hb dX9_formatBranch_66 rfl (lv_at hl 2 rfl) ?_
            refine g_248_line hC hI tw_1_218 dX9_formatBranch_67 ?_
            refine lv_aload_n hx hb dX9_formatBranch_70 rfl (lv_at hl 2 rfl) ?_
            refine g_248_store hC hI tw_1_213 dX9_formatBranch_71 ?_
            refine lv_iload_n hx hb dX9_formatBranch_74 rfl (lv_at hl 3 rfl) ?_
            refine lv_iload_n hx hb dX9_formatBranch_75 rfl (lv_at hl 1 rfl) ?_
            obtain ⟨r76, V76, q76, hf⟩ := gbd hf
            refine k_X8_differsFromHead hC hI hl.1 q76 tw_5_55 ⟨Nat.le_of_ble_eq_true rfl, Nat.le_of_ble_eq_true rfl⟩ ⟨Nat.le_of_ble_eq_true rfl, Nat.le_of_ble_eq_true rfl⟩ (Nat.le_of_ble_eq_true rfl) dX9_formatBranch_76 (fun H locs hI => ?_)
            obtain ⟨j93, hj93, hf⟩ := gj hf
            have J93 : ∀ (V93 : Mem) (s0_93 : Int32) (H : Heap) (locs : List Loc) (ls : Array Slot), j93 V93 s0_93 = some (k, r, Vz) → In E ad V93 s H locs → lv_has ls 4 [(0, .ref (ad 248)), (1, .int a1), (2, .int 5)] → W p l e (rmx 7 15 1014) s m ([.ref (ad 248), .int a1] : List Value).toArray below meth c H locs 12 798 (vx_MQ below (QRX E ad k (some (.int r)) Vz) (QX E ad k Vz) ([.ref (ad 248), .int a1] : List Value).toArray s 15 1014 (ours E)) (F0 m 93 ls [.int s0_93, .ref (ad 251)]) := by
              intro V93 s0_93 H locs ls hf hI hl
              rw [hj93] at hf
              dsimp only at hf
              refine lv_i2c hx hb dX9_formatBranch_93 rfl ?_
              obtain ⟨V94, q94, hf⟩ := gbv hf
              refine ka_J4_append_cf468 hS hFr (.inr rfl) hC hI hl.1 q94 tw_6_183 ⟨Nat.le_of_ble_eq_true rfl, Nat.le_of_ble_eq_true rfl⟩ ⟨Nat.le_of_ble_eq_true rfl, Nat.le_of_ble_eq_true rfl⟩ (Nat.le_of_ble_eq_true rfl) dX9_formatBranch_94 (fun H locs hI => ?_)
              refine lv_pop hx hb dX9_formatBranch_97 rfl ?_
              refine lv_iinc (v := 6) (lv' := [(2, .int 6), (0, .ref (ad 248)), (1, .int a1)]) hx hb dX9_formatBranch_98 hl (k := 2) rfl rfl (Nat.lt_of_lt_of_eq (by decide) rfl) rfl (fun ls hl => ?_)
              refine lv_goto (tgt := 50) hx hb dX9_formatBranch_101 (by decide) ?_
              refine lv_iload_n hx hb dX9_formatBranch_50 rfl (lv_at hl 0 rfl) ?_
              refine lv_bipush (v := 8) hx hb dX9_formatBranch_51 rfl ?_
              refine lv_icmp_ge (tgt := 104) hx hb dX9_formatBranch_53 (by decide) (fun c53 => (absurd c53 (by decide))) (fun c53 => ?_)
              refine lv_aload_n hx hb dX9_formatBranch_56 rfl (lv_at hl 1 rfl) ?_
              refine g_248_store hC hI tw_1_213 dX9_formatBranch_57 ?_
              refine lv_iload_n hx hb dX9_formatBranch_60 rfl (lv_at hl 2 rfl) ?_
              refine lv_iload_n hx hb dX9_formatBranch_61 rfl (lv_at hl 0 rfl) ?_
              obtain ⟨r62, V62, q62, hf⟩ := gbd hf
              refine k_X8_workingLetter hC hI hl.1 q62 tw_5_47 ⟨Nat.le_of_ble_eq_true rfl, Nat.le_of_ble_eq_true rfl⟩ ⟨Nat.le_of_ble_eq_true rfl, Nat.le_of_ble_eq_true rfl⟩ (Nat.le_of_ble_eq_true rfl) dX9_formatBranch_62 (fun H locs hI => ?_)
              refine lv_istore_n (lv' := [(3, .int r62), (2, .int 6), (0, .ref (ad 248)), (1, .int a1)]) hx hb dX9_formatBranch_65 rfl hl (Nat.lt_of_lt_of_eq (by decide) rfl) rfl (fun ls hl => ?_)
              refine lv_aload_n hx hb dX9_formatBranch_66 rfl (lv_at hl 2 rfl) ?_
              refine g_248_line hC hI tw_1_218 dX9_formatBranch_67 ?_
              refine lv_aload_n hx hb dX9_formatBranch_70 rfl (lv_at hl 2 rfl) ?_
              refine g_248_store hC hI tw_1_213 dX9_formatBranch_71 ?_
              refine lv_iload_n hx hb dX9_formatBranch_74 rfl (lv_at hl 3 rfl) ?_
              refine lv_iload_n hx hb dX9_formatBranch_75 rfl (lv_at hl 1 rfl) ?_
              obtain ⟨r76, V76, q76, hf⟩ := gbd hf
              refine k_X8_differsFromHead hC hI hl.1 q76 tw_5_55 ⟨Nat.le_of_ble_eq_true rfl, Nat.le_of_ble_eq_true rfl⟩ ⟨Nat.le_of_ble_eq_true rfl, Nat.le_of_ble_eq_true rfl⟩ (Nat.le_of_ble_eq_true rfl) dX9_formatBranch_76 (fun H locs hI => ?_)
              obtain ⟨j93, hj93, hf⟩ := gj hf
              have J93 : ∀ (V93 : Mem) (s0_93 : Int32) (H : Heap) (locs : List Loc) (ls : Array Slot), j93 V93 s0_93 = some (k, r, Vz) → In E ad V93 s H locs → lv_has ls 4 [(0, .ref (ad 248)), (1, .int a1), (2, .int 6)] → W p l e (rmx 7 15 1014) s m ([.ref (ad 248), .int a1] : List Value).toArray below meth c H locs 13 870 (vx_MQ below (QRX E ad k (some (.int r)) Vz) (QX E ad k Vz) ([.ref (ad 248), .int a1] : List Value).toArray s 15 1014 (ours E)) (F0 m 93 ls [.int s0_93, .ref (ad 251)]) := by
                intro V93 s0_93 H locs ls hf hI hl
                rw [hj93] at hf
                dsimp only at hf
                refine lv_i2c hx hb dX9_formatBranch_93 rfl ?_
                obtain ⟨V94, q94, hf⟩ := gbv hf
                refine ka_J4_append_cf468 hS hFr (.inr rfl) hC hI hl.1 q94 tw_6_183 ⟨Nat.le_of_ble_eq_true rfl, Nat.le_of_ble_eq_true rfl⟩ ⟨Nat.le_of_ble_eq_true rfl, Nat.le_of_ble_eq_true rfl⟩ (Nat.le_of_ble_eq_true rfl) dX9_formatBranch_94 (fun H locs hI => ?_)
                refine lv_pop hx hb dX9_formatBranch_97 rfl ?_
                refine lv_iinc (v := 7) (lv' := [(2, .int 7), (0, .ref (ad 248)), (1, .int a1)]) hx hb dX9_formatBranch_98 hl (k := 2) rfl rfl (Nat.lt_of_lt_of_eq (by decide) rfl) rfl (fun ls hl => ?_)
                refine lv_goto (tgt := 50) hx hb dX9_formatBranch_101 (by decide) ?_
                refine lv_iload_n hx hb dX9_formatBranch_50 rfl (lv_at hl 0 rfl) ?_
                refine lv_bipush (v := 8) hx hb dX9_formatBranch_51 rfl ?_
                refine lv_icmp_ge (tgt := 104) hx hb dX9_formatBranch_53 (by decide) (fun c53 => (absurd c53 (by decide))) (fun c53 => ?_)
                refine lv_aload_n hx hb dX9_formatBranch_56 rfl (lv_at hl 1 rfl) ?_
                refine g_248_store hC hI tw_1_213 dX9_formatBranch_57 ?_
                refine lv_iload_n hx hb dX9_formatBranch_60 rfl (lv_at hl 2 rfl) ?_
                refine lv_iload_n hx hb dX9_formatBranch_61 rfl (lv_at hl 0 rfl) ?_
                obtain ⟨r62, V62, q62, hf⟩ := gbd hf
                refine k_X8_workingLetter hC hI hl.1 q62 tw_5_47 ⟨Nat.le_of_ble_eq_true rfl, Nat.le_of_ble_eq_true rfl⟩ ⟨Nat.le_of_ble_eq_true rfl, Nat.le_of_ble_eq_true rfl⟩ (Nat.le_of_ble_eq_true rfl) dX9_formatBranch_62 (fun H locs hI => ?_)
                refine lv_istore_n (lv' := [(3, .int r62), (2, .int 7), (0, .ref (ad 248)), (1, .int a1)]) hx hb dX9_formatBranch_65 rfl hl (Nat.lt_of_lt_of_eq (by decide) rfl) rfl (fun ls hl => ?_)
                refine lv_aload_n hx hb dX9_formatBranch_66 rfl (lv_at hl 2 rfl) ?_
                refine g_248_line hC hI tw_1_218 dX9_formatBranch_67 ?_
                refine lv_aload_n hx hb dX9_formatBranch_70 rfl (lv_at hl 2 rfl) ?_
                refine g_248_store hC hI tw_1_213 dX9_formatBranch_71 ?_
                refine lv_iload_n hx hb dX9_formatBranch_74 rfl (lv_at hl 3 rfl) ?_
                refine lv_iload_n hx hb dX9_formatBranch_75 rfl (lv_at hl 1 rfl) ?_
                obtain ⟨r76, V76, q76, hf⟩ := gbd hf
                refine k_X8_differsFromHead hC hI hl.1 q76 tw_5_55 ⟨Nat.le_of_ble_eq_true rfl, Nat.le_of_ble_eq_true rfl⟩ ⟨Nat.le_of_ble_eq_true rfl, Nat.le_of_ble_eq_true rfl⟩ (Nat.le_of_ble_eq_true rfl) dX9_formatBranch_76 (fun H locs hI => ?_)
                obtain ⟨j93, hj93, hf⟩ := gj hf
                have J93 : ∀ (V93 : Mem) (s0_93 : Int32) (H : Heap) (locs : List Loc) (ls : Array Slot), j93 V93 s0_93 = some (k, r, Vz) → In E ad V93 s H locs → lv_has ls 4 [(0, .ref (ad 248)), (1, .int a1), (2, .int 7)] → W p l e (rmx 7 15 1014) s m ([.ref (ad 248), .int a1] : List Value).toArray below meth c H locs 14 942 (vx_MQ below (QRX E ad k (some (.int r)) Vz) (QX E ad k Vz) ([.ref (ad 248), .int a1] : List Value).toArray s 15 1014 (ours E)) (F0 m 93 ls [.int s0_93, .ref (ad 251)]) := by
                  intro V93 s0_93 H locs ls hf hI hl
                  rw [hj93] at hf
                  dsimp only at hf
                  refine lv_i2c hx hb dX9_formatBranch_93 rfl ?_
                  obtain ⟨V94, q94, hf⟩ := gbv hf
                  refine ka_J4_append_cf468 hS hFr (.inr rfl) hC hI hl.1 q94 tw_6_183 ⟨Nat.le_of_ble_eq_true rfl, Nat.le_of_ble_eq_true rfl⟩ ⟨Nat.le_of_ble_eq_true rfl, Nat.le_of_ble_eq_true rfl⟩ (Nat.le_of_ble_eq_true rfl) dX9_formatBranch_94 (fun H locs hI => ?_)
                  refine lv_pop hx hb dX9_formatBranch_97 rfl ?_
                  refine lv_iinc (v := 8) (lv' := [(2, .int 8), (0, .ref (ad 248)), (1, .int a1)]) hx hb dX9_formatBranch_98 hl (k := 2) rfl rfl (Nat.lt_of_lt_of_eq (by decide) rfl) rfl (fun ls hl => ?_)
                  refine lv_goto (tgt := 50) hx hb dX9_formatBranch_101 (by decide) ?_
                  refine lv_iload_n hx hb dX9_formatBranch_50 rfl (lv_at hl 0 rfl) ?_
                  refine lv_bipush (v := 8) hx hb dX9_formatBranch_51 rfl ?_
                  refine lv_icmp_ge (tgt := 104) hx hb dX9_formatBranch_53 (by decide) (fun c53 => ?_) (fun c53 => (absurd c53 (by decide)))
                  refine lv_aload_n hx hb dX9_formatBranch_104 rfl (lv_at hl 1 rfl) ?_
                  refine g_248_line hC hI tw_1_218 dX9_formatBranch_105 ?_
                  obtain ⟨r108, V108, q108, hf⟩ := gbd hf
                  refine k_J4_length_8abf5 (.inr rfl) hC hI hl.1 q108 tw_6_215 ⟨Nat.le_of_ble_eq_true rfl, Nat.le_of_ble_eq_true rfl⟩ ⟨Nat.le_of_ble_eq_true rfl, Nat.le_of_ble_eq_true rfl⟩ (Nat.le_of_ble_eq_true rfl) dX9_formatBranch_108 (fun H locs hI => ?_)
                  exact x_iret hC hI hf ⟨Nat.le_of_ble_eq_true rfl, Nat.le_of_ble_eq_true rfl⟩ dX9_formatBranch_111
                refine lv_if_eq (tgt := 92) hx hb dX9_formatBranch_79 (by decide) (fun c79 => ?_) (fun c79 => ?_)
                · have hf := gt hf c79
                  refine lv_iload_n hx hb dX9_formatBranch_92 rfl (lv_at hl 0 rfl) ?_
                  exact J93 _ _ _ _ _ hf hI (lv_sub hl [2, 3, 1] rfl)
                · have hf := gf hf c79
                  refine lv_iload_n hx hb dX9_formatBranch_82 rfl (lv_at hl 0 rfl) ?_
                  refine lv_bipush (v := 97) hx hb dX9_formatBranch_83 rfl ?_
                  refine lv_isub hx hb dX9_formatBranch_85 ?_
                  refine lv_bipush (v := 65) hx hb dX9_formatBranch_86 rfl ?_
                  refine lv_iadd hx hb dX9_formatBranch_88 ?_
                  refine lv_goto (tgt := 93) hx hb dX9_formatBranch_89 (by decide) ?_
                  exact J93 _ _ _ _ _ hf hI (lv_sub hl [2, 3, 1] rfl)
              refine lv_if_eq (tgt := 92) hx hb dX9_formatBranch_79 (by decide) (fun c79 => ?_) (fun c79 => ?_)
              · have hf := gt hf c79
                refine lv_iload_n hx hb dX9_formatBranch_92 rfl (lv_at hl 0 rfl) ?_
                exact J93 _ _ _ _ _ hf hI (lv_sub hl [2, 3, 1] rfl)
              · have hf := gf hf c79
                refine lv_iload_n hx hb dX9_formatBranch_82 rfl (lv_at hl 0 rfl) ?_
                refine lv_bipush (v := 97) hx hb dX9_formatBranch_83 rfl ?_
                refine lv_isub hx hb dX9_formatBranch_85 ?_
                refine lv_bipush (v := 65) hx hb dX9_formatBranch_86 rfl ?_
                refine lv_iadd hx hb dX9_formatBranch_88 ?_
                refine lv_goto (tgt := 93) hx hb dX9_formatBranch_89 (by decide) ?_
                exact J93 _ _ _ _ _ hf hI (lv_sub hl [2, 3, 1] rfl)
            refine lv_if_eq (tgt := 92) hx hb dX9_formatBranch_79 (by decide) (fun c79 => ?_) (fun c79 => ?_)
            · have hf := gt hf c79
              refine lv_iload_n hx hb dX9_formatBranch_92 rfl (lv_at hl 0 rfl) ?_
              exact J93 _ _ _ _ _ hf hI (lv_sub hl [2, 3, 1] rfl)
            · have hf := gf hf c79
              refine lv_iload_n hx hb dX9_formatBranch_82 rfl (lv_at hl 0 rfl) ?_
              refine lv_bipush (v := 97) hx hb dX9_formatBranch_83 rfl ?_
              refine lv_isub hx hb dX9_formatBranch_85 ?_
              refine lv_bipush (v := 65) hx hb dX9_formatBranch_86 rfl ?_
              refine lv_iadd hx hb dX9_formatBranch_88 ?_
              refine lv_goto (tgt := 93) hx hb dX9_formatBranch_89 (by decide) ?_
              exact J93 _ _ _ _ _ hf hI (lv_sub hl [2, 3, 1] rfl)
          refine lv_if_eq (tgt := 92) hx hb dX9_formatBranch_79 (by decide) (fun c79 => ?_) (fun c79 => ?_)
          · have hf := gt hf c79
            refine lv_iload_n hx hb dX9_formatBranch_92 rfl (lv_at hl 0 rfl) ?_
            exact J93 _ _ _ _ _ hf hI (lv_sub hl [2, 3, 1] rfl)
          · have hf := gf hf c79
            refine lv_iload_n hx hb dX9_formatBranch_82 rfl (lv_at hl 0 rfl) ?_
            refine lv_bipush (v := 97) hx hb dX9_formatBranch_83 rfl ?_
            refine lv_isub hx hb dX9_formatBranch_85 ?_
            refine lv_bipush (v := 65) hx hb dX9_formatBranch_86 rfl ?_
            refine lv_iadd hx hb dX9_formatBranch_88 ?_
            refine lv_goto (tgt := 93) hx hb dX9_formatBranch_89 (by decide) ?_
            exact J93 _ _ _ _ _ hf hI (lv_sub hl [2, 3, 1] rfl)
        refine lv_if_eq (tgt := 92) hx hb dX9_formatBranch_79 (by decide) (fun c79 => ?_) (fun c79 => ?_)
        · have hf := gt hf c79
          refine lv_iload_n hx hb dX9_formatBranch_92 rfl (lv_at hl 0 rfl) ?_
          exact J93 _ _ _ _ _ hf hI (lv_sub hl [2, 3, 1] rfl)
        · have hf := gf hf c79
          refine lv_iload_n hx hb dX9_formatBranch_82 rfl (lv_at hl 0 rfl) ?_
          refine lv_bipush (v := 97) hx hb dX9_formatBranch_83 rfl ?_
          refine lv_isub hx hb dX9_formatBranch_85 ?_
          refine lv_bipush (v := 65) hx hb dX9_formatBranch_86 rfl ?_
          refine lv_iadd hx hb dX9_formatBranch_88 ?_
          refine lv_goto (tgt := 93) hx hb dX9_formatBranch_89 (by decide) ?_
          exact J93 _ _ _ _ _ hf hI (lv_sub hl [2, 3, 1] rfl)
      refine lv_if_eq (tgt := 92) hx hb dX9_formatBranch_79 (by decide) (fun c79 => ?_) (fun c79 => ?_)
      · have hf := gt hf c79
        refine lv_iload_n hx hb dX9_formatBranch_92 rfl (lv_at hl 0 rfl) ?_
        exact J93 _ _ _ _ _ hf hI (lv_sub hl [2, 3, 1] rfl)
      · have hf := gf hf c79
        refine lv_iload_n hx hb dX9_formatBranch_82 rfl (lv_at hl 0 rfl) ?_
        refine lv_bipush (v := 97) hx hb dX9_formatBranch_83 rfl ?_
        refine lv_isub hx hb dX9_formatBranch_85 ?_
        refine lv_bipush (v := 65) hx hb dX9_formatBranch_86 rfl ?_
        refine lv_iadd hx hb dX9_formatBranch_88 ?_
        refine lv_goto (tgt := 93) hx hb dX9_formatBranch_89 (by decide) ?_
        exact J93 _ _ _ _ _ hf hI (lv_sub hl [2, 3, 1] rfl)
    refine lv_if_eq (tgt := 92) hx hb dX9_formatBranch_79 (by decide) (fun c79 => ?_) (fun c79 => ?_)
    · have hf := gt hf c79
      refine lv_iload_n hx hb dX9_formatBranch_92 rfl (lv_at hl 0 rfl) ?_
      exact J93 _ _ _ _ _ hf hI (lv_sub hl [2, 3, 1] rfl)
    · have hf := gf hf c79
      refine lv_iload_n hx hb dX9_formatBranch_82 rfl (lv_at hl 0 rfl) ?_
      refine lv_bipush (v := 97) hx hb dX9_formatBranch_83 rfl ?_
      refine lv_isub hx hb dX9_formatBranch_85 ?_
      refine lv_bipush (v := 65) hx hb dX9_formatBranch_86 rfl ?_
      refine lv_iadd hx hb dX9_formatBranch_88 ?_
      refine lv_goto (tgt := 93) hx hb dX9_formatBranch_89 (by decide) ?_
      exact J93 _ _ _ _ _ hf hI (lv_sub hl [2, 3, 1] rfl)
  refine lv_if_eq (tgt := 92) hx hb dX9_formatBranch_79 (by decide) (fun c79 => ?_) (fun c79 => ?_)
  · have hf := gt hf c79
    refine lv_iload_n hx hb dX9_formatBranch_92 rfl (lv_at hl 0 rfl) ?_
    exact J93 _ _ _ _ _ hf hI (lv_sub hl [2, 3, 1] rfl)
  · have hf := gf hf c79
    refine lv_iload_n hx hb dX9_formatBranch_82 rfl (lv_at hl 0 rfl) ?_
    refine lv_bipush (v := 97) hx hb dX9_formatBranch_83 rfl ?_
    refine lv_isub hx hb dX9_formatBranch_85 ?_
    refine lv_bipush (v := 65) hx hb dX9_formatBranch_86 rfl ?_
    refine lv_iadd hx hb dX9_formatBranch_88 ?_
    refine lv_goto (tgt := 93) hx hb dX9_formatBranch_89 (by decide) ?_
    exact J93 _ _ _ _ _ hf hI (lv_sub hl [2, 3, 1] rfl)
theorem kx_X9_formatBranch {p : Program} {l : Launch} {e : Env} {R : Room} {cells slots mc ms : Nat} {s : State} {m : MethodId} {args : Array Value} {below : List Frame} {meth : Method} {c : Code} {H : Heap} {locs : List Loc} {Qc : Array Value → State → Outcome → State → Prop} {E : En} {ad : Nat → Nat} {V : Mem} {ow : String} {b : ByteArray} {n : Nat} {ret : Option FieldType} {pc index : Nat} {ls : Array Slot} {rest : List Value} {a1 : Int32} {k1 k : Nat} {r : Int32} {V1 Vz : Mem} (hS : SF E) (hFr : Fr E) (hC : Cx p s m args c meth E ow b n ret) (hY : Cy l c) (hI : In E ad V s H locs) (hsz : ls.size = n) (hf : f_X9_formatBranch V a1 = some (k1, r, V1)) (hl : Cond.methodLink ow index yX9_formatBranch ∈ TB) (hR : 7 + 1 ≤ R.frames ∧ 8 + (4 + 11) + 40 * 7 ≤ R.locals) (hcs : cells + 15 ≤ R.cells ∧ slots + 1014 ≤ R.slots) (hc : cells + 15 ≤ mc ∧ slots + 1014 ≤ ms) (hw : (rest.map fun v => v.category).sum ≤ 8) (hdg : decode b pc = .ok (.invokevirtual index, 3)) (hx : k1 ≠ 0 → k1 = k ∧ V1 = Vz) (kk : k1 = 0 → ∀ (H1 : Heap) (locs1 : List Loc), In E ad V1 s H1 locs1 → W p l e R s m args below meth c H1 locs1 (cells + 15) (slots + 1014) (vx_MQ below Qc (QX E ad k Vz) args s mc ms (ours E)) (F0 m (pc + 3) ls ((.int r) :: rest))) : W p l e R s m args below meth c H locs cells slots (vx_MQ below Qc (QX E ad k Vz) args s mc ms (ours E)) (F0 m pc ls (.int a1 :: .ref (ad 248) :: rest)) :=
  after_callX hC hY hI (xrunV_tb (As := [.int a1]) (rest := rest) hC hI hsz (m_X9_formatBranch l hY.2 E ad V a1 hS hFr k1 r V1 hf) cv_X9_formatBranch hl (by decide) (ce_248 _) rfl rfl rfl hR hcs hw hdg) hc hx kk

theorem dX9_formatMerge_0 : decode cX9_formatMerge 0 = .ok (.aload_n 0, 1) := by decide +kernel
theorem dX9_formatMerge_1 : decode cX9_formatMerge 1 = .ok (.iload_n 1, 1) := by decide +kernel
theorem dX9_formatMerge_2 : decode cX9_formatMerge 2 = .ok (.iload_n 2, 1) := by decide +kernel
theorem dX9_formatMerge_3 : decode cX9_formatMerge 3 = .ok (.invokevirtual 234, 3) := by decide +kernel
theorem dX9_formatMerge_6 : decode cX9_formatMerge 6 = .ok (.aload_n 0, 1) := by decide +kernel
theorem dX9_formatMerge_7 : decode cX9_formatMerge 7 = .ok (.getfield 40, 3) := by decide +kernel
theorem dX9_formatMerge_10 : decode cX9_formatMerge 10 = .ok (.iconst 0, 1) := by decide +kernel
theorem dX9_formatMerge_11 : decode cX9_formatMerge 11 = .ok (.invokevirtual 291, 3) := by decide +kernel
theorem dX9_formatMerge_14 : decode cX9_formatMerge 14 = .ok (.iconst 0, 1) := by decide +kernel
theorem dX9_formatMerge_15 : decode cX9_formatMerge 15 = .ok (.istore_n 3, 1) := by decide +kernel
theorem dX9_formatMerge_16 : decode cX9_formatMerge 16 = .ok (.iload_n 3, 1) := by decide +kernel
theorem dX9_formatMerge_17 : decode cX9_formatMerge 17 = .ok (.bipush 8, 2) := by decide +kernel
theorem dX9_formatMerge_19 : decode cX9_formatMerge 19 = .ok (.if_icmp .ge 28, 3) := by decide +kernel
theorem dX9_formatMerge_22 : decode cX9_formatMerge 22 = .ok (.aload_n 0, 1) := by decide +kernel
theorem dX9_formatMerge_23 : decode cX9_formatMerge 23 = .ok (.getfield 40, 3) := by decide +kernel
theorem dX9_formatMerge_26 : decode cX9_formatMerge 26 = .ok (.aload_n 0, 1) := by decide +kernel
theorem dX9_formatMerge_27 : decode cX9_formatMerge 27 = .ok (.getfield 10, 3) := by decide +kernel
theorem dX9_formatMerge_30 : decode cX9_formatMerge 30 = .ok (.iload_n 1, 1) := by decide +kernel
theorem dX9_formatMerge_31 : decode cX9_formatMerge 31 = .ok (.iload_n 2, 1) := by decide +kernel
theorem dX9_formatMerge_32 : decode cX9_formatMerge 32 = .ok (.iload_n 3, 1) := by decide +kernel
theorem dX9_formatMerge_33 : decode cX9_formatMerge 33 = .ok (.invokevirtual 250, 3) := by decide +kernel
theorem dX9_formatMerge_36 : decode cX9_formatMerge 36 = .ok (.i2c, 1) := by decide +kernel
theorem dX9_formatMerge_37 : decode cX9_formatMerge 37 = .ok (.invokevirtual 294, 3) := by decide +kernel
theorem dX9_formatMerge_40 : decode cX9_formatMerge 40 = .ok (.pop, 1) := by decide +kernel
theorem dX9_formatMerge_41 : decode cX9_formatMerge 41 = .ok (.iinc 3 1, 3) := by decide +kernel
theorem dX9_formatMerge_44 : decode cX9_formatMerge 44 = .ok (.goto (-28), 3) := by decide +kernel
theorem dX9_formatMerge_47 : decode cX9_formatMerge 47 = .ok (.aload_n 0, 1) := by decide +kernel
theorem dX9_formatMerge_48 : decode cX9_formatMerge 48 = .ok (.getfield 40, 3) := by decide +kernel
theorem dX9_formatMerge_51 : decode cX9_formatMerge 51 = .ok (.invokevirtual 316, 3) := by decide +kernel
theorem dX9_formatMerge_54 : decode cX9_formatMerge 54 = .ok (.ireturn, 1) := by decide +kernel
def f_X9_formatMerge (V : Mem) (a1 : Int32) (a2 : Int32) : Option (Nat × Int32 × Mem) :=
  bw 0 (f_X9_requirePair V a1 a2) fun V3 =>
  bv (f_J4_setLength_d00df V3 251 0) fun V11 =>
  bd (f_X8_mergedSign V11 a1 a2 0) fun r33 V33 =>
  bv (f_J4_append_cf468 V33 251 (((r33 : Int32).toUInt32 % 65536).toInt32)) fun V37 =>
  bd (f_X8_mergedSign V37 a1 a2 1) fun r33 V33 =>
  bv (f_J4_append_cf468 V33 251 (((r33 : Int32).toUInt32 % 65536).toInt32)) fun V37 =>
  bd (f_X8_mergedSign V37 a1 a2 2) fun r33 V33 =>
  bv (f_J4_append_cf468 V33 251 (((r33 : Int32).toUInt32 % 65536).toInt32)) fun V37 =>
  bd (f_X8_mergedSign V37 a1 a2 3) fun r33 V33 =>
  bv (f_J4_append_cf468 V33 251 (((r33 : Int32).toUInt32 % 65536).toInt32)) fun V37 =>
  bd (f_X8_mergedSign V37 a1 a2 4) fun r33 V33 =>
  bv (f_J4_append_cf468 V33 251 (((r33 : Int32).toUInt32 % 65536).toInt32)) fun V37 =>
  bd (f_X8_mergedSign V37 a1 a2 5) fun r33 V33 =>
  bv (f_J4_append_cf468 V33 251 (((r33 : Int32).toUInt32 % 65536).toInt32)) fun V37 =>
  bd (f_X8_mergedSign V37 a1 a2 6) fun r33 V33 =>
  bv (f_J4_append_cf468 V33 251 (((r33 : Int32).toUInt32 % 65536).toInt32)) fun V37 =>
  bd (f_X8_mergedSign V37 a1 a2 7) fun r33 V33 =>
  bv (f_J4_append_cf468 V33 251 (((r33 : Int32).toUInt32 % 65536).toInt32)) fun V37 =>
  bd (f_J4_length_8abf5 V37 251) fun r51 V51 =>
  some (0, r51, V51)
theorem cv_X9_formatMerge : CalV yX9_formatMerge cX9_formatMerge 4 (some .int) 2 := ⟨⟨⟨by decide +kernel, by decide +kernel⟩, tw_1_1, tw_6_229, by decide +kernel⟩, tw_6_227, tw_6_228⟩
set_option maxRecDepth 100000 in
set_option maxHeartbeats 4000000 in
theorem m_X9_formatMerge (l : Launch) (hT : l.stackTraces = false) (E : En) (ad : Nat → Nat) (V : Mem) (a1 : Int32) (a2 : Int32) (hS : SF E) (hFr : Fr E) (k : Nat) (r : Int32) (Vz : Mem) (hf : f_X9_formatMerge V a1 a2 = some (k, r, Vz)) : MX l E ad yX9_formatMerge cX9_formatMerge 4 (some .int) 8 10 654 [.ref (ad 248), .int a1, .int a2] V k (some (.int r)) Vz := by
  refine entX (E := E) (ad := ad) (V := V) "LetterRepository" hT (by decide +kernel) rfl (Nat.le_of_ble_eq_true rfl) ?_
  intro p e s m below meth c ls hC hY hI hl
  have hx := hC.1
  have hb := hC.2.1
  have hl : lv_has ls 4 [(0, .ref (ad 248)), (1, .int a1), (2, .int a2)] := hl
  unfold f_X9_formatMerge at hf
  refine lv_aload_n hx hb dX9_formatMerge_0 rfl (lv_at hl 0 rfl) ?_
  refine lv_iload_n hx hb dX9_formatMerge_1 rfl (lv_at hl 1 rfl) ?_
  refine lv_iload_n hx hb dX9_formatMerge_2 rfl (lv_at hl 2 rfl) ?_
  obtain ⟨q3, V3, e3, hf⟩ := gbw hf
  refine kx_X9_requirePair hS hC hY hI hl.1 e3 tw_5_87 ⟨Nat.le_of_ble_eq_true rfl, Nat.le_of_ble_eq_true rfl⟩ ⟨Nat.le_of_ble_eq_true rfl, Nat.le_of_ble_eq_true rfl⟩ ⟨Nat.le_of_ble_eq_true rfl, Nat.le_of_ble_eq_true rfl⟩ (Nat.le_of_ble_eq_true rfl) dX9_formatMerge_3 (fun h0 => hx3 ((if_neg h0).symm.trans hf)) (fun h0 H locs hI => ?_)
  have hf := (if_pos h0).symm.trans hf
  refine lv_aload_n hx hb dX9_formatMerge_6 rfl (lv_at hl 0 rfl) ?_
  refine g_248_line hC hI tw_1_218 dX9_formatMerge_7 ?_
  refine lv_iconst (v := 0) hx hb dX9_formatMerge_10 rfl ?_
  obtain ⟨V11, q11, hf⟩ := gbv hf
  refine ka_J4_setLength_d00df hS hFr (.inr rfl) hC hI hl.1 q11 tw_5_154 ⟨Nat.le_of_ble_eq_true rfl, Nat.le_of_ble_eq_true rfl⟩ ⟨Nat.le_of_ble_eq_true rfl, Nat.le_of_ble_eq_true rfl⟩ (Nat.le_of_ble_eq_true rfl) dX9_formatMerge_11 (fun H locs hI => ?_)
  refine lv_iconst (v := 0) hx hb dX9_formatMerge_14 rfl ?_
  refine lv_istore_n (lv' := [(3, .int 0), (0, .ref (ad 248)), (1, .int a1), (2, .int a2)]) hx hb dX9_formatMerge_15 rfl hl (Nat.lt_of_lt_of_eq (by decide) rfl) rfl (fun ls hl => ?_)
  refine lv_iload_n hx hb dX9_formatMerge_16 rfl (lv_at hl 0 rfl) ?_
  refine lv_bipush (v := 8) hx hb dX9_formatMerge_17 rfl ?_
  refine lv_icmp_ge (tgt := 47) hx hb dX9_formatMerge_19 (by decide) (fun c19 => (absurd c19 (by decide))) (fun c19 => ?_)
  refine lv_aload_n hx hb dX9_formatMerge_22 rfl (lv_at hl 1 rfl) ?_
  refine g_248_line hC hI tw_1_218 dX9_formatMerge_23 ?_
  refine lv_aload_n hx hb dX9_formatMerge_26 rfl (lv_at hl 1 rfl) ?_
  refine g_248_store hC hI tw_1_213 dX9_formatMerge_27 ?_
  refine lv_iload_n hx hb dX9_formatMerge_30 rfl (lv_at hl 2 rfl) ?_
  refine lv_iload_n hx hb dX9_formatMerge_31 rfl (lv_at hl 3 rfl) ?_
  refine lv_iload_n hx hb dX9_formatMerge_32 rfl (lv_at hl 0 rfl) ?_
  obtain ⟨r33, V33, q33, hf⟩ := gbd hf
  refine k_X8_mergedSign hC hI hl.1 q33 tw_5_119 ⟨Nat.le_of_ble_eq_true rfl, Nat.le_of_ble_eq_true rfl⟩ ⟨Nat.le_of_ble_eq_true rfl, Nat.le_of_ble_eq_true rfl⟩ (Nat.le_of_ble_eq_true rfl) dX9_formatMerge_33 (fun H locs hI => ?_)
  refine lv_i2c hx hb dX9_formatMerge_36 rfl ?_
  obtain ⟨V37, q37, hf⟩ := gbv hf
  refine ka_J4_append_cf468 hS hFr (.inr rfl) hC hI hl.1 q37 tw_6_183 ⟨Nat.le_of_ble_eq_true rfl, Nat.le_of_ble_eq_true rfl⟩ ⟨Nat.le_of_ble_eq_true rfl, Nat.le_of_ble_eq_true rfl⟩ (Nat.le_of_ble_eq_true rfl) dX9_formatMerge_37 (fun H locs hI => ?_)
  refine lv_pop hx hb dX9_formatMerge_40 rfl ?_
  refine lv_iinc (v := 1) (lv' := [(3, .int 1), (0, .ref (ad 248)), (1, .int a1), (2, .int a2)]) hx hb dX9_formatMerge_41 hl (k := 0) rfl rfl (Nat.lt_of_lt_of_eq (by decide) rfl) rfl (fun ls hl => ?_)
  refine lv_goto (tgt := 16) hx hb dX9_formatMerge_44 (by decide) ?_
  refine lv_iload_n hx hb dX9_formatMerge_16 rfl (lv_at hl 0 rfl) ?_
  refine lv_bipush (v := 8) hx hb dX9_formatMerge_17 rfl ?_
  refine lv_icmp_ge (tgt := 47) hx hb dX9_formatMerge_19 (by decide) (fun c19 => (absurd c19 (by decide))) (fun c19 => ?_)
  refine lv_aload_n hx hb dX9_formatMerge_22 rfl (lv_at hl 1 rfl) ?_
  refine g_248_line hC hI tw_1_218 dX9_formatMerge_23 ?_
  refine lv_aload_n hx hb dX9_formatMerge_26 rfl (lv_at hl 1 rfl) ?_
  refine g_248_store hC hI tw_1_213 dX9_formatMerge_27 ?_
  refine lv_iload_n hx hb dX9_formatMerge_30 rfl (lv_at hl 2 rfl) ?_
  refine lv_iload_n hx hb dX9_formatMerge_31 rfl (lv_at hl 3 rfl) ?_
  refine lv_iload_n hx hb dX9_formatMerge_32 rfl (lv_at hl 0 rfl) ?_
  obtain ⟨r33, V33, q33, hf⟩ := gbd hf
  refine k_X8_mergedSign hC hI hl.1 q33 tw_5_119 ⟨Nat.le_of_ble_eq_true rfl, Nat.le_of_ble_eq_true rfl⟩ ⟨Nat.le_of_ble_eq_true rfl, Nat.le_of_ble_eq_true rfl⟩ (Nat.le_of_ble_eq_true rfl) dX9_formatMerge_33 (fun H locs hI => ?_)
  refine lv_i2c hx hb dX9_formatMerge_36 rfl ?_
  obtain ⟨V37, q37, hf⟩ := gbv hf
  refine ka_J4_append_cf468 hS hFr (.inr rfl) hC hI hl.1 q37 tw_6_183 ⟨Nat.le_of_ble_eq_true rfl, Nat.le_of_ble_eq_true rfl⟩ ⟨Nat.le_of_ble_eq_true rfl, Nat.le_of_ble_eq_true rfl⟩ (Nat.le_of_ble_eq_true rfl) dX9_formatMerge_37 (fun H locs hI => ?_)
  refine lv_pop hx hb dX9_formatMerge_40 rfl ?_
  refine lv_iinc (v := 2) (lv' := [(3, .int 2), (0, .ref (ad 248)), (1, .int a1), (2, .int a2)]) hx hb dX9_formatMerge_41 hl (k := 0) rfl rfl (Nat.lt_of_lt_of_eq (by decide) rfl) rfl (fun ls hl => ?_)
  refine lv_goto (tgt := 16) hx hb dX9_formatMerge_44 (by decide) ?_
  refine lv_iload_n hx hb dX9_formatMerge_16 rfl (lv_at hl 0 rfl) ?_
  refine lv_bipush (v := 8) hx hb dX9_formatMerge_17 rfl ?_
  refine lv_icmp_ge (tgt := 47) hx hb dX9_formatMerge_19 (by decide) (fun c19 => (absurd c19 (by decide))) (fun c19 => ?_)
  refine lv_aload_n hx hb dX9_formatMerge_22 rfl (lv_at hl 1 rfl) ?_
  refine g_248_line hC hI tw_1_218 dX9_formatMerge_23 ?_
  refine lv_aload_n hx hb dX9_formatMerge_26 rfl (lv_at hl 1 rfl) ?_
  refine g_248_store hC hI tw_1_213 dX9_formatMerge_27 ?_
  refine lv_iload_n hx hb dX9_formatMerge_30 rfl (lv_at hl 2 rfl) ?_
  refine lv_iload_n hx hb dX9_formatMerge_31 rfl (lv_at hl 3 rfl) ?_
  refine lv_iload_n hx hb dX9_formatMerge_32 rfl (lv_at hl 0 rfl) ?_
  obtain ⟨r33, V33, q33, hf⟩ := gbd hf
  refine k_X8_mergedSign hC hI hl.1 q33 tw_5_119 ⟨Nat.le_of_ble_eq_true rfl, Nat.le_of_ble_eq_true rfl⟩ ⟨Nat.le_of_ble_eq_true rfl, Nat.le_of_ble_eq_true rfl⟩ (Nat.le_of_ble_eq_true rfl) dX9_formatMerge_33 (fun H locs hI => ?_)
  refine lv_i2c hx hb dX9_formatMerge_36 rfl ?_
  obtain ⟨V37, q37, hf⟩ := gbv hf
  refine ka_J4_append_cf468 hS hFr (.inr rfl) hC hI hl.1 q37 tw_6_183 ⟨Nat.le_of_ble_eq_true rfl, Nat.le_of_ble_eq_true rfl⟩ ⟨Nat.le_of_ble_eq_true rfl, Nat.le_of_ble_eq_true rfl⟩ (Nat.le_of_ble_eq_true rfl) dX9_formatMerge_37 (fun H locs hI => ?_)
  refine lv_pop hx hb dX9_formatMerge_40 rfl ?_
  refine lv_iinc (v := 3) (lv' := [(3, .int 3), (0, .ref (ad 248)), (1, .int a1), (2, .int a2)]) hx hb dX9_formatMerge_41 hl (k := 0) rfl rfl (Nat.lt_of_lt_of_eq (by decide) rfl) rfl (fun ls hl => ?_)
  refine lv_goto (tgt := 16) hx hb dX9_formatMerge_44 (by decide) ?_
  refine lv_iload_n hx hb dX9_formatMerge_16 rfl (lv_at hl 0 rfl) ?_
  refine lv_bipush (v := 8) hx hb dX9_formatMerge_17 rfl ?_
  refine lv_icmp_ge (tgt := 47) hx hb dX9_formatMerge_19 (by decide) (fun c19 => (absurd c19 (by decide))) (fun c19 => ?_)
  refine lv_aload_n hx hb dX9_formatMerge_22 rfl (lv_at hl 1 rfl) ?_
  refine g_248_line hC hI tw_1_218 dX9_formatMerge_23 ?_
  refine lv_aload_n hx hb dX9_formatMerge_26 rfl (lv_at hl 1 rfl) ?_
  refine g_248_store hC hI tw_1_213 dX9_formatMerge_27 ?_
  refine lv_iload_n hx hb dX9_formatMerge_30 rfl (lv_at hl 2 rfl) ?_
  refine lv_iload_n hx hb dX9_formatMerge_31 rfl (lv_at hl 3 rfl) ?_
  refine lv_iload_n hx hb dX9_formatMerge_32 rfl (lv_at hl 0 rfl) ?_
  obtain ⟨r33, V33, q33, hf⟩ := gbd hf
  refine k_X8_mergedSign hC hI hl.1 q33 tw_5_119 ⟨Nat.le_of_ble_eq_true rfl, Nat.le_of_ble_eq_true rfl⟩ ⟨Nat.le_of_ble_eq_true rfl, Nat.le_of_ble_eq_true rfl⟩ (Nat.le_of_ble_eq_true rfl) dX9_formatMerge_33 (fun H locs hI => ?_)
  refine lv_i2c hx hb dX9_formatMerge_36 rfl ?_
  obtain ⟨V37, q37, hf⟩ := gbv hf
  refine ka_J4_append_cf468 hS hFr (.inr rfl) hC hI hl.1 q37 tw_6_183 ⟨Nat.le_of_ble_eq_true rfl, Nat.le_of_ble_eq_true rfl⟩ ⟨Nat.le_of_ble_eq_true rfl, Nat.le_of_ble_eq_true rfl⟩ (Nat.le_of_ble_eq_true rfl) dX9_formatMerge_37 (fun H locs hI => ?_)
  refine lv_pop hx hb dX9_formatMerge_40 rfl ?_
  refine lv_iinc (v := 4) (lv' := [(3, .int 4), (0, .ref (ad 248)), (1, .int a1), (2, .int a2)]) hx hb dX9_formatMerge_41 hl (k := 0) rfl rfl (Nat.lt_of_lt_of_eq (by decide) rfl) rfl (fun ls hl => ?_)
  refine lv_goto (tgt := 16) hx hb dX9_formatMerge_44 (by decide) ?_
  refine lv_iload_n hx hb dX9_formatMerge_16 rfl (lv_at hl 0 rfl) ?_
  refine lv_bipush (v := 8) hx hb dX9_formatMerge_17 rfl ?_
  refine lv_icmp_ge (tgt := 47) hx hb dX9_formatMerge_19 (by decide) (fun c19 => (absurd c19 (by decide))) (fun c19 => ?_)
  refine lv_aload_n hx hb dX9_formatMerge_22 rfl (lv_at hl 1 rfl) ?_
  refine g_248_line hC hI tw_1_218 dX9_formatMerge_23 ?_
  refine lv_aload_n hx hb dX9_formatMerge_26 rfl (lv_at hl 1 rfl) ?_
  refine g_248_store hC hI tw_1_213 dX9_formatMerge_27 ?_
  refine lv_iload_n hx hb dX9_formatMerge_30 rfl (lv_at hl 2 rfl) ?_
  refine lv_iload_n hx hb dX9_formatMerge_31 rfl (lv_at hl 3 rfl) ?_
  refine lv_iload_n hx hb dX9_formatMerge_32 rfl (lv_at hl 0 rfl) ?_
  obtain ⟨r33, V33, q33, hf⟩ := gbd hf
  refine k_X8_mergedSign hC hI hl.1 q33 tw_5_119 ⟨Nat.le_of_ble_eq_true rfl, Nat.le_of_ble_eq_true rfl⟩ ⟨Nat.le_of_ble_eq_true rfl, Nat.le_of_ble_eq_true rfl⟩ (Nat.le_of_ble_eq_true rfl) dX9_formatMerge_33 (fun H locs hI => ?_)
  refine lv_i2c hx hb dX9_formatMerge_36 rfl ?_
  obtain ⟨V37, q37, hf⟩ := gbv hf
  refine ka_J4_append_cf468 hS hFr (.inr rfl) hC hI hl.1 q37 tw_6_183 ⟨Nat.le_of_ble_eq_true rfl, Nat.le_of_ble_eq_true rfl⟩ ⟨Nat.le_of_ble_eq_true rfl, Nat.le_of_ble_eq_true rfl⟩ (Nat.le_of_ble_eq_true rfl) dX9_formatMerge_37 (fun H locs hI => ?_)
  refine lv_pop hx hb dX9_formatMerge_40 rfl ?_
  refine lv_iinc (v := 5) (lv' := [(3, .int 5), (0, .ref (ad 248)), (1, .int a1), (2, .int a2)]) hx hb dX9_formatMerge_41 hl (k := 0) rfl rfl (Nat.lt_of_lt_of_eq (by decide) rfl) rfl (fun ls hl => ?_)
  refine lv_goto (tgt := 16) hx hb dX9_formatMerge_44 (by decide) ?_
  refine lv_iload_n hx hb dX9_formatMerge_16 rfl (lv_at hl 0 rfl) ?_
  refine lv_bipush (v := 8) hx hb dX9_formatMerge_17 rfl ?_
  refine lv_icmp_ge (tgt := 47) hx hb dX9_formatMerge_19 (by decide) (fun c19 => (absurd c19 (by decide))) (fun c19 => ?_)
  refine lv_aload_n hx hb dX9_formatMerge_22 rfl (lv_at hl 1 rfl) ?_
  refine g_248_line hC hI tw_1_218 dX9_formatMerge_23 ?_
  refine lv_aload_n hx hb dX9_formatMerge_26 rfl (lv_at hl 1 rfl) ?_
  refine g_248_store hC hI tw_1_213 dX9_formatMerge_27 ?_
  refine lv_iload_n hx hb dX9_formatMerge_30 rfl (lv_at hl 2 rfl) ?_
  refine lv_iload_n hx hb dX9_formatMerge_31 rfl (lv_at hl 3 rfl) ?_
  refine lv_iload_n hx hb dX9_formatMerge_32 rfl (lv_at hl 0 rfl) ?_
  obtain ⟨r33, V33, q33, hf⟩ := gbd hf
  refine k_X8_mergedSign hC hI hl.1 q33 tw_5_119 ⟨Nat.le_of_ble_eq_true rfl, Nat.le_of_ble_eq_true rfl⟩ ⟨Nat.le_of_ble_eq_true rfl, Nat.le_of_ble_eq_true rfl⟩ (Nat.le_of_ble_eq_true rfl) dX9_formatMerge_33 (fun H locs hI => ?_)
  refine lv_i2c hx hb dX9_formatMerge_36 rfl ?_
  obtain ⟨V37, q37, hf⟩ := gbv hf
  refine ka_J4_append_cf468 hS hFr (.inr rfl) hC hI hl.1 q37 tw_6_183 ⟨Nat.le_of_ble_eq_true rfl, Nat.le_of_ble_eq_true rfl⟩ ⟨Nat.le_of_ble_eq_true rfl, Nat.le_of_ble_eq_true rfl⟩ (Nat.le_of_ble_eq_true rfl) dX9_formatMerge_37 (fun H locs hI => ?_)
  refine lv_pop hx hb dX9_formatMerge_40 rfl ?_
  refine lv_iinc (v := 6) (lv' := [(3, .int 6), (0, .ref (ad 248)), (1, .int a1), (2, .int a2)]) hx hb dX9_formatMerge_41 hl (k := 0) rfl rfl (Nat.lt_of_lt_of_eq (by decide) rfl) rfl (fun ls hl => ?_)
  refine lv_goto (tgt := 16) hx hb dX9_formatMerge_44 (by decide) ?_
  refine lv_iload_n hx hb dX9_formatMerge_16 rfl (lv_at hl 0 rfl) ?_
  refine lv_bipush (v := 8) hx hb dX9_formatMerge_17 rfl ?_
  refine lv_icmp_ge (tgt := 47) hx hb dX9_formatMerge_19 (by decide) (fun c19 => (absurd c19 (by decide))) (fun c19 => ?_)
  refine lv_aload_n hx hb dX9_formatMerge_22 rfl (lv_at hl 1 rfl) ?_
  refine g_248_line hC hI tw_1_218 dX9_formatMerge_23 ?_
  refine lv_aload_n hx hb dX9_formatMerge_26 rfl (lv_at hl 1 rfl) ?_
  refine g_248_store hC hI tw_1_213 dX9_formatMerge_27 ?_
  refine lv_iload_n hx hb dX9_formatMerge_30 rfl (lv_at hl 2 rfl) ?_
  refine lv_iload_n hx hb dX9_formatMerge_31 rfl (lv_at hl 3 rfl) ?_
  refine lv_iload_n hx hb dX9_formatMerge_32 rfl (lv_at hl 0 rfl) ?_
  obtain ⟨r33, V33, q33, hf⟩ := gbd hf
  refine k_X8_mergedSign hC hI hl.1 q33 tw_5_119 ⟨Nat.le_of_ble_eq_true rfl, Nat.le_of_ble_eq_true rfl⟩ ⟨Nat.le_of_ble_eq_true rfl, Nat.le_of_ble_eq_true rfl⟩ (Nat.le_of_ble_eq_true rfl) dX9_formatMerge_33 (fun H locs hI => ?_)
  refine lv_i2c hx hb dX9_formatMerge_36 rfl ?_
  obtain ⟨V37, q37, hf⟩ := gbv hf
  refine ka_J4_append_cf468 hS hFr (.inr rfl) hC hI hl.1 q37 tw_6_183 ⟨Nat.le_of_ble_eq_true rfl, Nat.le_of_ble_eq_true rfl⟩ ⟨Nat.le_of_ble_eq_true rfl, Nat.le_of_ble_eq_true rfl⟩ (Nat.le_of_ble_eq_true rfl) dX9_formatMerge_37 (fun H locs hI => ?_)
  refine lv_pop hx hb dX9_formatMerge_40 rfl ?_
  refine lv_iinc (v := 7) (lv' := [(3, .int 7), (0, .ref (ad 248)), (1, .int a1), (2, .int a2)]) hx hb dX9_formatMerge_41 hl (k := 0) rfl rfl (Nat.lt_of_lt_of_eq (by decide) rfl) rfl (fun ls hl => ?_)
  refine lv_goto (tgt := 16) hx hb dX9_formatMerge_44 (by decide) ?_
  refine lv_iload_n hx hb dX9_formatMerge_16 rfl (lv_at hl 0 rfl) ?_
  refine lv_bipush (v := 8) hx hb dX9_formatMerge_17 rfl ?_
  refine lv_icmp_ge (tgt := 47) hx hb dX9_formatMerge_19 (by decide) (fun c19 => (absurd c19 (by decide))) (fun c19 => ?_)
  refine lv_aload_n hx hb dX9_formatMerge_22 rfl (lv_at hl 1 rfl) ?_
  refine g_248_line hC hI tw_1_218 dX9_formatMerge_23 ?_
  refine lv_aload_n hx hb dX9_formatMerge_26 rfl (lv_at hl 1 rfl) ?_
  refine g_248_store hC hI tw_1_213 dX9_formatMerge_27 ?_
  refine lv_iload_n hx hb dX9_formatMerge_30 rfl (lv_at hl 2 rfl) ?_
  refine lv_iload_n hx hb dX9_formatMerge_31 rfl (lv_at hl 3 rfl) ?_
  refine lv_iload_n hx hb dX9_formatMerge_32 rfl (lv_at hl 0 rfl) ?_
  obtain ⟨r33, V33, q33, hf⟩ := gbd hf
  refine k_X8_mergedSign hC hI hl.1 q33 tw_5_119 ⟨Nat.le_of_ble_eq_true rfl, Nat.le_of_ble_eq_true rfl⟩ ⟨Nat.le_of_ble_eq_true rfl, Nat.le_of_ble_eq_true rfl⟩ (Nat.le_of_ble_eq_true rfl) dX9_formatMerge_33 (fun H locs hI => ?_)
  refine lv_i2c hx hb dX9_formatMerge_36 rfl ?_
  obtain ⟨V37, q37, hf⟩ := gbv hf
  refine ka_J4_append_cf468 hS hFr (.inr rfl) hC hI hl.1 q37 tw_6_183 ⟨Nat.le_of_ble_eq_true rfl, Nat.le_of_ble_eq_true rfl⟩ ⟨Nat.le_of_ble_eq_true rfl, Nat.le_of_ble_eq_true rfl⟩ (Nat.le_of_ble_eq_true rfl) dX9_formatMerge_37 (fun H locs hI => ?_)
  refine lv_pop hx hb dX9_formatMerge_40 rfl ?_
  refine lv_iinc (v := 8) (lv' := [(3, .int 8), (0, .ref (ad 248)), (1, .int a1), (2, .int a2)]) hx hb dX9_formatMerge_41 hl (k := 0) rfl rfl (Nat.lt_of_lt_of_eq (by decide) rfl) rfl (fun ls hl => ?_)
  refine lv_goto (tgt := 16) hx hb dX9_formatMerge_44 (by decide) ?_
  refine lv_iload_n hx hb dX9_formatMerge_16 rfl (lv_at hl 0 rfl) ?_
  refine lv_bipush (v := 8) hx hb dX9_formatMerge_17 rfl ?_
  refine lv_icmp_ge (tgt := 47) hx hb dX9_formatMerge_19 (by decide) (fun c19 => ?_) (fun c19 => (absurd c19 (by decide)))
  refine lv_aload_n hx hb dX9_formatMerge_47 rfl (lv_at hl 1 rfl) ?_
  refine g_248_line hC hI tw_1_218 dX9_formatMerge_48 ?_
  obtain ⟨r51, V51, q51, hf⟩ := gbd hf
  refine k_J4_length_8abf5 (.inr rfl) hC hI hl.1 q51 tw_6_215 ⟨Nat.le_of_ble_eq_true rfl, Nat.le_of_ble_eq_true rfl⟩ ⟨Nat.le_of_ble_eq_true rfl, Nat.le_of_ble_eq_true rfl⟩ (Nat.le_of_ble_eq_true rfl) dX9_formatMerge_51 (fun H locs hI => ?_)
  exact x_iret hC hI hf ⟨Nat.le_of_ble_eq_true rfl, Nat.le_of_ble_eq_true rfl⟩ dX9_formatMerge_54
theorem kx_X9_formatMerge {p : Program} {l : Launch} {e : Env} {R : Room} {cells slots mc ms : Nat} {s : State} {m : MethodId} {args : Array Value} {below : List Frame} {meth : Method} {c : Code} {H : Heap} {locs : List Loc} {Qc : Array Value → State → Outcome → State → Prop} {E : En} {ad : Nat → Nat} {V : Mem} {ow : String} {b : ByteArray} {n : Nat} {ret : Option FieldType} {pc index : Nat} {ls : Array Slot} {rest : List Value} {a1 : Int32} {a2 : Int32} {k1 k : Nat} {r : Int32} {V1 Vz : Mem} (hS : SF E) (hFr : Fr E) (hC : Cx p s m args c meth E ow b n ret) (hY : Cy l c) (hI : In E ad V s H locs) (hsz : ls.size = n) (hf : f_X9_formatMerge V a1 a2 = some (k1, r, V1)) (hl : Cond.methodLink ow index yX9_formatMerge ∈ TB) (hR : 8 + 1 ≤ R.frames ∧ 8 + (4 + 11) + 40 * 8 ≤ R.locals) (hcs : cells + 10 ≤ R.cells ∧ slots + 654 ≤ R.slots) (hc : cells + 10 ≤ mc ∧ slots + 654 ≤ ms) (hw : (rest.map fun v => v.category).sum ≤ 8) (hdg : decode b pc = .ok (.invokevirtual index, 3)) (hx : k1 ≠ 0 → k1 = k ∧ V1 = Vz) (kk : k1 = 0 → ∀ (H1 : Heap) (locs1 : List Loc), In E ad V1 s H1 locs1 → W p l e R s m args below meth c H1 locs1 (cells + 10) (slots + 654) (vx_MQ below Qc (QX E ad k Vz) args s mc ms (ours E)) (F0 m (pc + 3) ls ((.int r) :: rest))) : W p l e R s m args below meth c H locs cells slots (vx_MQ below Qc (QX E ad k Vz) args s mc ms (ours E)) (F0 m pc ls (.int a2 :: .int a1 :: .ref (ad 248) :: rest)) :=
  after_callX hC hY hI (xrunV_tb (As := [.int a1, .int a2]) (rest := rest) hC hI hsz (m_X9_formatMerge l hY.2 E ad V a1 a2 hS hFr k1 r V1 hf) cv_X9_formatMerge hl (by decide) (ce_248 _) rfl rfl rfl hR hcs hw hdg) hc hx kk

theorem dX9_lineChar_0 : decode cX9_lineChar 0 = .ok (.iload_n 1, 1) := by decide +kernel
theorem dX9_lineChar_1 : decode cX9_lineChar 1 = .ok (.ifCond .lt 14, 3) := by decide +kernel
theorem dX9_lineChar_4 : decode cX9_lineChar 4 = .ok (.iload_n 1, 1) := by decide +kernel
theorem dX9_lineChar_5 : decode cX9_lineChar 5 = .ok (.aload_n 0, 1) := by decide +kernel
theorem dX9_lineChar_6 : decode cX9_lineChar 6 = .ok (.getfield 40, 3) := by decide +kernel
theorem dX9_lineChar_9 : decode cX9_lineChar 9 = .ok (.invokevirtual 316, 3) := by decide +kernel
theorem dX9_lineChar_12 : decode cX9_lineChar 12 = .ok (.if_icmp .lt 14, 3) := by decide +kernel
theorem dX9_lineChar_15 : decode cX9_lineChar 15 = .ok (.new 319, 3) := by decide +kernel
theorem dX9_lineChar_18 : decode cX9_lineChar 18 = .ok (.dup, 1) := by decide +kernel
theorem dX9_lineChar_19 : decode cX9_lineChar 19 = .ok (.ldc_w 321, 3) := by decide +kernel
theorem dX9_lineChar_22 : decode cX9_lineChar 22 = .ok (.invokespecial 323, 3) := by decide +kernel
theorem dX9_lineChar_25 : decode cX9_lineChar 25 = .ok (.athrow, 1) := by decide +kernel
theorem dX9_lineChar_26 : decode cX9_lineChar 26 = .ok (.aload_n 0, 1) := by decide +kernel
theorem dX9_lineChar_27 : decode cX9_lineChar 27 = .ok (.getfield 40, 3) := by decide +kernel
theorem dX9_lineChar_30 : decode cX9_lineChar 30 = .ok (.iload_n 1, 1) := by decide +kernel
theorem dX9_lineChar_31 : decode cX9_lineChar 31 = .ok (.invokevirtual 324, 3) := by decide +kernel
theorem dX9_lineChar_34 : decode cX9_lineChar 34 = .ok (.ireturn, 1) := by decide +kernel
def f_X9_lineChar (V : Mem) (a1 : Int32) : Option (Nat × Int32 × Mem) :=
  jn (α := Mem → Option (Nat × Int32 × Mem)) (fun j15 =>
    if a1 < 0 then
      j15 V
    else
      bd (f_J4_length_8abf5 V 251) fun r9 V9 =>
      if a1 < r9 then
        bd (f_J4_charAt_5068e V9 251 a1) fun r31 V31 =>
        if ((r31 : Int32).toUInt32 % 65536).toInt32 = r31 then
          some (0, r31, V31)
        else none
      else
        j15 V9
  ) (fun (V15 : Mem) =>
    some (1, 0, V15)
  )
theorem cv_X9_lineChar : CalV yX9_lineChar cX9_lineChar 2 (some .char) 1 := ⟨⟨⟨by decide +kernel, by decide +kernel⟩, tw_1_1, tw_6_236, by decide +kernel⟩, tw_6_234, tw_6_235⟩
set_option maxRecDepth 100000 in
set_option maxHeartbeats 4000000 in
theorem m_X9_lineChar (l : Launch) (hT : l.stackTraces = false) (E : En) (ad : Nat → Nat) (V : Mem) (a1 : Int32) (hS : SF E) (hFr : Fr E) (k : Nat) (r : Int32) (Vz : Mem) (hf : f_X9_lineChar V a1 = some (k, r, Vz)) : MX l E ad yX9_lineChar cX9_lineChar 2 (some .char) 6 1 6 [.ref (ad 248), .int a1] V k (some (.int r)) Vz := by
  refine entX (E := E) (ad := ad) (V := V) "LetterRepository" hT (by decide +kernel) rfl (Nat.le_of_ble_eq_true rfl) ?_
  intro p e s m below meth c ls hC hY hI hl
  have hx := hC.1
  have hb := hC.2.1
  have hl : lv_has ls 2 [(0, .ref (ad 248)), (1, .int a1)] := hl
  unfold f_X9_lineChar at hf
  refine lv_iload_n hx hb dX9_lineChar_0 rfl (lv_at hl 1 rfl) ?_
  obtain ⟨j15, hj15, hf⟩ := gj hf
  have J15 : ∀ (V15 : Mem) (H : Heap) (locs : List Loc) (ls : Array Slot), j15 V15 = some (k, r, Vz) → In E ad V15 s H locs → lv_has ls 2 [] → W p l e (rmx 6 1 6) s m ([.ref (ad 248), .int a1] : List Value).toArray below meth c H locs 0 0 (vx_MQ below (QRX E ad k (some (.int r)) Vz) (QX E ad k Vz) ([.ref (ad 248), .int a1] : List Value).toArray s 1 6 (ours E)) (F0 m 15 ls []) := by
    intro V15 H locs ls hf hI hl
    rw [hj15] at hf
    dsimp only at hf
    exact x_thr1w hS hC hY hI hl.1 (List.Mem.tail _ (List.Mem.tail _ (List.Mem.head _))) (hx3 hf) ⟨Nat.le_of_ble_eq_true rfl, Nat.le_of_ble_eq_true rfl, Nat.le_of_ble_eq_true rfl, Nat.le_of_ble_eq_true rfl⟩ ⟨Nat.le_of_ble_eq_true rfl, Nat.le_of_ble_eq_true rfl⟩ dX9_lineChar_15 dX9_lineChar_18 dX9_lineChar_19 dX9_lineChar_22 dX9_lineChar_25
  refine lv_if_lt (tgt := 15) hx hb dX9_lineChar_1 (by decide) (fun c1 => ?_) (fun c1 => ?_)
  · have hf := gt hf c1
    exact J15 _ _ _ _ hf hI (lv_sub hl [] rfl)
  · have hf := gf hf c1
    refine lv_iload_n hx hb dX9_lineChar_4 rfl (lv_at hl 1 rfl) ?_
    refine lv_aload_n hx hb dX9_lineChar_5 rfl (lv_at hl 0 rfl) ?_
    refine g_248_line hC hI tw_1_218 dX9_lineChar_6 ?_
    obtain ⟨r9, V9, q9, hf⟩ := gbd hf
    refine k_J4_length_8abf5 (.inr rfl) hC hI hl.1 q9 tw_6_215 ⟨Nat.le_of_ble_eq_true rfl, Nat.le_of_ble_eq_true rfl⟩ ⟨Nat.le_of_ble_eq_true rfl, Nat.le_of_ble_eq_true rfl⟩ (Nat.le_of_ble_eq_true rfl) dX9_lineChar_9 (fun H locs hI => ?_)
    refine lv_icmp_lt (tgt := 26) hx hb dX9_lineChar_12 (by decide) (fun c12 => ?_) (fun c12 => ?_)
    · have hf := gt hf c12
      refine lv_aload_n hx hb dX9_lineChar_26 rfl (lv_at hl 0 rfl) ?_
      refine g_248_line hC hI tw_1_218 dX9_lineChar_27 ?_
      refine lv_iload_n hx hb dX9_lineChar_30 rfl (lv_at hl 1 rfl) ?_
      obtain ⟨r31, V31, q31, hf⟩ := gbd hf
      refine k_J4_charAt_5068e hS hFr (.inr rfl) hC hI hl.1 q31 tw_6_238 ⟨Nat.le_of_ble_eq_true rfl, Nat.le_of_ble_eq_true rfl⟩ ⟨Nat.le_of_ble_eq_true rfl, Nat.le_of_ble_eq_true rfl⟩ (Nat.le_of_ble_eq_true rfl) dX9_lineChar_31 (fun H locs hI => ?_)
      obtain ⟨h34, hf⟩ := gi hf
      exact x_cret2 hC hI h34 hf ⟨Nat.le_of_ble_eq_true rfl, Nat.le_of_ble_eq_true rfl⟩ dX9_lineChar_34
    · have hf := gf hf c12
      exact J15 _ _ _ _ hf hI (lv_sub hl [] rfl)
theorem kx_X9_lineChar {p : Program} {l : Launch} {e : Env} {R : Room} {cells slots mc ms : Nat} {s : State} {m : MethodId} {args : Array Value} {below : List Frame} {meth : Method} {c : Code} {H : Heap} {locs : List Loc} {Qc : Array Value → State → Outcome → State → Prop} {E : En} {ad : Nat → Nat} {V : Mem} {ow : String} {b : ByteArray} {n : Nat} {ret : Option FieldType} {pc index : Nat} {ls : Array Slot} {rest : List Value} {a1 : Int32} {k1 k : Nat} {r : Int32} {V1 Vz : Mem} (hS : SF E) (hFr : Fr E) (hC : Cx p s m args c meth E ow b n ret) (hY : Cy l c) (hI : In E ad V s H locs) (hsz : ls.size = n) (hf : f_X9_lineChar V a1 = some (k1, r, V1)) (hl : Cond.methodLink ow index yX9_lineChar ∈ TB) (hR : 6 + 1 ≤ R.frames ∧ 8 + (2 + 11) + 40 * 6 ≤ R.locals) (hcs : cells + 1 ≤ R.cells ∧ slots + 6 ≤ R.slots) (hc : cells + 1 ≤ mc ∧ slots + 6 ≤ ms) (hw : (rest.map fun v => v.category).sum ≤ 8) (hdg : decode b pc = .ok (.invokevirtual index, 3)) (hx : k1 ≠ 0 → k1 = k ∧ V1 = Vz) (kk : k1 = 0 → ∀ (H1 : Heap) (locs1 : List Loc), In E ad V1 s H1 locs1 → W p l e R s m args below meth c H1 locs1 (cells + 1) (slots + 6) (vx_MQ below Qc (QX E ad k Vz) args s mc ms (ours E)) (F0 m (pc + 3) ls ((.int r) :: rest))) : W p l e R s m args below meth c H locs cells slots (vx_MQ below Qc (QX E ad k Vz) args s mc ms (ours E)) (F0 m pc ls (.int a1 :: .ref (ad 248) :: rest)) :=
  after_callX hC hY hI (xrunV_tb (As := [.int a1]) (rest := rest) hC hI hsz (m_X9_lineChar l hY.2 E ad V a1 hS hFr k1 r V1 hf) cv_X9_lineChar hl (by decide) (ce_248 _) rfl rfl rfl hR hcs hw hdg) hc hx kk

theorem dX9_append_0 : decode cX9_append 0 = .ok (.iload_n 1, 1) := by decide +kernel
theorem dX9_append_1 : decode cX9_append 1 = .ok (.bipush 32, 2) := by decide +kernel
theorem dX9_append_3 : decode cX9_append 3 = .ok (.if_icmp .lt 9, 3) := by decide +kernel
theorem dX9_append_6 : decode cX9_append 6 = .ok (.iload_n 1, 1) := by decide +kernel
theorem dX9_append_7 : decode cX9_append 7 = .ok (.bipush 126, 2) := by decide +kernel
theorem dX9_append_9 : decode cX9_append 9 = .ok (.if_icmp .le 14, 3) := by decide +kernel
theorem dX9_append_12 : decode cX9_append 12 = .ok (.new 203, 3) := by decide +kernel
theorem dX9_append_15 : decode cX9_append 15 = .ok (.dup, 1) := by decide +kernel
theorem dX9_append_16 : decode cX9_append 16 = .ok (.ldc_w 328, 3) := by decide +kernel
theorem dX9_append_19 : decode cX9_append 19 = .ok (.invokespecial 207, 3) := by decide +kernel
theorem dX9_append_22 : decode cX9_append 22 = .ok (.athrow, 1) := by decide +kernel
theorem dX9_append_23 : decode cX9_append 23 = .ok (.aload_n 0, 1) := by decide +kernel
theorem dX9_append_24 : decode cX9_append 24 = .ok (.getfield 36, 3) := by decide +kernel
theorem dX9_append_27 : decode cX9_append 27 = .ok (.invokevirtual 316, 3) := by decide +kernel
theorem dX9_append_30 : decode cX9_append 30 = .ok (.bipush 60, 2) := by decide +kernel
theorem dX9_append_32 : decode cX9_append 32 = .ok (.if_icmp .lt 14, 3) := by decide +kernel
theorem dX9_append_35 : decode cX9_append 35 = .ok (.new 330, 3) := by decide +kernel
theorem dX9_append_38 : decode cX9_append 38 = .ok (.dup, 1) := by decide +kernel
theorem dX9_append_39 : decode cX9_append 39 = .ok (.ldc_w 332, 3) := by decide +kernel
theorem dX9_append_42 : decode cX9_append 42 = .ok (.invokespecial 334, 3) := by decide +kernel
theorem dX9_append_45 : decode cX9_append 45 = .ok (.athrow, 1) := by decide +kernel
theorem dX9_append_46 : decode cX9_append 46 = .ok (.aload_n 0, 1) := by decide +kernel
theorem dX9_append_47 : decode cX9_append 47 = .ok (.getfield 36, 3) := by decide +kernel
theorem dX9_append_50 : decode cX9_append 50 = .ok (.iload_n 1, 1) := by decide +kernel
theorem dX9_append_51 : decode cX9_append 51 = .ok (.invokevirtual 294, 3) := by decide +kernel
theorem dX9_append_54 : decode cX9_append 54 = .ok (.pop, 1) := by decide +kernel
theorem dX9_append_55 : decode cX9_append 55 = .ok (.aload_n 0, 1) := by decide +kernel
theorem dX9_append_56 : decode cX9_append 56 = .ok (.getfield 36, 3) := by decide +kernel
theorem dX9_append_59 : decode cX9_append 59 = .ok (.invokevirtual 316, 3) := by decide +kernel
theorem dX9_append_62 : decode cX9_append 62 = .ok (.ireturn, 1) := by decide +kernel
def f_X9_append (V : Mem) (a1 : Int32) : Option (Nat × Int32 × Mem) :=
  jn (α := Mem → Option (Nat × Int32 × Mem)) (fun j12 =>
    if a1 < 32 then
      j12 V
    else
      if a1 ≤ 126 then
        bd (f_J4_length_8abf5 V 249) fun r27 V27 =>
        if r27 < 60 then
          bv (f_J4_append_cf468 V27 249 a1) fun V51 =>
          bd (f_J4_length_8abf5 V51 249) fun r59 V59 =>
          some (0, r59, V59)
        else
          some (4, 0, V27)
      else
        j12 V
  ) (fun (V12 : Mem) =>
    some (2, 0, V12)
  )
theorem cv_X9_append : CalV yX9_append cX9_append 2 (some .int) 1 := ⟨⟨⟨by decide +kernel, by decide +kernel⟩, tw_1_1, tw_7_14, by decide +kernel⟩, tw_7_12, tw_7_13⟩
set_option maxRecDepth 100000 in
set_option maxHeartbeats 4000000 in
theorem m_X9_append (l : Launch) (hT : l.stackTraces = false) (E : En) (ad : Nat → Nat) (V : Mem) (a1 : Int32) (hS : SF E) (hFr : Fr E) (k : Nat) (r : Int32) (Vz : Mem) (hf : f_X9_append V a1 = some (k, r, Vz)) : MX l E ad yX9_append cX9_append 2 (some .int) 7 1 72 [.ref (ad 248), .int a1] V k (some (.int r)) Vz := by
  refine entX (E := E) (ad := ad) (V := V) "LetterRepository" hT (by decide +kernel) rfl (Nat.le_of_ble_eq_true rfl) ?_
  intro p e s m below meth c ls hC hY hI hl
  have hx := hC.1
  have hb := hC.2.1
  have hl : lv_has ls 2 [(0, .ref (ad 248)), (1, .int a1)] := hl
  unfold f_X9_append at hf
  refine lv_iload_n hx hb dX9_append_0 rfl (lv_at hl 1 rfl) ?_
  refine lv_bipush (v := 32) hx hb dX9_append_1 rfl ?_
  obtain ⟨j12, hj12, hf⟩ := gj hf
  have J12 : ∀ (V12 : Mem) (H : Heap) (locs : List Loc) (ls : Array Slot), j12 V12 = some (k, r, Vz) → In E ad V12 s H locs → lv_has ls 2 [] → W p l e (rmx 7 1 72) s m ([.ref (ad 248), .int a1] : List Value).toArray below meth c H locs 0 0 (vx_MQ below (QRX E ad k (some (.int r)) Vz) (QX E ad k Vz) ([.ref (ad 248), .int a1] : List Value).toArray s 1 72 (ours E)) (F0 m 12 ls []) := by
    intro V12 H locs ls hf hI hl
    rw [hj12] at hf
    dsimp only at hf
    exact x_thr2w hS hC hY hI hl.1 (List.Mem.tail _ (List.Mem.tail _ (List.Mem.tail _ (List.Mem.head _)))) (hx3 hf) ⟨Nat.le_of_ble_eq_true rfl, Nat.le_of_ble_eq_true rfl, Nat.le_of_ble_eq_true rfl, Nat.le_of_ble_eq_true rfl⟩ ⟨Nat.le_of_ble_eq_true rfl, Nat.le_of_ble_eq_true rfl⟩ dX9_append_12 dX9_append_15 dX9_append_16 dX9_append_19 dX9_append_22
  refine lv_icmp_lt (tgt := 12) hx hb dX9_append_3 (by decide) (fun c3 => ?_) (fun c3 => ?_)
  · have hf := gt hf c3
    exact J12 _ _ _ _ hf hI (lv_sub hl [] rfl)
  · have hf := gf hf c3
    refine lv_iload_n hx hb dX9_append_6 rfl (lv_at hl 1 rfl) ?_
    refine lv_bipush (v := 126) hx hb dX9_append_7 rfl ?_
    refine lv_icmp_le (tgt := 23) hx hb dX9_append_9 (by decide) (fun c9 => ?_) (fun c9 => ?_)
    · have hf := gt hf c9
      refine lv_aload_n hx hb dX9_append_23 rfl (lv_at hl 0 rfl) ?_
      refine g_248_input hC hI tw_1_217 dX9_append_24 ?_
      obtain ⟨r27, V27, q27, hf⟩ := gbd hf
      refine k_J4_length_8abf5 (.inl rfl) hC hI hl.1 q27 tw_6_215 ⟨Nat.le_of_ble_eq_true rfl, Nat.le_of_ble_eq_true rfl⟩ ⟨Nat.le_of_ble_eq_true rfl, Nat.le_of_ble_eq_true rfl⟩ (Nat.le_of_ble_eq_true rfl) dX9_append_27 (fun H locs hI => ?_)
      refine lv_bipush (v := 60) hx hb dX9_append_30 rfl ?_
      refine lv_icmp_lt (tgt := 46) hx hb dX9_append_32 (by decide) (fun c32 => ?_) (fun c32 => ?_)
      · have hf := gt hf c32
        refine lv_aload_n hx hb dX9_append_46 rfl (lv_at hl 0 rfl) ?_
        refine g_248_input hC hI tw_1_217 dX9_append_47 ?_
        refine lv_iload_n hx hb dX9_append_50 rfl (lv_at hl 1 rfl) ?_
        obtain ⟨V51, q51, hf⟩ := gbv hf
        refine ka_J4_append_cf468 hS hFr (.inl rfl) hC hI hl.1 q51 tw_6_183 ⟨Nat.le_of_ble_eq_true rfl, Nat.le_of_ble_eq_true rfl⟩ ⟨Nat.le_of_ble_eq_true rfl, Nat.le_of_ble_eq_true rfl⟩ (Nat.le_of_ble_eq_true rfl) dX9_append_51 (fun H locs hI => ?_)
        refine lv_pop hx hb dX9_append_54 rfl ?_
        refine lv_aload_n hx hb dX9_append_55 rfl (lv_at hl 0 rfl) ?_
        refine g_248_input hC hI tw_1_217 dX9_append_56 ?_
        obtain ⟨r59, V59, q59, hf⟩ := gbd hf
        refine k_J4_length_8abf5 (.inl rfl) hC hI hl.1 q59 tw_6_215 ⟨Nat.le_of_ble_eq_true rfl, Nat.le_of_ble_eq_true rfl⟩ ⟨Nat.le_of_ble_eq_true rfl, Nat.le_of_ble_eq_true rfl⟩ (Nat.le_of_ble_eq_true rfl) dX9_append_59 (fun H locs hI => ?_)
        exact x_iret hC hI hf ⟨Nat.le_of_ble_eq_true rfl, Nat.le_of_ble_eq_true rfl⟩ dX9_append_62
      · have hf := gf hf c32
        exact x_thr4w hS hC hY hI hl.1 (List.Mem.tail _ (List.Mem.tail _ (List.Mem.tail _ (List.Mem.tail _ (List.Mem.head _))))) (hx3 hf) ⟨Nat.le_of_ble_eq_true rfl, Nat.le_of_ble_eq_true rfl, Nat.le_of_ble_eq_true rfl, Nat.le_of_ble_eq_true rfl⟩ ⟨Nat.le_of_ble_eq_true rfl, Nat.le_of_ble_eq_true rfl⟩ dX9_append_35 dX9_append_38 dX9_append_39 dX9_append_42 dX9_append_45
    · have hf := gf hf c9
      exact J12 _ _ _ _ hf hI (lv_sub hl [] rfl)
theorem kx_X9_append {p : Program} {l : Launch} {e : Env} {R : Room} {cells slots mc ms : Nat} {s : State} {m : MethodId} {args : Array Value} {below : List Frame} {meth : Method} {c : Code} {H : Heap} {locs : List Loc} {Qc : Array Value → State → Outcome → State → Prop} {E : En} {ad : Nat → Nat} {V : Mem} {ow : String} {b : ByteArray} {n : Nat} {ret : Option FieldType} {pc index : Nat} {ls : Array Slot} {rest : List Value} {a1 : Int32} {k1 k : Nat} {r : Int32} {V1 Vz : Mem} (hS : SF E) (hFr : Fr E) (hC : Cx p s m args c meth E ow b n ret) (hY : Cy l c) (hI : In E ad V s H locs) (hsz : ls.size = n) (hf : f_X9_append V a1 = some (k1, r, V1)) (hl : Cond.methodLink ow index yX9_append ∈ TB) (hR : 7 + 1 ≤ R.frames ∧ 8 + (2 + 11) + 40 * 7 ≤ R.locals) (hcs : cells + 1 ≤ R.cells ∧ slots + 72 ≤ R.slots) (hc : cells + 1 ≤ mc ∧ slots + 72 ≤ ms) (hw : (rest.map fun v => v.category).sum ≤ 8) (hdg : decode b pc = .ok (.invokevirtual index, 3)) (hx : k1 ≠ 0 → k1 = k ∧ V1 = Vz) (kk : k1 = 0 → ∀ (H1 : Heap) (locs1 : List Loc), In E ad V1 s H1 locs1 → W p l e R s m args below meth c H1 locs1 (cells + 1) (slots + 72) (vx_MQ below Qc (QX E ad k Vz) args s mc ms (ours E)) (F0 m (pc + 3) ls ((.int r) :: rest))) : W p l e R s m args below meth c H locs cells slots (vx_MQ below Qc (QX E ad k Vz) args s mc ms (ours E)) (F0 m pc ls (.int a1 :: .ref (ad 248) :: rest)) :=
  after_callX hC hY hI (xrunV_tb (As := [.int a1]) (rest := rest) hC hI hsz (m_X9_append l hY.2 E ad V a1 hS hFr k1 r V1 hf) cv_X9_append hl (by decide) (ce_248 _) rfl rfl rfl hR hcs hw hdg) hc hx kk

theorem dX9_run_0 : decode cX9_run 0 = .ok (.aload_n 0, 1) := by decide +kernel
theorem dX9_run_1 : decode cX9_run 1 = .ok (.getfield 29, 3) := by decide +kernel
theorem dX9_run_4 : decode cX9_run 4 = .ok (.aload_n 0, 1) := by decide +kernel
theorem dX9_run_5 : decode cX9_run 5 = .ok (.getfield 36, 3) := by decide +kernel
theorem dX9_run_8 : decode cX9_run 8 = .ok (.invokevirtual 335, 3) := by decide +kernel
theorem dX9_run_11 : decode cX9_run 11 = .ok (.aload_n 0, 1) := by decide +kernel
theorem dX9_run_12 : decode cX9_run 12 = .ok (.getfield 36, 3) := by decide +kernel
theorem dX9_run_15 : decode cX9_run 15 = .ok (.iconst 0, 1) := by decide +kernel
theorem dX9_run_16 : decode cX9_run 16 = .ok (.invokevirtual 291, 3) := by decide +kernel
theorem dX9_run_19 : decode cX9_run 19 = .ok (.aload_n 0, 1) := by decide +kernel
theorem dX9_run_20 : decode cX9_run 20 = .ok (.getfield 29, 3) := by decide +kernel
theorem dX9_run_23 : decode cX9_run 23 = .ok (.getfield 339, 3) := by decide +kernel
theorem dX9_run_26 : decode cX9_run 26 = .ok (.iconst (-1), 1) := by decide +kernel
theorem dX9_run_27 : decode cX9_run 27 = .ok (.if_icmp .eq 25, 3) := by decide +kernel
theorem dX9_run_30 : decode cX9_run 30 = .ok (.aload_n 0, 1) := by decide +kernel
theorem dX9_run_31 : decode cX9_run 31 = .ok (.aload_n 0, 1) := by decide +kernel
theorem dX9_run_32 : decode cX9_run 32 = .ok (.getfield 29, 3) := by decide +kernel
theorem dX9_run_35 : decode cX9_run 35 = .ok (.getfield 339, 3) := by decide +kernel
theorem dX9_run_38 : decode cX9_run 38 = .ok (.putfield 43, 3) := by decide +kernel
theorem dX9_run_41 : decode cX9_run 41 = .ok (.new 203, 3) := by decide +kernel
theorem dX9_run_44 : decode cX9_run 44 = .ok (.dup, 1) := by decide +kernel
theorem dX9_run_45 : decode cX9_run 45 = .ok (.ldc_w 342, 3) := by decide +kernel
theorem dX9_run_48 : decode cX9_run 48 = .ok (.invokespecial 207, 3) := by decide +kernel
theorem dX9_run_51 : decode cX9_run 51 = .ok (.athrow, 1) := by decide +kernel
theorem dX9_run_52 : decode cX9_run 52 = .ok (.aload_n 0, 1) := by decide +kernel
theorem dX9_run_53 : decode cX9_run 53 = .ok (.getfield 22, 3) := by decide +kernel
theorem dX9_run_56 : decode cX9_run 56 = .ok (.aload_n 0, 1) := by decide +kernel
theorem dX9_run_57 : decode cX9_run 57 = .ok (.getfield 10, 3) := by decide +kernel
theorem dX9_run_60 : decode cX9_run 60 = .ok (.invokevirtual 344, 3) := by decide +kernel
theorem dX9_run_63 : decode cX9_run 63 = .ok (.iconst 0, 1) := by decide +kernel
theorem dX9_run_64 : decode cX9_run 64 = .ok (.istore_n 1, 1) := by decide +kernel
theorem dX9_run_65 : decode cX9_run 65 = .ok (.iload_n 1, 1) := by decide +kernel
theorem dX9_run_66 : decode cX9_run 66 = .ok (.aload_n 0, 1) := by decide +kernel
theorem dX9_run_67 : decode cX9_run 67 = .ok (.getfield 29, 3) := by decide +kernel
theorem dX9_run_70 : decode cX9_run 70 = .ok (.getfield 348, 3) := by decide +kernel
theorem dX9_run_73 : decode cX9_run 73 = .ok (.if_icmp .ge 72, 3) := by decide +kernel
theorem dX9_run_76 : decode cX9_run 76 = .ok (.aload_n 0, 1) := by decide +kernel
theorem dX9_run_77 : decode cX9_run 77 = .ok (.getfield 29, 3) := by decide +kernel
theorem dX9_run_80 : decode cX9_run 80 = .ok (.iload_n 1, 1) := by decide +kernel
theorem dX9_run_81 : decode cX9_run 81 = .ok (.invokevirtual 349, 3) := by decide +kernel
theorem dX9_run_84 : decode cX9_run 84 = .ok (.astore_n 2, 1) := by decide +kernel
theorem dX9_run_85 : decode cX9_run 85 = .ok (.aload_n 2, 1) := by decide +kernel
theorem dX9_run_86 : decode cX9_run 86 = .ok (.ifnull 17, 3) := by decide +kernel
theorem dX9_run_89 : decode cX9_run 89 = .ok (.aload_n 0, 1) := by decide +kernel
theorem dX9_run_90 : decode cX9_run 90 = .ok (.getfield 10, 3) := by decide +kernel
theorem dX9_run_93 : decode cX9_run 93 = .ok (.aload_n 2, 1) := by decide +kernel
theorem dX9_run_94 : decode cX9_run 94 = .ok (.invokevirtual 353, 3) := by decide +kernel
theorem dX9_run_97 : decode cX9_run 97 = .ok (.getstatic 244, 3) := by decide +kernel
theorem dX9_run_100 : decode cX9_run 100 = .ok (.if_acmp .eq 30, 3) := by decide +kernel
theorem dX9_run_103 : decode cX9_run 103 = .ok (.aload_n 0, 1) := by decide +kernel
theorem dX9_run_104 : decode cX9_run 104 = .ok (.getfield 22, 3) := by decide +kernel
theorem dX9_run_107 : decode cX9_run 107 = .ok (.aload_n 0, 1) := by decide +kernel
theorem dX9_run_108 : decode cX9_run 108 = .ok (.getfield 10, 3) := by decide +kernel
theorem dX9_run_111 : decode cX9_run 111 = .ok (.invokevirtual 357, 3) := by decide +kernel
theorem dX9_run_114 : decode cX9_run 114 = .ok (.aload_n 0, 1) := by decide +kernel
theorem dX9_run_115 : decode cX9_run 115 = .ok (.iload_n 1, 1) := by decide +kernel
theorem dX9_run_116 : decode cX9_run 116 = .ok (.putfield 47, 3) := by decide +kernel
theorem dX9_run_119 : decode cX9_run 119 = .ok (.new 330, 3) := by decide +kernel
theorem dX9_run_122 : decode cX9_run 122 = .ok (.dup, 1) := by decide +kernel
theorem dX9_run_123 : decode cX9_run 123 = .ok (.ldc_w 360, 3) := by decide +kernel
theorem dX9_run_126 : decode cX9_run 126 = .ok (.invokespecial 334, 3) := by decide +kernel
theorem dX9_run_129 : decode cX9_run 129 = .ok (.athrow, 1) := by decide +kernel
theorem dX9_run_130 : decode cX9_run 130 = .ok (.aload_n 0, 1) := by decide +kernel
theorem dX9_run_131 : decode cX9_run 131 = .ok (.getfield 10, 3) := by decide +kernel
theorem dX9_run_134 : decode cX9_run 134 = .ok (.aload_n 2, 1) := by decide +kernel
theorem dX9_run_135 : decode cX9_run 135 = .ok (.invokevirtual 362, 3) := by decide +kernel
theorem dX9_run_138 : decode cX9_run 138 = .ok (.pop, 1) := by decide +kernel
theorem dX9_run_139 : decode cX9_run 139 = .ok (.iinc 1 1, 3) := by decide +kernel
theorem dX9_run_142 : decode cX9_run 142 = .ok (.goto (-77), 3) := by decide +kernel
theorem dX9_run_145 : decode cX9_run 145 = .ok (.aload_n 0, 1) := by decide +kernel
theorem dX9_run_146 : decode cX9_run 146 = .ok (.getfield 22, 3) := by decide +kernel
theorem dX9_run_149 : decode cX9_run 149 = .ok (.invokevirtual 366, 3) := by decide +kernel
theorem dX9_run_152 : decode cX9_run 152 = .ok (.aload_n 0, 1) := by decide +kernel
theorem dX9_run_153 : decode cX9_run 153 = .ok (.getfield 29, 3) := by decide +kernel
theorem dX9_run_156 : decode cX9_run 156 = .ok (.getfield 348, 3) := by decide +kernel
theorem dX9_run_159 : decode cX9_run 159 = .ok (.ireturn, 1) := by decide +kernel
def f_X9_run_L65 (j103 : Mem → Int32 → Option (Nat × Int32 × Mem)) (j145 : Mem → Option (Nat × Int32 × Mem)) : Nat → Mem → Int32 → Option (Nat × Int32 × Mem)
  | 0, _, _ => none
  | n65 + 1, V65, x1_65 =>
    if (V65 222 0) ≤ x1_65 then
      j145 V65
    else
      bd (f_X4_commandAt V65 x1_65) fun o81 V81 =>
      om o81 (
        j103 V81 x1_65
      ) fun k81 =>
      if k81 < 8 then
        bd (f_X8_refusalOf V81 k81) fun r94 V94 =>
        if r94 < 5 then
          if r94 = 0 then
            bd (f_X8_perform V94 k81) fun r135 V135 =>
            (f_X9_run_L65 j103 j145 n65) V135 (x1_65 + 1)
          else
            j103 V94 x1_65
        else none
      else none
def f_X9_run (V : Mem) : Option (Nat × Int32 × Mem) :=
  bv (f_X4_parse V) fun V8 =>
  bv (f_J4_setLength_d00df V8 249 0) fun V16 =>
  if (V16 222 1) = (-1) then
    bv (f_X2_note V16) fun V60 =>
    jn (α := Mem → Option (Nat × Int32 × Mem)) (fun j145 =>
      jn (α := Mem → Int32 → Option (Nat × Int32 × Mem)) (fun j103 =>
        f_X9_run_L65 j103 j145 FU V60 0
      ) (fun (V103 : Mem) (x1_103 : Int32) =>
        bv (f_X2_putNotedInto V103) fun V111 =>
        lt (stv V111 248 2 x1_103) fun V116 =>
        some (4, 0, V116)
      )
    ) (fun (V145 : Mem) =>
      bv (f_X2_keepNoted V145) fun V149 =>
      some (0, (V149 222 0), V149)
    )
  else
    lt (stv V16 248 1 (V16 222 1)) fun V38 =>
    some (2, 0, V38)
theorem cv_X9_run : CalV yX9_run cX9_run 3 (some .int) 0 := ⟨⟨⟨by decide +kernel, by decide +kernel⟩, tw_1_1, tw_7_23, by decide +kernel⟩, tw_7_21, tw_7_22⟩
set_option maxRecDepth 100000 in
set_option maxHeartbeats 4000000 in
theorem m_X9_run (l : Launch) (hT : l.stackTraces = false) (E : En) (ad : Nat → Nat) (V : Mem) (hS : SF E) (hFr : Fr E) (k : Nat) (r : Int32) (Vz : Mem) (hf : f_X9_run V = some (k, r, Vz)) : MX l E ad yX9_run cX9_run 3 (some .int) 33 2 78 [.ref (ad 248)] V k (some (.int r)) Vz := by
  refine entX (E := E) (ad := ad) (V := V) "LetterRepository" hT (by decide +kernel) rfl (Nat.le_of_ble_eq_true rfl) ?_
  intro p e s m below meth c ls hC hY hI hl
  have hx := hC.1
  have hb := hC.2.1
  have hl : lv_has ls 3 [(0, .ref (ad 248))] := hl
  unfold f_X9_run at hf
  refine lv_aload_n hx hb dX9_run_0 rfl (lv_at hl 0 rfl) ?_
  refine g_248_program hC hI tw_1_216 dX9_run_1 ?_
  refine lv_aload_n hx hb dX9_run_4 rfl (lv_at hl 0 rfl) ?_
  refine g_248_input hC hI tw_1_217 dX9_run_5 ?_
  obtain ⟨V8, q8, hf⟩ := gbv hf
  refine k_X4_parse hS hFr hC hI hl.1 q8 tw_7_24 ⟨Nat.le_of_ble_eq_true rfl, Nat.le_of_ble_eq_true rfl⟩ ⟨Nat.le_of_ble_eq_true rfl, Nat.le_of_ble_eq_true rfl⟩ (Nat.le_of_ble_eq_true rfl) dX9_run_8 (fun H locs hI => ?_)
  refine lv_aload_n hx hb dX9_run_11 rfl (lv_at hl 0 rfl) ?_
  refine g_248_input hC hI tw_1_217 dX9_run_12 ?_
  refine lv_iconst (v := 0) hx hb dX9_run_15 rfl ?_
  obtain ⟨V16, q16, hf⟩ := gbv hf
  refine ka_J4_setLength_d00df hS hFr (.inl rfl) hC hI hl.1 q16 tw_5_154 ⟨Nat.le_of_ble_eq_true rfl, Nat.le_of_ble_eq_true rfl⟩ ⟨Nat.le_of_ble_eq_true rfl, Nat.le_of_ble_eq_true rfl⟩ (Nat.le_of_ble_eq_true rfl) dX9_run_16 (fun H locs hI => ?_)
  refine lv_aload_n hx hb dX9_run_19 rfl (lv_at hl 0 rfl) ?_
  refine g_248_program hC hI tw_1_216 dX9_run_20 ?_
  refine gN_222_error hC hI tw_1_169 dX9_run_23 ?_
  refine lv_iconst (v := (-1)) hx hb dX9_run_26 rfl ?_
  refine lv_icmp_eq (tgt := 52) hx hb dX9_run_27 (by decide) (fun c27 => ?_) (fun c27 => ?_)
  · have hf := gt hf c27
    refine lv_aload_n hx hb dX9_run_52 rfl (lv_at hl 0 rfl) ?_
    refine g_248_history hC hI tw_1_215 dX9_run_53 ?_
    refine lv_aload_n hx hb dX9_run_56 rfl (lv_at hl 0 rfl) ?_
    refine g_248_store hC hI tw_1_213 dX9_run_57 ?_
    obtain ⟨V60, q60, hf⟩ := gbv hf
    refine k_X2_note hC hI hl.1 q60 tw_2_9 ⟨Nat.le_of_ble_eq_true rfl, Nat.le_of_ble_eq_true rfl⟩ ⟨Nat.le_of_ble_eq_true rfl, Nat.le_of_ble_eq_true rfl⟩ (Nat.le_of_ble_eq_true rfl) dX9_run_60 (fun H locs hI => ?_)
    refine lv_iconst (v := 0) hx hb dX9_run_63 rfl ?_
    refine lv_istore_n (lv' := [(1, .int 0), (0, .ref (ad 248))]) hx hb dX9_run_64 rfl hl (Nat.lt_of_lt_of_eq (by decide) rfl) rfl (fun ls hl => ?_)
    obtain ⟨j145, hj145, hf⟩ := gj hf
    have J145 : ∀ (V145 : Mem) (H : Heap) (locs : List Loc) (ls : Array Slot), j145 V145 = some (k, r, Vz) → In E ad V145 s H locs → lv_has ls 3 [(0, .ref (ad 248))] → W p l e (rmx 33 2 78) s m ([.ref (ad 248)] : List Value).toArray below meth c H locs 1 72 (vx_MQ below (QRX E ad k (some (.int r)) Vz) (QX E ad k Vz) ([.ref (ad 248)] : List Value).toArray s 2 78 (ours E)) (F0 m 145 ls []) := by
      intro V145 H locs ls hf hI hl
      rw [hj145] at hf
      dsimp only at hf
      refine lv_aload_n hx hb dX9_run_145 rfl (lv_at hl 0 rfl) ?_
      refine g_248_history hC hI tw_1_215 dX9_run_146 ?_
      obtain ⟨V149, q149, hf⟩ := gbv hf
      refine k_X2_keepNoted hC hI hl.1 q149 tw_2_36 ⟨Nat.le_of_ble_eq_true rfl, Nat.le_of_ble_eq_true rfl⟩ ⟨Nat.le_of_ble_eq_true rfl, Nat.le_of_ble_eq_true rfl⟩ (Nat.le_of_ble_eq_true rfl) dX9_run_149 (fun H locs hI => ?_)
      refine lv_aload_n hx hb dX9_run_152 rfl (lv_at hl 0 rfl) ?_
      refine g_248_program hC hI tw_1_216 dX9_run_153 ?_
      refine gN_222_count hC hI tw_1_167 dX9_run_156 ?_
      exact x_iret hC hI hf ⟨Nat.le_of_ble_eq_true rfl, Nat.le_of_ble_eq_true rfl⟩ dX9_run_159
    obtain ⟨j103, hj103, hf⟩ := gj hf
    have J103 : ∀ (V103 : Mem) (x1_103 : Int32) (H : Heap) (locs : List Loc) (ls : Array Slot), j103 V103 x1_103 = some (k, r, Vz) → In E ad V103 s H locs → lv_has ls 3 [(0, .ref (ad 248)), (1, .int x1_103)] → W p l e (rmx 33 2 78) s m ([.ref (ad 248)] : List Value).toArray below meth c H locs 1 72 (vx_MQ below (QRX E ad k (some (.int r)) Vz) (QX E ad k Vz) ([.ref (ad 248)] : List Value).toArray s 2 78 (ours E)) (F0 m 103 ls []) := by
      intro V103 x1_103 H locs ls hf hI hl
      rw [hj103] at hf
      dsimp only at hf
      refine lv_aload_n hx hb dX9_run_103 rfl (lv_at hl 0 rfl) ?_
      refine g_248_history hC hI tw_1_215 dX9_run_104 ?_
      refine lv_aload_n hx hb dX9_run_107 rfl (lv_at hl 0 rfl) ?_
      refine g_248_store hC hI tw_1_213 dX9_run_108 ?_
      obtain ⟨V111, q111, hf⟩ := gbv hf
      refine k_X2_putNotedInto hC hI hl.1 q111 tw_7_123 ⟨Nat.le_of_ble_eq_true rfl, Nat.le_of_ble_eq_true rfl⟩ ⟨Nat.le_of_ble_eq_true rfl, Nat.le_of_ble_eq_true rfl⟩ (Nat.le_of_ble_eq_true rfl) dX9_run_111 (fun H locs hI => ?_)
      refine lv_aload_n hx hb dX9_run_114 rfl (lv_at hl 0 rfl) ?_
      refine lv_iload_n hx hb dX9_run_115 rfl (lv_at hl 1 rfl) ?_
      obtain ⟨V116, e116, hf⟩ := gl hf
      refine p_248_storedFailedCommand hC hI  e116 tw_1_221 dX9_run_116 (fun H locs hI => ?_)
      exact x_thr4w hS hC hY hI hl.1 (List.Mem.tail _ (List.Mem.tail _ (List.Mem.tail _ (List.Mem.tail _ (List.Mem.tail _ (List.Mem.tail _ (List.Mem.head _))))))) (hx3 hf) ⟨Nat.le_of_ble_eq_true rfl, Nat.le_of_ble_eq_true rfl, Nat.le_of_ble_eq_true rfl, Nat.le_of_ble_eq_true rfl⟩ ⟨Nat.le_of_ble_eq_true rfl, Nat.le_of_ble_eq_true rfl⟩ dX9_run_119 dX9_run_122 dX9_run_123 dX9_run_126 dX9_run_129
    have L65 : ∀ (n65 : Nat) (V65 : Mem) (x1_65 : Int32) (H : Heap) (locs : List Loc) (ls : Array Slot), f_X9_run_L65 j103 j145 n65 V65 x1_65 = some (k, r, Vz) → In E ad V65 s H locs → lv_has ls 3 [(0, .ref (ad 248)), (1, .int x1_65)] → W p l e (rmx 33 2 78) s m ([.ref (ad 248)] : List Value).toArray below meth c H locs 1 72 (vx_MQ below (QRX E ad k (some (.int r)) Vz) (QX E ad k Vz) ([.ref (ad 248)] : List Value).toArray s 2 78 (ours E)) (F0 m 65 ls []) := by
      intro n65
      induction n65 with
      | zero => intro V65 x1_65 H locs ls hf hI hl; cases hf
      | succ n65 ih65 =>
        intro V65 x1_65 H locs ls hf hI hl
        rw [f_X9_run_L65.eq_2] at hf
        refine lv_iload_n hx hb dX9_run_65 rfl (lv_at hl 1 rfl) ?_
        refine lv_aload_n hx hb dX9_run_66 rfl (lv_at hl 0 rfl) ?_
        refine g_248_program hC hI tw_1_216 dX9_run_67 ?_
        refine gN_222_count hC hI tw_1_167 dX9_run_70 ?_
        refine lv_icmp_ge (tgt := 145) hx hb dX9_run_73 (by decide) (fun c73 => ?_) (fun c73 => ?_)
        · have hf := gt hf c73
          exact J145 _ _ _ _ hf hI (lv_sub hl [0] rfl)
        · have hf := gf hf c73
          refine lv_aload_n hx hb dX9_run_76 rfl (lv_at hl 0 rfl) ?_
          refine g_248_program hC hI tw_1_216 dX9_run_77 ?_
          refine lv_iload_n hx hb dX9_run_80 rfl (lv_at hl 1 rfl) ?_
          obtain ⟨o81, V81, q81, hf⟩ := gbd hf
          refine k_X4_commandAt hC hI hl.1 q81 tw_7_95 ⟨Nat.le_of_ble_eq_true rfl, Nat.le_of_ble_eq_true rfl⟩ ⟨Nat.le_of_ble_eq_true rfl, Nat.le_of_ble_eq_true rfl⟩ (Nat.le_of_ble_eq_true rfl) dX9_run_81 (fun H locs hI => ?_)
          rcases o81 with _ | k81
          · have hf := gon hf
            refine lv_astore_nN (lv' := [(2, .null), (0, .ref (ad 248)), (1, .int x1_65)]) hx hb dX9_run_84 rfl hl (Nat.lt_of_lt_of_eq (by decide) rfl) rfl (fun ls hl => ?_)
            refine lv_aload_nN hx hb dX9_run_85 rfl (lv_at hl 0 rfl) ?_
            refine lv_ifnullN (tgt := 103) hx hb dX9_run_86 (by decide) ?_
            exact J103 _ _ _ _ _ hf hI (lv_sub hl [1, 2] rfl)
          · have hf := gos hf
            obtain ⟨hk81, hf⟩ := gi hf
            refine lv_astore_n (lv' := [(2, .ref (ad (224 + 3 * k81))), (0, .ref (ad 248)), (1, .int x1_65)]) hx hb dX9_run_84 rfl hl (Nat.lt_of_lt_of_eq (by decide) rfl) rfl (fun ls hl => ?_)
            refine lv_aload_n hx hb dX9_run_85 rfl (lv_at hl 0 rfl) ?_
            refine lv_ifnull hx hb dX9_run_86 ?_
            refine lv_aload_n hx hb dX9_run_89 rfl (lv_at hl 1 rfl) ?_
            refine g_248_store hC hI tw_1_213 dX9_run_90 ?_
            refine lv_aload_n hx hb dX9_run_93 rfl (lv_at hl 0 rfl) ?_
            obtain ⟨r94, V94, q94, hf⟩ := gbd hf
            refine k_X8_refusalOf hS hk81 hC hI hl.1 q94 tw_7_96 ⟨Nat.le_of_ble_eq_true rfl, Nat.le_of_ble_eq_true rfl⟩ ⟨Nat.le_of_ble_eq_true rfl, Nat.le_of_ble_eq_true rfl⟩ (Nat.le_of_ble_eq_true rfl) dX9_run_94 (fun H locs hI => ?_)
            refine r_gsR 0 hS hC hI (by decide) tw_5_111 dX9_run_97 ?_
            obtain ⟨b100, hf⟩ := gi hf
            refine r_acR_eq (tgt := 130) hS hC b100 (by decide) dX9_run_100 (by decide) (fun c100 => ?_) (fun c100 => ?_)
            · have hf := gt hf c100
              refine lv_aload_n hx hb dX9_run_130 rfl (lv_at hl 1 rfl) ?_
              refine g_248_store hC hI tw_1_213 dX9_run_131 ?_
              refine lv_aload_n hx hb dX9_run_134 rfl (lv_at hl 0 rfl) ?_
              obtain ⟨r135, V135, q135, hf⟩ := gbd hf
              refine k_X8_perform hS hk81 hC hI hl.1 q135 tw_7_128 ⟨Nat.le_of_ble_eq_true rfl, Nat.le_of_ble_eq_true rfl⟩ ⟨Nat.le_of_ble_eq_true rfl, Nat.le_of_ble_eq_true rfl⟩ (Nat.le_of_ble_eq_true rfl) dX9_run_135 (fun H locs hI => ?_)
              refine lv_pop hx hb dX9_run_138 rfl ?_
              refine lv_iinc (v := (x1_65 + 1)) (lv' := [(1, .int (x1_65 + 1)), (2, .ref (ad (224 + 3 * k81))), (0, .ref (ad 248))]) hx hb dX9_run_139 hl (k := 2) rfl rfl (Nat.lt_of_lt_of_eq (by decide) rfl) rfl (fun ls hl => ?_)
              refine lv_goto (tgt := 65) hx hb dX9_run_142 (by decide) ?_
              exact ih65 _ _ _ _ _ hf hI (lv_sub hl [2, 0] rfl)
            · have hf := gf hf c100
              exact J103 _ _ _ _ _ hf hI (lv_sub hl [1, 2] rfl)
    exact L65 _ _ _ _ _ _ hf hI (lv_sub hl [1, 0] rfl)
  · have hf := gf hf c27
    refine lv_aload_n hx hb dX9_run_30 rfl (lv_at hl 0 rfl) ?_
    refine lv_aload_n hx hb dX9_run_31 rfl (lv_at hl 0 rfl) ?_
    refine g_248_program hC hI tw_1_216 dX9_run_32 ?_
    refine gN_222_error hC hI tw_1_169 dX9_run_35 ?_
    obtain ⟨V38, e38, hf⟩ := gl hf
    refine p_248_storedErrorPosition hC hI  e38 tw_1_220 dX9_run_38 (fun H locs hI => ?_)
    exact x_thr2w hS hC hY hI hl.1 (List.Mem.tail _ (List.Mem.tail _ (List.Mem.tail _ (List.Mem.tail _ (List.Mem.tail _ (List.Mem.head _)))))) (hx3 hf) ⟨Nat.le_of_ble_eq_true rfl, Nat.le_of_ble_eq_true rfl, Nat.le_of_ble_eq_true rfl, Nat.le_of_ble_eq_true rfl⟩ ⟨Nat.le_of_ble_eq_true rfl, Nat.le_of_ble_eq_true rfl⟩ dX9_run_41 dX9_run_44 dX9_run_45 dX9_run_48 dX9_run_51
theorem kx_X9_run {p : Program} {l : Launch} {e : Env} {R : Room} {cells slots mc ms : Nat} {s : State} {m : MethodId} {args : Array Value} {below : List Frame} {meth : Method} {c : Code} {H : Heap} {locs : List Loc} {Qc : Array Value → State → Outcome → State → Prop} {E : En} {ad : Nat → Nat} {V : Mem} {ow : String} {b : ByteArray} {n : Nat} {ret : Option FieldType} {pc index : Nat} {ls : Array Slot} {rest : List Value} {k1 k : Nat} {r : Int32} {V1 Vz : Mem} (hS : SF E) (hFr : Fr E) (hC : Cx p s m args c meth E ow b n ret) (hY : Cy l c) (hI : In E ad V s H locs) (hsz : ls.size = n) (hf : f_X9_run V = some (k1, r, V1)) (hl : Cond.methodLink ow index yX9_run ∈ TB) (hR : 33 + 1 ≤ R.frames ∧ 8 + (3 + 11) + 40 * 33 ≤ R.locals) (hcs : cells + 2 ≤ R.cells ∧ slots + 78 ≤ R.slots) (hc : cells + 2 ≤ mc ∧ slots + 78 ≤ ms) (hw : (rest.map fun v => v.category).sum ≤ 8) (hdg : decode b pc = .ok (.invokevirtual index, 3)) (hx : k1 ≠ 0 → k1 = k ∧ V1 = Vz) (kk : k1 = 0 → ∀ (H1 : Heap) (locs1 : List Loc), In E ad V1 s H1 locs1 → W p l e R s m args below meth c H1 locs1 (cells + 2) (slots + 78) (vx_MQ below Qc (QX E ad k Vz) args s mc ms (ours E)) (F0 m (pc + 3) ls ((.int r) :: rest))) : W p l e R s m args below meth c H locs cells slots (vx_MQ below Qc (QX E ad k Vz) args s mc ms (ours E)) (F0 m pc ls (.ref (ad 248) :: rest)) :=
  after_callX hC hY hI (xrunV_tb (As := []) (rest := rest) hC hI hsz (m_X9_run l hY.2 E ad V hS hFr k1 r V1 hf) cv_X9_run hl (by decide) (ce_248 _) rfl rfl rfl hR hcs hw hdg) hc hx kk

theorem dX9_errorPosition_0 : decode cX9_errorPosition 0 = .ok (.aload_n 0, 1) := by decide +kernel
theorem dX9_errorPosition_1 : decode cX9_errorPosition 1 = .ok (.getfield 43, 3) := by decide +kernel
theorem dX9_errorPosition_4 : decode cX9_errorPosition 4 = .ok (.invokestatic 151, 3) := by decide +kernel
theorem dX9_errorPosition_7 : decode cX9_errorPosition 7 = .ok (.ireturn, 1) := by decide +kernel
def f_X9_errorPosition (V : Mem) : Option (Nat × Int32 × Mem) :=
  bx 0 (f_X9_requirePresent V (V 248 1)) fun r4 V4 =>
  some (0, r4, V4)
theorem cv_X9_errorPosition : CalV yX9_errorPosition cX9_errorPosition 1 (some .int) 0 := ⟨⟨⟨by decide +kernel, by decide +kernel⟩, tw_1_1, tw_7_149, by decide +kernel⟩, tw_7_147, tw_7_148⟩
set_option maxRecDepth 100000 in
set_option maxHeartbeats 4000000 in
theorem m_X9_errorPosition (l : Launch) (hT : l.stackTraces = false) (E : En) (ad : Nat → Nat) (V : Mem) (hS : SF E) (k : Nat) (r : Int32) (Vz : Mem) (hf : f_X9_errorPosition V = some (k, r, Vz)) : MX l E ad yX9_errorPosition cX9_errorPosition 1 (some .int) 7 1 6 [.ref (ad 248)] V k (some (.int r)) Vz := by
  refine entX (E := E) (ad := ad) (V := V) "LetterRepository" hT (by decide +kernel) rfl (Nat.le_of_ble_eq_true rfl) ?_
  intro p e s m below meth c ls hC hY hI hl
  have hx := hC.1
  have hb := hC.2.1
  have hl : lv_has ls 1 [(0, .ref (ad 248))] := hl
  unfold f_X9_errorPosition at hf
  refine lv_aload_n hx hb dX9_errorPosition_0 rfl (lv_at hl 0 rfl) ?_
  refine g_248_storedErrorPosition hC hI tw_1_220 dX9_errorPosition_1 ?_
  obtain ⟨q4, r4, V4, e4, hf⟩ := gbx hf
  refine kx_X9_requirePresent hS hC hY hI hl.1 e4 tw_4_142 ⟨Nat.le_of_ble_eq_true rfl, Nat.le_of_ble_eq_true rfl⟩ ⟨Nat.le_of_ble_eq_true rfl, Nat.le_of_ble_eq_true rfl⟩ ⟨Nat.le_of_ble_eq_true rfl, Nat.le_of_ble_eq_true rfl⟩ (Nat.le_of_ble_eq_true rfl) dX9_errorPosition_4 (fun h0 => hx3 ((if_neg h0).symm.trans hf)) (fun h0 H locs hI => ?_)
  have hf := (if_pos h0).symm.trans hf
  exact x_iret hC hI hf ⟨Nat.le_of_ble_eq_true rfl, Nat.le_of_ble_eq_true rfl⟩ dX9_errorPosition_7
theorem kx_X9_errorPosition {p : Program} {l : Launch} {e : Env} {R : Room} {cells slots mc ms : Nat} {s : State} {m : MethodId} {args : Array Value} {below : List Frame} {meth : Method} {c : Code} {H : Heap} {locs : List Loc} {Qc : Array Value → State → Outcome → State → Prop} {E : En} {ad : Nat → Nat} {V : Mem} {ow : String} {b : ByteArray} {n : Nat} {ret : Option FieldType} {pc index : Nat} {ls : Array Slot} {rest : List Value} {k1 k : Nat} {r : Int32} {V1 Vz : Mem} (hS : SF E) (hC : Cx p s m args c meth E ow b n ret) (hY : Cy l c) (hI : In E ad V s H locs) (hsz : ls.size = n) (hf : f_X9_errorPosition V = some (k1, r, V1)) (hl : Cond.methodLink ow index yX9_errorPosition ∈ TB) (hR : 7 + 1 ≤ R.frames ∧ 8 + (1 + 11) + 40 * 7 ≤ R.locals) (hcs : cells + 1 ≤ R.cells ∧ slots + 6 ≤ R.slots) (hc : cells + 1 ≤ mc ∧ slots + 6 ≤ ms) (hw : (rest.map fun v => v.category).sum ≤ 8) (hdg : decode b pc = .ok (.invokevirtual index, 3)) (hx : k1 ≠ 0 → k1 = k ∧ V1 = Vz) (kk : k1 = 0 → ∀ (H1 : Heap) (locs1 : List Loc), In E ad V1 s H1 locs1 → W p l e R s m args below meth c H1 locs1 (cells + 1) (slots + 6) (vx_MQ below Qc (QX E ad k Vz) args s mc ms (ours E)) (F0 m (pc + 3) ls ((.int r) :: rest))) : W p l e R s m args below meth c H locs cells slots (vx_MQ below Qc (QX E ad k Vz) args s mc ms (ours E)) (F0 m pc ls (.ref (ad 248) :: rest)) :=
  after_callX hC hY hI (xrunV_tb (As := []) (rest := rest) hC hI hsz (m_X9_errorPosition l hY.2 E ad V hS k1 r V1 hf) cv_X9_errorPosition hl (by decide) (ce_248 _) rfl rfl rfl hR hcs hw hdg) hc hx kk

theorem dX9_failedCommand_0 : decode cX9_failedCommand 0 = .ok (.aload_n 0, 1) := by decide +kernel
theorem dX9_failedCommand_1 : decode cX9_failedCommand 1 = .ok (.getfield 47, 3) := by decide +kernel
theorem dX9_failedCommand_4 : decode cX9_failedCommand 4 = .ok (.invokestatic 151, 3) := by decide +kernel
theorem dX9_failedCommand_7 : decode cX9_failedCommand 7 = .ok (.ireturn, 1) := by decide +kernel
def f_X9_failedCommand (V : Mem) : Option (Nat × Int32 × Mem) :=
  bx 0 (f_X9_requirePresent V (V 248 2)) fun r4 V4 =>
  some (0, r4, V4)
theorem cv_X9_failedCommand : CalV yX9_failedCommand cX9_failedCommand 1 (some .int) 0 := ⟨⟨⟨by decide +kernel, by decide +kernel⟩, tw_1_1, tw_7_156, by decide +kernel⟩, tw_7_154, tw_7_155⟩
set_option maxRecDepth 100000 in
set_option maxHeartbeats 4000000 in
theorem m_X9_failedCommand (l : Launch) (hT : l.stackTraces = false) (E : En) (ad : Nat → Nat) (V : Mem) (hS : SF E) (k : Nat) (r : Int32) (Vz : Mem) (hf : f_X9_failedCommand V = some (k, r, Vz)) : MX l E ad yX9_failedCommand cX9_failedCommand 1 (some .int) 7 1 6 [.ref (ad 248)] V k (some (.int r)) Vz := by
  refine entX (E := E) (ad := ad) (V := V) "LetterRepository" hT (by decide +kernel) rfl (Nat.le_of_ble_eq_true rfl) ?_
  intro p e s m below meth c ls hC hY hI hl
  have hx := hC.1
  have hb := hC.2.1
  have hl : lv_has ls 1 [(0, .ref (ad 248))] := hl
  unfold f_X9_failedCommand at hf
  refine lv_aload_n hx hb dX9_failedCommand_0 rfl (lv_at hl 0 rfl) ?_
  refine g_248_storedFailedCommand hC hI tw_1_221 dX9_failedCommand_1 ?_
  obtain ⟨q4, r4, V4, e4, hf⟩ := gbx hf
  refine kx_X9_requirePresent hS hC hY hI hl.1 e4 tw_4_142 ⟨Nat.le_of_ble_eq_true rfl, Nat.le_of_ble_eq_true rfl⟩ ⟨Nat.le_of_ble_eq_true rfl, Nat.le_of_ble_eq_true rfl⟩ ⟨Nat.le_of_ble_eq_true rfl, Nat.le_of_ble_eq_true rfl⟩ (Nat.le_of_ble_eq_true rfl) dX9_failedCommand_4 (fun h0 => hx3 ((if_neg h0).symm.trans hf)) (fun h0 H locs hI => ?_)
  have hf := (if_pos h0).symm.trans hf
  exact x_iret hC hI hf ⟨Nat.le_of_ble_eq_true rfl, Nat.le_of_ble_eq_true rfl⟩ dX9_failedCommand_7
theorem kx_X9_failedCommand {p : Program} {l : Launch} {e : Env} {R : Room} {cells slots mc ms : Nat} {s : State} {m : MethodId} {args : Array Value} {below : List Frame} {meth : Method} {c : Code} {H : Heap} {locs : List Loc} {Qc : Array Value → State → Outcome → State → Prop} {E : En} {ad : Nat → Nat} {V : Mem} {ow : String} {b : ByteArray} {n : Nat} {ret : Option FieldType} {pc index : Nat} {ls : Array Slot} {rest : List Value} {k1 k : Nat} {r : Int32} {V1 Vz : Mem} (hS : SF E) (hC : Cx p s m args c meth E ow b n ret) (hY : Cy l c) (hI : In E ad V s H locs) (hsz : ls.size = n) (hf : f_X9_failedCommand V = some (k1, r, V1)) (hl : Cond.methodLink ow index yX9_failedCommand ∈ TB) (hR : 7 + 1 ≤ R.frames ∧ 8 + (1 + 11) + 40 * 7 ≤ R.locals) (hcs : cells + 1 ≤ R.cells ∧ slots + 6 ≤ R.slots) (hc : cells + 1 ≤ mc ∧ slots + 6 ≤ ms) (hw : (rest.map fun v => v.category).sum ≤ 8) (hdg : decode b pc = .ok (.invokevirtual index, 3)) (hx : k1 ≠ 0 → k1 = k ∧ V1 = Vz) (kk : k1 = 0 → ∀ (H1 : Heap) (locs1 : List Loc), In E ad V1 s H1 locs1 → W p l e R s m args below meth c H1 locs1 (cells + 1) (slots + 6) (vx_MQ below Qc (QX E ad k Vz) args s mc ms (ours E)) (F0 m (pc + 3) ls ((.int r) :: rest))) : W p l e R s m args below meth c H locs cells slots (vx_MQ below Qc (QX E ad k Vz) args s mc ms (ours E)) (F0 m pc ls (.ref (ad 248) :: rest)) :=
  after_callX hC hY hI (xrunV_tb (As := []) (rest := rest) hC hI hsz (m_X9_failedCommand l hY.2 E ad V hS k1 r V1 hf) cv_X9_failedCommand hl (by decide) (ce_248 _) rfl rfl rfl hR hcs hw hdg) hc hx kk

theorem dX9_undoableCount_0 : decode cX9_undoableCount 0 = .ok (.aload_n 0, 1) := by decide +kernel
theorem dX9_undoableCount_1 : decode cX9_undoableCount 1 = .ok (.getfield 22, 3) := by decide +kernel
theorem dX9_undoableCount_4 : decode cX9_undoableCount 4 = .ok (.getfield 369, 3) := by decide +kernel
theorem dX9_undoableCount_7 : decode cX9_undoableCount 7 = .ok (.ireturn, 1) := by decide +kernel
def f_X9_undoableCount (V : Mem) : Option (Int32 × Mem) :=
  some ((V 220 1), V)
theorem cv_X9_undoableCount : CalV yX9_undoableCount cX9_undoableCount 1 (some .int) 0 := ⟨⟨⟨by decide +kernel, by decide +kernel⟩, tw_1_1, tw_2_204, by decide +kernel⟩, tw_2_202, tw_2_203⟩
set_option maxRecDepth 100000 in
set_option maxHeartbeats 4000000 in
theorem m_X9_undoableCount (l : Launch) (E : En) (ad : Nat → Nat) (V : Mem) (r : Int32) (Vz : Mem) (hf : f_X9_undoableCount V = some (r, Vz)) : MR l E ad yX9_undoableCount cX9_undoableCount 1 (some .int) 1 [.ref (ad 248)] V (some (.int r)) Vz := by
  refine ent (E := E) (ad := ad) (V := V) "LetterRepository" (by decide +kernel) rfl (Nat.le_of_ble_eq_true rfl) ?_
  intro p e s m below meth c ls hC hI hl
  have hx := hC.1
  have hb := hC.2.1
  have hl : lv_has ls 1 [(0, .ref (ad 248))] := hl
  unfold f_X9_undoableCount at hf
  refine lv_aload_n hx hb dX9_undoableCount_0 rfl (lv_at hl 0 rfl) ?_
  refine g_248_history hC hI tw_1_215 dX9_undoableCount_1 ?_
  refine gN_220_count hC hI tw_1_129 dX9_undoableCount_4 ?_
  exact r_iret2 hC hI hf dX9_undoableCount_7
theorem k_X9_undoableCount {p : Program} {l : Launch} {e : Env} {R : Room} {cells slots : Nat} {s : State} {m : MethodId} {args : Array Value} {below : List Frame} {meth : Method} {c : Code} {H : Heap} {locs : List Loc} {Q : State → Prop} {E : En} {ad : Nat → Nat} {V : Mem} {ow : String} {b : ByteArray} {n : Nat} {ret : Option FieldType} {pc index : Nat} {ls : Array Slot} {rest : List Value} {r : Int32} {V1 : Mem} (hC : Cx p s m args c meth E ow b n ret) (hI : In E ad V s H locs) (hsz : ls.size = n) (hf : f_X9_undoableCount V = some (r, V1)) (hl : Cond.methodLink ow index yX9_undoableCount ∈ TB) (hR : 1 + 1 ≤ R.frames ∧ 8 + (1 + 11) + 40 * 1 ≤ R.locals) (hcs : cells ≤ R.cells ∧ slots ≤ R.slots) (hw : (rest.map fun v => v.category).sum ≤ 8) (hdg : decode b pc = .ok (.invokevirtual index, 3)) (kk : ∀ (H1 : Heap) (locs1 : List Loc), In E ad V1 s H1 locs1 → W p l e R s m args below meth c H1 locs1 cells slots Q (F0 m (pc + 3) ls ((.int r) :: rest))) : W p l e R s m args below meth c H locs cells slots Q (F0 m pc ls (.ref (ad 248) :: rest)) :=
  r_calV (As := []) (rest := rest) hC hI hsz (m_X9_undoableCount l E ad V r _ hf) cv_X9_undoableCount hl (by decide) (ce_248 _) rfl rfl rfl hR hcs hw hdg kk

theorem dX9_undo_0 : decode cX9_undo 0 = .ok (.aload_n 0, 1) := by decide +kernel
theorem dX9_undo_1 : decode cX9_undo 1 = .ok (.getfield 22, 3) := by decide +kernel
theorem dX9_undo_4 : decode cX9_undo 4 = .ok (.getfield 369, 3) := by decide +kernel
theorem dX9_undo_7 : decode cX9_undo 7 = .ok (.ifCond .ne 14, 3) := by decide +kernel
theorem dX9_undo_10 : decode cX9_undo 10 = .ok (.new 330, 3) := by decide +kernel
theorem dX9_undo_13 : decode cX9_undo 13 = .ok (.dup, 1) := by decide +kernel
theorem dX9_undo_14 : decode cX9_undo 14 = .ok (.ldc_w 370, 3) := by decide +kernel
theorem dX9_undo_17 : decode cX9_undo 17 = .ok (.invokespecial 334, 3) := by decide +kernel
theorem dX9_undo_20 : decode cX9_undo 20 = .ok (.athrow, 1) := by decide +kernel
theorem dX9_undo_21 : decode cX9_undo 21 = .ok (.aload_n 0, 1) := by decide +kernel
theorem dX9_undo_22 : decode cX9_undo 22 = .ok (.getfield 22, 3) := by decide +kernel
theorem dX9_undo_25 : decode cX9_undo 25 = .ok (.aload_n 0, 1) := by decide +kernel
theorem dX9_undo_26 : decode cX9_undo 26 = .ok (.getfield 10, 3) := by decide +kernel
theorem dX9_undo_29 : decode cX9_undo 29 = .ok (.invokevirtual 372, 3) := by decide +kernel
theorem dX9_undo_32 : decode cX9_undo 32 = .ok (.aload_n 0, 1) := by decide +kernel
theorem dX9_undo_33 : decode cX9_undo 33 = .ok (.getfield 22, 3) := by decide +kernel
theorem dX9_undo_36 : decode cX9_undo 36 = .ok (.getfield 369, 3) := by decide +kernel
theorem dX9_undo_39 : decode cX9_undo 39 = .ok (.ireturn, 1) := by decide +kernel
def f_X9_undo (V : Mem) : Option (Nat × Int32 × Mem) :=
  if (V 220 1) = 0 then
    some (4, 0, V)
  else
    bv (f_X2_takeBackInto V) fun V29 =>
    some (0, (V29 220 1), V29)
theorem cv_X9_undo : CalV yX9_undo cX9_undo 1 (some .int) 0 := ⟨⟨⟨by decide +kernel, by decide +kernel⟩, tw_1_1, tw_7_163, by decide +kernel⟩, tw_7_161, tw_7_162⟩
set_option maxRecDepth 100000 in
set_option maxHeartbeats 4000000 in
theorem m_X9_undo (l : Launch) (hT : l.stackTraces = false) (E : En) (ad : Nat → Nat) (V : Mem) (hS : SF E) (k : Nat) (r : Int32) (Vz : Mem) (hf : f_X9_undo V = some (k, r, Vz)) : MX l E ad yX9_undo cX9_undo 1 (some .int) 6 1 6 [.ref (ad 248)] V k (some (.int r)) Vz := by
  refine entX (E := E) (ad := ad) (V := V) "LetterRepository" hT (by decide +kernel) rfl (Nat.le_of_ble_eq_true rfl) ?_
  intro p e s m below meth c ls hC hY hI hl
  have hx := hC.1
  have hb := hC.2.1
  have hl : lv_has ls 1 [(0, .ref (ad 248))] := hl
  unfold f_X9_undo at hf
  refine lv_aload_n hx hb dX9_undo_0 rfl (lv_at hl 0 rfl) ?_
  refine g_248_history hC hI tw_1_215 dX9_undo_1 ?_
  refine gN_220_count hC hI tw_1_129 dX9_undo_4 ?_
  refine lv_if_ne (tgt := 21) hx hb dX9_undo_7 (by decide) (fun c7 => ?_) (fun c7 => ?_)
  · have hf := gf hf c7
    refine lv_aload_n hx hb dX9_undo_21 rfl (lv_at hl 0 rfl) ?_
    refine g_248_history hC hI tw_1_215 dX9_undo_22 ?_
    refine lv_aload_n hx hb dX9_undo_25 rfl (lv_at hl 0 rfl) ?_
    refine g_248_store hC hI tw_1_213 dX9_undo_26 ?_
    obtain ⟨V29, q29, hf⟩ := gbv hf
    refine k_X2_takeBackInto hC hI hl.1 q29 tw_7_165 ⟨Nat.le_of_ble_eq_true rfl, Nat.le_of_ble_eq_true rfl⟩ ⟨Nat.le_of_ble_eq_true rfl, Nat.le_of_ble_eq_true rfl⟩ (Nat.le_of_ble_eq_true rfl) dX9_undo_29 (fun H locs hI => ?_)
    refine lv_aload_n hx hb dX9_undo_32 rfl (lv_at hl 0 rfl) ?_
    refine g_248_history hC hI tw_1_215 dX9_undo_33 ?_
    refine gN_220_count hC hI tw_1_129 dX9_undo_36 ?_
    exact x_iret hC hI hf ⟨Nat.le_of_ble_eq_true rfl, Nat.le_of_ble_eq_true rfl⟩ dX9_undo_39
  · have hf := gt hf c7
    exact x_thr4w hS hC hY hI hl.1 (List.Mem.tail _ (List.Mem.tail _ (List.Mem.tail _ (List.Mem.tail _ (List.Mem.tail _ (List.Mem.tail _ (List.Mem.tail _ (List.Mem.head _)))))))) (hx3 hf) ⟨Nat.le_of_ble_eq_true rfl, Nat.le_of_ble_eq_true rfl, Nat.le_of_ble_eq_true rfl, Nat.le_of_ble_eq_true rfl⟩ ⟨Nat.le_of_ble_eq_true rfl, Nat.le_of_ble_eq_true rfl⟩ dX9_undo_10 dX9_undo_13 dX9_undo_14 dX9_undo_17 dX9_undo_20
theorem kx_X9_undo {p : Program} {l : Launch} {e : Env} {R : Room} {cells slots mc ms : Nat} {s : State} {m : MethodId} {args : Array Value} {below : List Frame} {meth : Method} {c : Code} {H : Heap} {locs : List Loc} {Qc : Array Value → State → Outcome → State → Prop} {E : En} {ad : Nat → Nat} {V : Mem} {ow : String} {b : ByteArray} {n : Nat} {ret : Option FieldType} {pc index : Nat} {ls : Array Slot} {rest : List Value} {k1 k : Nat} {r : Int32} {V1 Vz : Mem} (hS : SF E) (hC : Cx p s m args c meth E ow b n ret) (hY : Cy l c) (hI : In E ad V s H locs) (hsz : ls.size = n) (hf : f_X9_undo V = some (k1, r, V1)) (hl : Cond.methodLink ow index yX9_undo ∈ TB) (hR : 6 + 1 ≤ R.frames ∧ 8 + (1 + 11) + 40 * 6 ≤ R.locals) (hcs : cells + 1 ≤ R.cells ∧ slots + 6 ≤ R.slots) (hc : cells + 1 ≤ mc ∧ slots + 6 ≤ ms) (hw : (rest.map fun v => v.category).sum ≤ 8) (hdg : decode b pc = .ok (.invokevirtual index, 3)) (hx : k1 ≠ 0 → k1 = k ∧ V1 = Vz) (kk : k1 = 0 → ∀ (H1 : Heap) (locs1 : List Loc), In E ad V1 s H1 locs1 → W p l e R s m args below meth c H1 locs1 (cells + 1) (slots + 6) (vx_MQ below Qc (QX E ad k Vz) args s mc ms (ours E)) (F0 m (pc + 3) ls ((.int r) :: rest))) : W p l e R s m args below meth c H locs cells slots (vx_MQ below Qc (QX E ad k Vz) args s mc ms (ours E)) (F0 m pc ls (.ref (ad 248) :: rest)) :=
  after_callX hC hY hI (xrunV_tb (As := []) (rest := rest) hC hI hsz (m_X9_undo l hY.2 E ad V hS k1 r V1 hf) cv_X9_undo hl (by decide) (ce_248 _) rfl rfl rfl hR hcs hw hdg) hc hx kk

theorem dX9_save_0 : decode cX9_save 0 = .ok (.aload_n 0, 1) := by decide +kernel
theorem dX9_save_1 : decode cX9_save 1 = .ok (.getfield 16, 3) := by decide +kernel
theorem dX9_save_4 : decode cX9_save 4 = .ok (.aload_n 0, 1) := by decide +kernel
theorem dX9_save_5 : decode cX9_save 5 = .ok (.getfield 10, 3) := by decide +kernel
theorem dX9_save_8 : decode cX9_save 8 = .ok (.invokevirtual 375, 3) := by decide +kernel
theorem dX9_save_11 : decode cX9_save 11 = .ok (.aload_n 0, 1) := by decide +kernel
theorem dX9_save_12 : decode cX9_save 12 = .ok (.iconst 1, 1) := by decide +kernel
theorem dX9_save_13 : decode cX9_save 13 = .ok (.putfield 378, 3) := by decide +kernel
theorem dX9_save_16 : decode cX9_save 16 = .ok (.aload_n 0, 1) := by decide +kernel
theorem dX9_save_17 : decode cX9_save 17 = .ok (.getfield 10, 3) := by decide +kernel
theorem dX9_save_20 : decode cX9_save 20 = .ok (.getfield 131, 3) := by decide +kernel
theorem dX9_save_23 : decode cX9_save 23 = .ok (.getfield 135, 3) := by decide +kernel
theorem dX9_save_26 : decode cX9_save 26 = .ok (.ireturn, 1) := by decide +kernel
def f_X9_save (V : Mem) : Option (Int32 × Mem) :=
  bv (f_X8_copyFrom V 1 0) fun V8 =>
  lt (stv V8 248 0 1) fun V13 =>
  some ((V13 1 1), V13)
theorem cv_X9_save : CalV yX9_save cX9_save 1 (some .int) 0 := ⟨⟨⟨by decide +kernel, by decide +kernel⟩, tw_1_1, tw_2_208, by decide +kernel⟩, tw_2_206, tw_2_207⟩
set_option maxRecDepth 100000 in
set_option maxHeartbeats 4000000 in
theorem m_X9_save (l : Launch) (E : En) (ad : Nat → Nat) (V : Mem) (r : Int32) (Vz : Mem) (hf : f_X9_save V = some (r, Vz)) : MR l E ad yX9_save cX9_save 1 (some .int) 4 [.ref (ad 248)] V (some (.int r)) Vz := by
  refine ent (E := E) (ad := ad) (V := V) "LetterRepository" (by decide +kernel) rfl (Nat.le_of_ble_eq_true rfl) ?_
  intro p e s m below meth c ls hC hI hl
  have hx := hC.1
  have hb := hC.2.1
  have hl : lv_has ls 1 [(0, .ref (ad 248))] := hl
  unfold f_X9_save at hf
  refine lv_aload_n hx hb dX9_save_0 rfl (lv_at hl 0 rfl) ?_
  refine g_248_savedCopy hC hI tw_1_214 dX9_save_1 ?_
  refine lv_aload_n hx hb dX9_save_4 rfl (lv_at hl 0 rfl) ?_
  refine g_248_store hC hI tw_1_213 dX9_save_5 ?_
  obtain ⟨V8, q8, hf⟩ := gbv hf
  refine k_X8_copyFrom (by decide) (by decide) hC hI hl.1 q8 tw_2_209 ⟨Nat.le_of_ble_eq_true rfl, Nat.le_of_ble_eq_true rfl⟩ ⟨Nat.le_refl _, Nat.le_refl _⟩ (Nat.le_of_ble_eq_true rfl) dX9_save_8 (fun H locs hI => ?_)
  refine lv_aload_n hx hb dX9_save_11 rfl (lv_at hl 0 rfl) ?_
  refine lv_iconst (v := 1) hx hb dX9_save_12 rfl ?_
  obtain ⟨V13, e13, hf⟩ := gl hf
  refine p_248_hasSavedCopy hC hI (.inr rfl) e13 tw_1_219 dX9_save_13 (fun H locs hI => ?_)
  refine lv_aload_n hx hb dX9_save_16 rfl (lv_at hl 0 rfl) ?_
  refine g_248_store hC hI tw_1_213 dX9_save_17 ?_
  refine gN_0_revisions hC hI tw_1_100 dX9_save_20 ?_
  refine gN_1_count hC hI tw_1_78 dX9_save_23 ?_
  exact r_iret2 hC hI hf dX9_save_26
theorem k_X9_save {p : Program} {l : Launch} {e : Env} {R : Room} {cells slots : Nat} {s : State} {m : MethodId} {args : Array Value} {below : List Frame} {meth : Method} {c : Code} {H : Heap} {locs : List Loc} {Q : State → Prop} {E : En} {ad : Nat → Nat} {V : Mem} {ow : String} {b : ByteArray} {n : Nat} {ret : Option FieldType} {pc index : Nat} {ls : Array Slot} {rest : List Value} {r : Int32} {V1 : Mem} (hC : Cx p s m args c meth E ow b n ret) (hI : In E ad V s H locs) (hsz : ls.size = n) (hf : f_X9_save V = some (r, V1)) (hl : Cond.methodLink ow index yX9_save ∈ TB) (hR : 4 + 1 ≤ R.frames ∧ 8 + (1 + 11) + 40 * 4 ≤ R.locals) (hcs : cells ≤ R.cells ∧ slots ≤ R.slots) (hw : (rest.map fun v => v.category).sum ≤ 8) (hdg : decode b pc = .ok (.invokevirtual index, 3)) (kk : ∀ (H1 : Heap) (locs1 : List Loc), In E ad V1 s H1 locs1 → W p l e R s m args below meth c H1 locs1 cells slots Q (F0 m (pc + 3) ls ((.int r) :: rest))) : W p l e R s m args below meth c H locs cells slots Q (F0 m pc ls (.ref (ad 248) :: rest)) :=
  r_calV (As := []) (rest := rest) hC hI hsz (m_X9_save l E ad V r _ hf) cv_X9_save hl (by decide) (ce_248 _) rfl rfl rfl hR hcs hw hdg kk

theorem dX9_restore_0 : decode cX9_restore 0 = .ok (.aload_n 0, 1) := by decide +kernel
theorem dX9_restore_1 : decode cX9_restore 1 = .ok (.getfield 378, 3) := by decide +kernel
theorem dX9_restore_4 : decode cX9_restore 4 = .ok (.ifCond .ne 14, 3) := by decide +kernel
theorem dX9_restore_7 : decode cX9_restore 7 = .ok (.new 330, 3) := by decide +kernel
theorem dX9_restore_10 : decode cX9_restore 10 = .ok (.dup, 1) := by decide +kernel
theorem dX9_restore_11 : decode cX9_restore 11 = .ok (.ldc_w 382, 3) := by decide +kernel
theorem dX9_restore_14 : decode cX9_restore 14 = .ok (.invokespecial 334, 3) := by decide +kernel
theorem dX9_restore_17 : decode cX9_restore 17 = .ok (.athrow, 1) := by decide +kernel
theorem dX9_restore_18 : decode cX9_restore 18 = .ok (.aload_n 0, 1) := by decide +kernel
theorem dX9_restore_19 : decode cX9_restore 19 = .ok (.getfield 10, 3) := by decide +kernel
theorem dX9_restore_22 : decode cX9_restore 22 = .ok (.aload_n 0, 1) := by decide +kernel
theorem dX9_restore_23 : decode cX9_restore 23 = .ok (.getfield 16, 3) := by decide +kernel
theorem dX9_restore_26 : decode cX9_restore 26 = .ok (.invokevirtual 375, 3) := by decide +kernel
theorem dX9_restore_29 : decode cX9_restore 29 = .ok (.aload_n 0, 1) := by decide +kernel
theorem dX9_restore_30 : decode cX9_restore 30 = .ok (.getfield 22, 3) := by decide +kernel
theorem dX9_restore_33 : decode cX9_restore 33 = .ok (.invokevirtual 384, 3) := by decide +kernel
theorem dX9_restore_36 : decode cX9_restore 36 = .ok (.aload_n 0, 1) := by decide +kernel
theorem dX9_restore_37 : decode cX9_restore 37 = .ok (.getfield 10, 3) := by decide +kernel
theorem dX9_restore_40 : decode cX9_restore 40 = .ok (.getfield 131, 3) := by decide +kernel
theorem dX9_restore_43 : decode cX9_restore 43 = .ok (.getfield 135, 3) := by decide +kernel
theorem dX9_restore_46 : decode cX9_restore 46 = .ok (.ireturn, 1) := by decide +kernel
def f_X9_restore (V : Mem) : Option (Nat × Int32 × Mem) :=
  if (V 248 0) = 0 then
    some (4, 0, V)
  else
    bv (f_X8_copyFrom V 0 1) fun V26 =>
    bv (f_X2_forget V26) fun V33 =>
    some (0, (V33 1 1), V33)
theorem cv_X9_restore : CalV yX9_restore cX9_restore 1 (some .int) 0 := ⟨⟨⟨by decide +kernel, by decide +kernel⟩, tw_1_1, tw_7_177, by decide +kernel⟩, tw_7_175, tw_7_176⟩
set_option maxRecDepth 100000 in
set_option maxHeartbeats 4000000 in
theorem m_X9_restore (l : Launch) (hT : l.stackTraces = false) (E : En) (ad : Nat → Nat) (V : Mem) (hS : SF E) (k : Nat) (r : Int32) (Vz : Mem) (hf : f_X9_restore V = some (k, r, Vz)) : MX l E ad yX9_restore cX9_restore 1 (some .int) 6 1 6 [.ref (ad 248)] V k (some (.int r)) Vz := by
  refine entX (E := E) (ad := ad) (V := V) "LetterRepository" hT (by decide +kernel) rfl (Nat.le_of_ble_eq_true rfl) ?_
  intro p e s m below meth c ls hC hY hI hl
  have hx := hC.1
  have hb := hC.2.1
  have hl : lv_has ls 1 [(0, .ref (ad 248))] := hl
  unfold f_X9_restore at hf
  refine lv_aload_n hx hb dX9_restore_0 rfl (lv_at hl 0 rfl) ?_
  refine g_248_hasSavedCopy hC hI tw_1_219 dX9_restore_1 ?_
  refine lv_if_ne (tgt := 18) hx hb dX9_restore_4 (by decide) (fun c4 => ?_) (fun c4 => ?_)
  · have hf := gf hf c4
    refine lv_aload_n hx hb dX9_restore_18 rfl (lv_at hl 0 rfl) ?_
    refine g_248_store hC hI tw_1_213 dX9_restore_19 ?_
    refine lv_aload_n hx hb dX9_restore_22 rfl (lv_at hl 0 rfl) ?_
    refine g_248_savedCopy hC hI tw_1_214 dX9_restore_23 ?_
    obtain ⟨V26, q26, hf⟩ := gbv hf
    refine k_X8_copyFrom (by decide) (by decide) hC hI hl.1 q26 tw_2_209 ⟨Nat.le_of_ble_eq_true rfl, Nat.le_of_ble_eq_true rfl⟩ ⟨Nat.le_of_ble_eq_true rfl, Nat.le_of_ble_eq_true rfl⟩ (Nat.le_of_ble_eq_true rfl) dX9_restore_26 (fun H locs hI => ?_)
    refine lv_aload_n hx hb dX9_restore_29 rfl (lv_at hl 0 rfl) ?_
    refine g_248_history hC hI tw_1_215 dX9_restore_30 ?_
    obtain ⟨V33, q33, hf⟩ := gbv hf
    refine k_X2_forget hC hI hl.1 q33 tw_7_179 ⟨Nat.le_of_ble_eq_true rfl, Nat.le_of_ble_eq_true rfl⟩ ⟨Nat.le_of_ble_eq_true rfl, Nat.le_of_ble_eq_true rfl⟩ (Nat.le_of_ble_eq_true rfl) dX9_restore_33 (fun H locs hI => ?_)
    refine lv_aload_n hx hb dX9_restore_36 rfl (lv_at hl 0 rfl) ?_
    refine g_248_store hC hI tw_1_213 dX9_restore_37 ?_
    refine gN_0_revisions hC hI tw_1_100 dX9_restore_40 ?_
    refine gN_1_count hC hI tw_1_78 dX9_restore_43 ?_
    exact x_iret hC hI hf ⟨Nat.le_of_ble_eq_true rfl, Nat.le_of_ble_eq_true rfl⟩ dX9_restore_46
  · have hf := gt hf c4
    exact x_thr4w hS hC hY hI hl.1 (List.Mem.tail _ (List.Mem.tail _ (List.Mem.tail _ (List.Mem.tail _ (List.Mem.tail _ (List.Mem.tail _ (List.Mem.tail _ (List.Mem.tail _ (List.Mem.head _))))))))) (hx3 hf) ⟨Nat.le_of_ble_eq_true rfl, Nat.le_of_ble_eq_true rfl, Nat.le_of_ble_eq_true rfl, Nat.le_of_ble_eq_true rfl⟩ ⟨Nat.le_of_ble_eq_true rfl, Nat.le_of_ble_eq_true rfl⟩ dX9_restore_7 dX9_restore_10 dX9_restore_11 dX9_restore_14 dX9_restore_17
theorem kx_X9_restore {p : Program} {l : Launch} {e : Env} {R : Room} {cells slots mc ms : Nat} {s : State} {m : MethodId} {args : Array Value} {below : List Frame} {meth : Method} {c : Code} {H : Heap} {locs : List Loc} {Qc : Array Value → State → Outcome → State → Prop} {E : En} {ad : Nat → Nat} {V : Mem} {ow : String} {b : ByteArray} {n : Nat} {ret : Option FieldType} {pc index : Nat} {ls : Array Slot} {rest : List Value} {k1 k : Nat} {r : Int32} {V1 Vz : Mem} (hS : SF E) (hC : Cx p s m args c meth E ow b n ret) (hY : Cy l c) (hI : In E ad V s H locs) (hsz : ls.size = n) (hf : f_X9_restore V = some (k1, r, V1)) (hl : Cond.methodLink ow index yX9_restore ∈ TB) (hR : 6 + 1 ≤ R.frames ∧ 8 + (1 + 11) + 40 * 6 ≤ R.locals) (hcs : cells + 1 ≤ R.cells ∧ slots + 6 ≤ R.slots) (hc : cells + 1 ≤ mc ∧ slots + 6 ≤ ms) (hw : (rest.map fun v => v.category).sum ≤ 8) (hdg : decode b pc = .ok (.invokevirtual index, 3)) (hx : k1 ≠ 0 → k1 = k ∧ V1 = Vz) (kk : k1 = 0 → ∀ (H1 : Heap) (locs1 : List Loc), In E ad V1 s H1 locs1 → W p l e R s m args below meth c H1 locs1 (cells + 1) (slots + 6) (vx_MQ below Qc (QX E ad k Vz) args s mc ms (ours E)) (F0 m (pc + 3) ls ((.int r) :: rest))) : W p l e R s m args below meth c H locs cells slots (vx_MQ below Qc (QX E ad k Vz) args s mc ms (ours E)) (F0 m pc ls (.ref (ad 248) :: rest)) :=
  after_callX hC hY hI (xrunV_tb (As := []) (rest := rest) hC hI hsz (m_X9_restore l hY.2 E ad V hS k1 r V1 hf) cv_X9_restore hl (by decide) (ce_248 _) rfl rfl rfl hR hcs hw hdg) hc hx kk
