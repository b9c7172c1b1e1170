theorem dX10_thrown_0 : decode cX10_thrown 0 = .ok (.aload_n 0, 1) := by decide +kernel
theorem dX10_thrown_1 : decode cX10_thrown 1 = .ok (.getfield 51, 3) := by decide +kernel
theorem dX10_thrown_4 : decode cX10_thrown 4 = .ok (.ireturn, 1) := by decide +kernel
def f_X10_thrown (V : Mem) : Option (Int32 × Mem) :=
  some ((V 253 4), V)
set_option maxRecDepth 100000 in
set_option maxHeartbeats 4000000 in
theorem m_X10_thrown (l : Launch) (E : En) (ad : Nat → Nat) (V : Mem) (r : Int32) (Vz : Mem) (hf : f_X10_thrown V = some (r, Vz)) : MR l E ad yX10_thrown cX10_thrown 1 (some .int) 1 [.ref (ad 253)] V (some (.int r)) Vz := by
  refine ent (E := E) (ad := ad) (V := V) "LetterRepositoryModel" (by decide +kernel) rfl (Nat.le_of_ble_eq_true rfl) ?_
  intro p e s m below meth c ls hC hI hl
  have hx := hC.1
  have hb := hC.2.1
  have hl : lv_has ls 1 [(0, .ref (ad 253))] := hl
  unfold f_X10_thrown at hf
  refine lv_aload_n hx hb dX10_thrown_0 rfl (lv_at hl 0 rfl) ?_
  refine g_253_thrown hC hI tw_7_197 dX10_thrown_1 ?_
  exact r_iret2 hC hI hf dX10_thrown_4
theorem cv_X10_thrown : CalV yX10_thrown cX10_thrown 1 (some .int) 0 := ⟨⟨⟨by decide +kernel, by decide +kernel⟩, tw_1_14, tw_8_20, by decide +kernel⟩, tw_8_18, tw_8_19⟩
theorem k_X10_thrown {p : Program} {l : Launch} {e : Env} {s : State} {m : MethodId} {args : Array Value} {below : List Frame} {meth : Method} {c : Code} {H : Heap} {locs : List Loc} {Q : State → Prop} {E : En} {ad : Nat → Nat} {V : Mem} {ow : String} {b : ByteArray} {n d : Nat} {ret : Option FieldType} {pc index : Nat} {ls : Array Slot} {rest : List Value} {r : Int32} {V1 : Mem} (hC : Cx p s m args c meth E ow b n ret) (hI : In E ad V s H locs) (hsz : ls.size = n) (hf : f_X10_thrown V = some (r, V1)) (hl : Cond.methodLink ow index yX10_thrown ∈ TB) (hR : 1 + 1 ≤ d ∧ 8 + (1 + 11) + 40 * 1 ≤ 40 * d) (hw : (rest.map fun v => v.category).sum ≤ 8) (hdg : decode b pc = .ok (.invokevirtual index, 3)) (kk : ∀ (H1 : Heap) (locs1 : List Loc), In E ad V1 s H1 locs1 → W p l e (rmd d) s m args below meth c H1 locs1 0 0 Q (F0 m (pc + 3) ls (.int r :: rest))) : W p l e (rmd d) s m args below meth c H locs 0 0 Q (F0 m pc ls (.ref (ad 253) :: rest)) :=
  r_calV (As := []) (rest := rest) hC hI hsz (m_X10_thrown l E ad V r _ hf) cv_X10_thrown hl (by decide) (ce_253 _) rfl rfl rfl hR hw hdg kk

theorem dX10_throwing_0 : decode cX10_throwing 0 = .ok (.aload_n 0, 1) := by decide +kernel
theorem dX10_throwing_1 : decode cX10_throwing 1 = .ok (.iload_n 1, 1) := by decide +kernel
theorem dX10_throwing_2 : decode cX10_throwing 2 = .ok (.putfield 51, 3) := by decide +kernel
theorem dX10_throwing_5 : decode cX10_throwing 5 = .ok (.iconst (-1), 1) := by decide +kernel
theorem dX10_throwing_6 : decode cX10_throwing 6 = .ok (.ireturn, 1) := by decide +kernel
def f_X10_throwing (V : Mem) (a1 : Int32) : Option (Int32 × Mem) :=
  lt (stv V 253 4 a1) fun V2 =>
  some ((-1), V2)
set_option maxRecDepth 100000 in
set_option maxHeartbeats 4000000 in
theorem m_X10_throwing (l : Launch) (E : En) (ad : Nat → Nat) (V : Mem) (a1 : Int32) (r : Int32) (Vz : Mem) (hf : f_X10_throwing V a1 = some (r, Vz)) : MR l E ad yX10_throwing cX10_throwing 2 (some .int) 1 [.ref (ad 253), .int a1] V (some (.int r)) Vz := by
  refine ent (E := E) (ad := ad) (V := V) "LetterRepositoryModel" (by decide +kernel) rfl (Nat.le_of_ble_eq_true rfl) ?_
  intro p e s m below meth c ls hC hI hl
  have hx := hC.1
  have hb := hC.2.1
  have hl : lv_has ls 2 [(0, .ref (ad 253)), (1, .int a1)] := hl
  unfold f_X10_throwing at hf
  refine lv_aload_n hx hb dX10_throwing_0 rfl (lv_at hl 0 rfl) ?_
  refine lv_iload_n hx hb dX10_throwing_1 rfl (lv_at hl 1 rfl) ?_
  obtain ⟨V2, e2, hf⟩ := gl hf
  refine p_253_thrown hC hI  e2 tw_7_197 dX10_throwing_2 (fun H locs hI => ?_)
  refine lv_iconst (v := (-1)) hx hb dX10_throwing_5 rfl ?_
  exact r_iret2 hC hI hf dX10_throwing_6
theorem cv_X10_throwing : CalV yX10_throwing cX10_throwing 2 (some .int) 1 := ⟨⟨⟨by decide +kernel, by decide +kernel⟩, tw_1_14, tw_8_47, by decide +kernel⟩, tw_8_46, tp_23⟩
theorem k_X10_throwing {p : Program} {l : Launch} {e : Env} {s : State} {m : MethodId} {args : Array Value} {below : List Frame} {meth : Method} {c : Code} {H : Heap} {locs : List Loc} {Q : State → Prop} {E : En} {ad : Nat → Nat} {V : Mem} {ow : String} {b : ByteArray} {n d : Nat} {ret : Option FieldType} {pc index : Nat} {ls : Array Slot} {rest : List Value} {a1 : Int32} {r : Int32} {V1 : Mem} (hC : Cx p s m args c meth E ow b n ret) (hI : In E ad V s H locs) (hsz : ls.size = n) (hf : f_X10_throwing V a1 = some (r, V1)) (hl : Cond.methodLink ow index yX10_throwing ∈ TB) (hR : 1 + 1 ≤ d ∧ 8 + (2 + 11) + 40 * 1 ≤ 40 * d) (hw : (rest.map fun v => v.category).sum ≤ 8) (hdg : decode b pc = .ok (.invokevirtual index, 3)) (kk : ∀ (H1 : Heap) (locs1 : List Loc), In E ad V1 s H1 locs1 → W p l e (rmd d) s m args below meth c H1 locs1 0 0 Q (F0 m (pc + 3) ls (.int r :: rest))) : W p l e (rmd d) s m args below meth c H locs 0 0 Q (F0 m pc ls (.int a1 :: .ref (ad 253) :: rest)) :=
  r_calV (As := [.int a1]) (rest := rest) hC hI hsz (m_X10_throwing l E ad V a1 r _ hf) cv_X10_throwing hl (by decide) (ce_253 _) rfl rfl rfl hR hw hdg kk

theorem dX10_in_0 : decode cX10_in 0 = .ok (.lload_n 0, 1) := by decide +kernel
theorem dX10_in_1 : decode cX10_in 1 = .ok (.lload_n 2, 1) := by decide +kernel
theorem dX10_in_2 : decode cX10_in 2 = .ok (.lcmp, 1) := by decide +kernel
theorem dX10_in_3 : decode cX10_in 3 = .ok (.ifCond .lt 14, 3) := by decide +kernel
theorem dX10_in_6 : decode cX10_in 6 = .ok (.lload_n 0, 1) := by decide +kernel
theorem dX10_in_7 : decode cX10_in 7 = .ok (.lload 4, 2) := by decide +kernel
theorem dX10_in_9 : decode cX10_in 9 = .ok (.lcmp, 1) := by decide +kernel
theorem dX10_in_10 : decode cX10_in 10 = .ok (.ifCond .gt 7, 3) := by decide +kernel
theorem dX10_in_13 : decode cX10_in 13 = .ok (.iconst 1, 1) := by decide +kernel
theorem dX10_in_14 : decode cX10_in 14 = .ok (.goto 4, 3) := by decide +kernel
theorem dX10_in_17 : decode cX10_in 17 = .ok (.iconst 0, 1) := by decide +kernel
theorem dX10_in_18 : decode cX10_in 18 = .ok (.ireturn, 1) := by decide +kernel
def f_X10_in (V : Mem) (a0 : Int64) (a2 : Int64) (a4 : Int64) : Option (Int32 × Mem) :=
  if (lg_cmp a0 a2) < 0 then
    some (0, V)
  else
    if 0 < (lg_cmp a0 a4) then
      some (0, V)
    else
      some (1, V)
set_option maxRecDepth 100000 in
set_option maxHeartbeats 4000000 in
theorem m_X10_in (l : Launch) (E : En) (ad : Nat → Nat) (V : Mem) (a0 : Int64) (a2 : Int64) (a4 : Int64) (r : Int32) (Vz : Mem) (hf : f_X10_in V a0 a2 a4 = some (r, Vz)) : MR l E ad yX10_in cX10_in 6 (some .boolean) 1 [.long a0, .long a2, .long a4] V (some (.int r)) Vz := by
  refine ent (E := E) (ad := ad) (V := V) "LetterRepositoryModel" (by decide +kernel) rfl (Nat.le_of_ble_eq_true rfl) ?_
  intro p e s m below meth c ls hC hI hl
  have hx := hC.1
  have hb := hC.2.1
  have hl : lv_has ls 6 [(0, .long a0), (2, .long a2), (4, .long a4)] := hl
  unfold f_X10_in at hf
  refine lv_lload_n hx hb dX10_in_0 rfl (lv_at hl 0 rfl) ?_
  refine lv_lload_n hx hb dX10_in_1 rfl (lv_at hl 1 rfl) ?_
  refine W.lcmp hx hb dX10_in_2 ?_
  refine lv_if_lt (tgt := 17) hx hb dX10_in_3 (by decide) (fun c3 => ?_) (fun c3 => ?_)
  · have hf := gt hf c3
    refine lv_iconst (v := 0) hx hb dX10_in_17 rfl ?_
    exact r_zret2 hC hI (.inl rfl) hf dX10_in_18
  · have hf := gf hf c3
    refine lv_lload_n hx hb dX10_in_6 rfl (lv_at hl 0 rfl) ?_
    refine lv_lload hx hb dX10_in_7 (lv_at hl 2 rfl) ?_
    refine W.lcmp hx hb dX10_in_9 ?_
    refine lv_if_gt (tgt := 17) hx hb dX10_in_10 (by decide) (fun c10 => ?_) (fun c10 => ?_)
    · have hf := gt hf c10
      refine lv_iconst (v := 0) hx hb dX10_in_17 rfl ?_
      exact r_zret2 hC hI (.inl rfl) hf dX10_in_18
    · have hf := gf hf c10
      refine lv_iconst (v := 1) hx hb dX10_in_13 rfl ?_
      refine lv_goto (tgt := 18) hx hb dX10_in_14 (by decide) ?_
      exact r_zret2 hC hI (.inr rfl) hf dX10_in_18
theorem cv_X10_in : CalS yX10_in cX10_in 6 (some .boolean) 3 := ⟨⟨⟨by decide +kernel, by decide +kernel⟩, tw_1_14, tw_8_39, by decide +kernel⟩, tw_8_38⟩
theorem k_X10_in {p : Program} {l : Launch} {e : Env} {s : State} {m : MethodId} {args : Array Value} {below : List Frame} {meth : Method} {c : Code} {H : Heap} {locs : List Loc} {Q : State → Prop} {E : En} {ad : Nat → Nat} {V : Mem} {ow : String} {b : ByteArray} {n d : Nat} {ret : Option FieldType} {pc index : Nat} {ls : Array Slot} {rest : List Value} {a0 : Int64} {a2 : Int64} {a4 : Int64} {r : Int32} {V1 : Mem} (hC : Cx p s m args c meth E ow b n ret) (hI : In E ad V s H locs) (hsz : ls.size = n) (hf : f_X10_in V a0 a2 a4 = some (r, V1)) (hl : Cond.methodLink ow index yX10_in ∈ TB) (hR : 1 + 1 ≤ d ∧ 8 + (6 + 11) + 40 * 1 ≤ 40 * d) (hw : (rest.map fun v => v.category).sum ≤ 8) (hdg : decode b pc = .ok (.invokestatic index, 3)) (kk : ∀ (H1 : Heap) (locs1 : List Loc), In E ad V1 s H1 locs1 → W p l e (rmd d) s m args below meth c H1 locs1 0 0 Q (F0 m (pc + 3) ls (.int r :: rest))) : W p l e (rmd d) s m args below meth c H locs 0 0 Q (F0 m pc ls (.long a4 :: .long a2 :: .long a0 :: rest)) :=
  r_calS (As := [.long a0, .long a2, .long a4]) (rest := rest) hC hI hsz (m_X10_in l E ad V a0 a2 a4 r _ hf) cv_X10_in hl rfl rfl hR hw hdg kk

theorem dX10_starts_0 : decode cX10_starts 0 = .ok (.aload_n 0, 1) := by decide +kernel
theorem dX10_starts_1 : decode cX10_starts 1 = .ok (.iconst 0, 1) := by decide +kernel
theorem dX10_starts_2 : decode cX10_starts 2 = .ok (.putfield 51, 3) := by decide +kernel
theorem dX10_starts_5 : decode cX10_starts 5 = .ok (.iconst 0, 1) := by decide +kernel
theorem dX10_starts_6 : decode cX10_starts 6 = .ok (.istore_n 1, 1) := by decide +kernel
theorem dX10_starts_7 : decode cX10_starts 7 = .ok (.iload_n 1, 1) := by decide +kernel
theorem dX10_starts_8 : decode cX10_starts 8 = .ok (.sipush 361, 3) := by decide +kernel
theorem dX10_starts_11 : decode cX10_starts 11 = .ok (.if_icmp .ge 21, 3) := by decide +kernel
theorem dX10_starts_14 : decode cX10_starts 14 = .ok (.aload_n 0, 1) := by decide +kernel
theorem dX10_starts_15 : decode cX10_starts 15 = .ok (.getfield 13, 3) := by decide +kernel
theorem dX10_starts_18 : decode cX10_starts 18 = .ok (.iload_n 1, 1) := by decide +kernel
theorem dX10_starts_19 : decode cX10_starts 19 = .ok (.aload_n 0, 1) := by decide +kernel
theorem dX10_starts_20 : decode cX10_starts 20 = .ok (.getfield 9, 3) := by decide +kernel
theorem dX10_starts_23 : decode cX10_starts 23 = .ok (.iload_n 1, 1) := by decide +kernel
theorem dX10_starts_24 : decode cX10_starts 24 = .ok (.iaload, 1) := by decide +kernel
theorem dX10_starts_25 : decode cX10_starts 25 = .ok (.iastore, 1) := by decide +kernel
theorem dX10_starts_26 : decode cX10_starts 26 = .ok (.iinc 1 1, 3) := by decide +kernel
theorem dX10_starts_29 : decode cX10_starts 29 = .ok (.goto (-22), 3) := by decide +kernel
theorem dX10_starts_32 : decode cX10_starts 32 = .ok (.return_, 1) := by decide +kernel
def f_X10_starts_L7 : Nat → Mem → Int32 → Option Mem
  | 0, _, _ => none
  | n7 + 1, V7, x1_7 =>
    if 361 ≤ x1_7 then
      some V7
    else
      if ib x1_7 361 = true then
        if ib x1_7 361 = true then
          lt (stv V7 255 (x1_7).toNatClampNeg (V7 254 (x1_7).toNatClampNeg)) fun V25 =>
          (f_X10_starts_L7 n7) V25 (x1_7 + 1)
        else none
      else none
def f_X10_starts (V : Mem) : Option Mem :=
  lt (stv V 253 4 0) fun V2 =>
  f_X10_starts_L7 FU V2 0
set_option maxRecDepth 100000 in
set_option maxHeartbeats 4000000 in
theorem m_X10_starts (l : Launch) (E : En) (ad : Nat → Nat) (V : Mem) (Vz : Mem) (hf : f_X10_starts V = some Vz) : MR l E ad yX10_starts cX10_starts 2 none 1 [.ref (ad 253)] V none Vz := by
  refine ent (E := E) (ad := ad) (V := V) "LetterRepositoryModel" (by decide +kernel) rfl (Nat.le_of_ble_eq_true rfl) ?_
  intro p e s m below meth c ls hC hI hl
  have hx := hC.1
  have hb := hC.2.1
  have hl : lv_has ls 2 [(0, .ref (ad 253))] := hl
  unfold f_X10_starts at hf
  refine lv_aload_n hx hb dX10_starts_0 rfl (lv_at hl 0 rfl) ?_
  refine lv_iconst (v := 0) hx hb dX10_starts_1 rfl ?_
  obtain ⟨V2, e2, hf⟩ := gl hf
  refine p_253_thrown hC hI  e2 tw_7_197 dX10_starts_2 (fun H locs hI => ?_)
  refine lv_iconst (v := 0) hx hb dX10_starts_5 rfl ?_
  refine lv_istore_n (lv' := [(1, .int 0), (0, .ref (ad 253))]) hx hb dX10_starts_6 rfl hl (Nat.lt_of_lt_of_eq (by decide) rfl) rfl (fun ls hl => ?_)
  have L7 : ∀ (n7 : Nat) (V7 : Mem) (x1_7 : Int32) (H : Heap) (locs : List Loc) (ls : Array Slot), f_X10_starts_L7 n7 V7 x1_7 = some Vz → In E ad V7 s H locs → lv_has ls 2 [(0, .ref (ad 253)), (1, .int x1_7)] → W p l e (rmd 1) s m ([.ref (ad 253)] : List Value).toArray below meth c H locs 0 0 (MQ below (QR E ad none Vz) ([.ref (ad 253)] : List Value).toArray s 0 0 (ours E)) (F0 m 7 ls []) := by
    intro n7
    induction n7 with
    | zero => intro V7 x1_7 H locs ls hf hI hl; cases hf
    | succ n7 ih7 =>
      intro V7 x1_7 H locs ls hf hI hl
      rw [f_X10_starts_L7.eq_2] at hf
      refine lv_iload_n hx hb dX10_starts_7 rfl (lv_at hl 1 rfl) ?_
      refine lv_sipush (v := 361) hx hb dX10_starts_8 rfl ?_
      refine lv_icmp_ge (tgt := 32) hx hb dX10_starts_11 (by decide) (fun c11 => ?_) (fun c11 => ?_)
      · have hf := gt hf c11
        exact r_vret2 hC hI hf dX10_starts_32
      · have hf := gf hf c11
        refine lv_aload_n hx hb dX10_starts_14 rfl (lv_at hl 0 rfl) ?_
        refine g_253_aside hC hI tw_7_190 dX10_starts_15 ?_
        refine lv_iload_n hx hb dX10_starts_18 rfl (lv_at hl 1 rfl) ?_
        refine lv_aload_n hx hb dX10_starts_19 rfl (lv_at hl 0 rfl) ?_
        refine g_253_m hC hI tw_7_189 dX10_starts_20 ?_
        refine lv_iload_n hx hb dX10_starts_23 rfl (lv_at hl 1 rfl) ?_
        obtain ⟨h24, hf⟩ := gi hf
        refine ra_254 hC hI (ib_in h24) dX10_starts_24 ?_
        obtain ⟨h25, hf⟩ := gi hf
        obtain ⟨V25, e25, hf⟩ := gl hf
        refine wa_255 hC hI (ib_in h25) e25 dX10_starts_25 (fun H locs hI => ?_)
        refine lv_iinc (v := (x1_7 + 1)) (lv' := [(1, .int (x1_7 + 1)), (0, .ref (ad 253))]) hx hb dX10_starts_26 hl (k := 1) rfl rfl (Nat.lt_of_lt_of_eq (by decide) rfl) rfl (fun ls hl => ?_)
        refine lv_goto (tgt := 7) hx hb dX10_starts_29 (by decide) ?_
        exact ih7 _ _ _ _ _ hf hI (lv_sub hl [1, 0] rfl)
  exact L7 _ _ _ _ _ _ hf hI (lv_sub hl [1, 0] rfl)
theorem cv_X10_starts : CalV yX10_starts cX10_starts 2 none 0 := ⟨⟨⟨by decide +kernel, by decide +kernel⟩, tw_1_14, tw_8_28, by decide +kernel⟩, tw_8_27, tp_20⟩
theorem k_X10_starts {p : Program} {l : Launch} {e : Env} {s : State} {m : MethodId} {args : Array Value} {below : List Frame} {meth : Method} {c : Code} {H : Heap} {locs : List Loc} {Q : State → Prop} {E : En} {ad : Nat → Nat} {V : Mem} {ow : String} {b : ByteArray} {n d : Nat} {ret : Option FieldType} {pc index : Nat} {ls : Array Slot} {rest : List Value} {V1 : Mem} (hC : Cx p s m args c meth E ow b n ret) (hI : In E ad V s H locs) (hsz : ls.size = n) (hf : f_X10_starts V = some V1) (hl : Cond.methodLink ow index yX10_starts ∈ TB) (hR : 1 + 1 ≤ d ∧ 8 + (2 + 11) + 40 * 1 ≤ 40 * d) (hw : (rest.map fun v => v.category).sum ≤ 8) (hdg : decode b pc = .ok (.invokevirtual index, 3)) (kk : ∀ (H1 : Heap) (locs1 : List Loc), In E ad V1 s H1 locs1 → W p l e (rmd d) s m args below meth c H1 locs1 0 0 Q (F0 m (pc + 3) ls (rest))) : W p l e (rmd d) s m args below meth c H locs 0 0 Q (F0 m pc ls (.ref (ad 253) :: rest)) :=
  r_calVv (As := []) (rest := rest) hC hI hsz (m_X10_starts l E ad V _ hf) cv_X10_starts hl (by decide) (ce_253 _) rfl rfl rfl hR hw hdg kk

theorem dX10_changed_0 : decode cX10_changed 0 = .ok (.aload_n 0, 1) := by decide +kernel
theorem dX10_changed_1 : decode cX10_changed 1 = .ok (.getfield 51, 3) := by decide +kernel
theorem dX10_changed_4 : decode cX10_changed 4 = .ok (.ifCond .le 5, 3) := by decide +kernel
theorem dX10_changed_7 : decode cX10_changed 7 = .ok (.iload_n 1, 1) := by decide +kernel
theorem dX10_changed_8 : decode cX10_changed 8 = .ok (.ireturn, 1) := by decide +kernel
theorem dX10_changed_9 : decode cX10_changed 9 = .ok (.aload_n 0, 1) := by decide +kernel
theorem dX10_changed_10 : decode cX10_changed 10 = .ok (.getfield 54, 3) := by decide +kernel
theorem dX10_changed_13 : decode cX10_changed 13 = .ok (.bipush 8, 2) := by decide +kernel
theorem dX10_changed_15 : decode cX10_changed 15 = .ok (.if_icmp .ne 44, 3) := by decide +kernel
theorem dX10_changed_18 : decode cX10_changed 18 = .ok (.iconst 0, 1) := by decide +kernel
theorem dX10_changed_19 : decode cX10_changed 19 = .ok (.istore_n 2, 1) := by decide +kernel
theorem dX10_changed_20 : decode cX10_changed 20 = .ok (.iload_n 2, 1) := by decide +kernel
theorem dX10_changed_21 : decode cX10_changed 21 = .ok (.sipush 2527, 3) := by decide +kernel
theorem dX10_changed_24 : decode cX10_changed 24 = .ok (.if_icmp .ge 25, 3) := by decide +kernel
theorem dX10_changed_27 : decode cX10_changed 27 = .ok (.aload_n 0, 1) := by decide +kernel
theorem dX10_changed_28 : decode cX10_changed 28 = .ok (.getfield 19, 3) := by decide +kernel
theorem dX10_changed_31 : decode cX10_changed 31 = .ok (.iload_n 2, 1) := by decide +kernel
theorem dX10_changed_32 : decode cX10_changed 32 = .ok (.aload_n 0, 1) := by decide +kernel
theorem dX10_changed_33 : decode cX10_changed 33 = .ok (.getfield 19, 3) := by decide +kernel
theorem dX10_changed_36 : decode cX10_changed 36 = .ok (.iload_n 2, 1) := by decide +kernel
theorem dX10_changed_37 : decode cX10_changed 37 = .ok (.sipush 361, 3) := by decide +kernel
theorem dX10_changed_40 : decode cX10_changed 40 = .ok (.iadd, 1) := by decide +kernel
theorem dX10_changed_41 : decode cX10_changed 41 = .ok (.iaload, 1) := by decide +kernel
theorem dX10_changed_42 : decode cX10_changed 42 = .ok (.iastore, 1) := by decide +kernel
theorem dX10_changed_43 : decode cX10_changed 43 = .ok (.iinc 2 1, 3) := by decide +kernel
theorem dX10_changed_46 : decode cX10_changed 46 = .ok (.goto (-26), 3) := by decide +kernel
theorem dX10_changed_49 : decode cX10_changed 49 = .ok (.aload_n 0, 1) := by decide +kernel
theorem dX10_changed_50 : decode cX10_changed 50 = .ok (.dup, 1) := by decide +kernel
theorem dX10_changed_51 : decode cX10_changed 51 = .ok (.getfield 54, 3) := by decide +kernel
theorem dX10_changed_54 : decode cX10_changed 54 = .ok (.iconst 1, 1) := by decide +kernel
theorem dX10_changed_55 : decode cX10_changed 55 = .ok (.isub, 1) := by decide +kernel
theorem dX10_changed_56 : decode cX10_changed 56 = .ok (.putfield 54, 3) := by decide +kernel
theorem dX10_changed_59 : decode cX10_changed 59 = .ok (.iconst 0, 1) := by decide +kernel
theorem dX10_changed_60 : decode cX10_changed 60 = .ok (.istore_n 2, 1) := by decide +kernel
theorem dX10_changed_61 : decode cX10_changed 61 = .ok (.iload_n 2, 1) := by decide +kernel
theorem dX10_changed_62 : decode cX10_changed 62 = .ok (.sipush 361, 3) := by decide +kernel
theorem dX10_changed_65 : decode cX10_changed 65 = .ok (.if_icmp .ge 30, 3) := by decide +kernel
theorem dX10_changed_68 : decode cX10_changed 68 = .ok (.aload_n 0, 1) := by decide +kernel
theorem dX10_changed_69 : decode cX10_changed 69 = .ok (.getfield 19, 3) := by decide +kernel
theorem dX10_changed_72 : decode cX10_changed 72 = .ok (.sipush 361, 3) := by decide +kernel
theorem dX10_changed_75 : decode cX10_changed 75 = .ok (.aload_n 0, 1) := by decide +kernel
theorem dX10_changed_76 : decode cX10_changed 76 = .ok (.getfield 54, 3) := by decide +kernel
theorem dX10_changed_79 : decode cX10_changed 79 = .ok (.imul, 1) := by decide +kernel
theorem dX10_changed_80 : decode cX10_changed 80 = .ok (.iload_n 2, 1) := by decide +kernel
theorem dX10_changed_81 : decode cX10_changed 81 = .ok (.iadd, 1) := by decide +kernel
theorem dX10_changed_82 : decode cX10_changed 82 = .ok (.aload_n 0, 1) := by decide +kernel
theorem dX10_changed_83 : decode cX10_changed 83 = .ok (.getfield 13, 3) := by decide +kernel
theorem dX10_changed_86 : decode cX10_changed 86 = .ok (.iload_n 2, 1) := by decide +kernel
theorem dX10_changed_87 : decode cX10_changed 87 = .ok (.iaload, 1) := by decide +kernel
theorem dX10_changed_88 : decode cX10_changed 88 = .ok (.iastore, 1) := by decide +kernel
theorem dX10_changed_89 : decode cX10_changed 89 = .ok (.iinc 2 1, 3) := by decide +kernel
theorem dX10_changed_92 : decode cX10_changed 92 = .ok (.goto (-31), 3) := by decide +kernel
theorem dX10_changed_95 : decode cX10_changed 95 = .ok (.aload_n 0, 1) := by decide +kernel
theorem dX10_changed_96 : decode cX10_changed 96 = .ok (.dup, 1) := by decide +kernel
theorem dX10_changed_97 : decode cX10_changed 97 = .ok (.getfield 54, 3) := by decide +kernel
theorem dX10_changed_100 : decode cX10_changed 100 = .ok (.iconst 1, 1) := by decide +kernel
theorem dX10_changed_101 : decode cX10_changed 101 = .ok (.iadd, 1) := by decide +kernel
theorem dX10_changed_102 : decode cX10_changed 102 = .ok (.putfield 54, 3) := by decide +kernel
theorem dX10_changed_105 : decode cX10_changed 105 = .ok (.iload_n 1, 1) := by decide +kernel
theorem dX10_changed_106 : decode cX10_changed 106 = .ok (.ireturn, 1) := by decide +kernel
def f_X10_changed_L61 (a1 : Int32) (j95 : Mem → Option (Int32 × Mem)) : Nat → Mem → Int32 → Option (Int32 × Mem)
  | 0, _, _ => none
  | n61 + 1, V61, x2_61 =>
    if 361 ≤ x2_61 then
      j95 V61
    else
      if ib x2_61 361 = true then
        if ib ((361 * (V61 253 1)) + x2_61) 2888 = true then
          lt (stv V61 257 (((361 * (V61 253 1)) + x2_61)).toNatClampNeg (V61 255 (x2_61).toNatClampNeg)) fun V88 =>
          (f_X10_changed_L61 a1 j95 n61) V88 (x2_61 + 1)
        else none
      else none
def f_X10_changed_L20 (a1 : Int32) (j49 : Mem → Option (Int32 × Mem)) : Nat → Mem → Int32 → Option (Int32 × Mem)
  | 0, _, _ => none
  | n20 + 1, V20, x2_20 =>
    if 2527 ≤ x2_20 then
      j49 V20
    else
      if ib (x2_20 + 361) 2888 = true then
        if ib x2_20 2888 = true then
          lt (stv V20 257 (x2_20).toNatClampNeg (V20 257 ((x2_20 + 361)).toNatClampNeg)) fun V42 =>
          (f_X10_changed_L20 a1 j49 n20) V42 (x2_20 + 1)
        else none
      else none
def f_X10_changed (V : Mem) (a1 : Int32) : Option (Int32 × Mem) :=
  if (V 253 4) ≤ 0 then
    jn (α := Mem → Option (Int32 × Mem)) (fun j59 =>
      if (V 253 1) = 8 then
        jn (α := Mem → Option (Int32 × Mem)) (fun j49 =>
          f_X10_changed_L20 a1 j49 FU V 0
        ) (fun (V49 : Mem) =>
          lt (stv V49 253 1 ((V49 253 1) - 1)) fun V56 =>
          j59 V56
        )
      else
        j59 V
    ) (fun (V59 : Mem) =>
      jn (α := Mem → Option (Int32 × Mem)) (fun j95 =>
        f_X10_changed_L61 a1 j95 FU V59 0
      ) (fun (V95 : Mem) =>
        lt (stv V95 253 1 ((V95 253 1) + 1)) fun V102 =>
        some (a1, V102)
      )
    )
  else
    some (a1, V)
set_option maxRecDepth 100000 in
set_option maxHeartbeats 4000000 in
theorem m_X10_changed (l : Launch) (E : En) (ad : Nat → Nat) (V : Mem) (a1 : Int32) (r : Int32) (Vz : Mem) (hf : f_X10_changed V a1 = some (r, Vz)) : MR l E ad yX10_changed cX10_changed 3 (some .int) 1 [.ref (ad 253), .int a1] V (some (.int r)) Vz := by
  refine ent (E := E) (ad := ad) (V := V) "LetterRepositoryModel" (by decide +kernel) rfl (Nat.le_of_ble_eq_true rfl) ?_
  intro p e s m below meth c ls hC hI hl
  have hx := hC.1
  have hb := hC.2.1
  have hl : lv_has ls 3 [(0, .ref (ad 253)), (1, .int a1)] := hl
  unfold f_X10_changed at hf
  refine lv_aload_n hx hb dX10_changed_0 rfl (lv_at hl 0 rfl) ?_
  refine g_253_thrown hC hI tw_7_197 dX10_changed_1 ?_
  refine lv_if_le (tgt := 9) hx hb dX10_changed_4 (by decide) (fun c4 => ?_) (fun c4 => ?_)
  · have hf := gt hf c4
    refine lv_aload_n hx hb dX10_changed_9 rfl (lv_at hl 0 rfl) ?_
    refine g_253_changes hC hI tw_7_194 dX10_changed_10 ?_
    refine lv_bipush (v := 8) hx hb dX10_changed_13 rfl ?_
    obtain ⟨j59, hj59, hf⟩ := gj hf
    have J59 : ∀ (V59 : Mem) (H : Heap) (locs : List Loc) (ls : Array Slot), j59 V59 = some (r, Vz) → In E ad V59 s H locs → lv_has ls 3 [(0, .ref (ad 253)), (1, .int a1)] → W p l e (rmd 1) s m ([.ref (ad 253), .int a1] : List Value).toArray below meth c H locs 0 0 (MQ below (QR E ad (some (.int r)) Vz) ([.ref (ad 253), .int a1] : List Value).toArray s 0 0 (ours E)) (F0 m 59 ls []) := by
      intro V59 H locs ls hf hI hl
      rw [hj59] at hf
      dsimp only at hf
      refine lv_iconst (v := 0) hx hb dX10_changed_59 rfl ?_
      refine lv_istore_n (lv' := [(2, .int 0), (0, .ref (ad 253)), (1, .int a1)]) hx hb dX10_changed_60 rfl hl (Nat.lt_of_lt_of_eq (by decide) rfl) rfl (fun ls hl => ?_)
      obtain ⟨j95, hj95, hf⟩ := gj hf
      have J95 : ∀ (V95 : Mem) (H : Heap) (locs : List Loc) (ls : Array Slot), j95 V95 = some (r, Vz) → In E ad V95 s H locs → lv_has ls 3 [(0, .ref (ad 253)), (1, .int a1)] → W p l e (rmd 1) s m ([.ref (ad 253), .int a1] : List Value).toArray below meth c H locs 0 0 (MQ below (QR E ad (some (.int r)) Vz) ([.ref (ad 253), .int a1] : List Value).toArray s 0 0 (ours E)) (F0 m 95 ls []) := by
        intro V95 H locs ls hf hI hl
        rw [hj95] at hf
        dsimp only at hf
        refine lv_aload_n hx hb dX10_changed_95 rfl (lv_at hl 0 rfl) ?_
        refine lv_dup hx hb dX10_changed_96 rfl ?_
        refine g_253_changes hC hI tw_7_194 dX10_changed_97 ?_
        refine lv_iconst (v := 1) hx hb dX10_changed_100 rfl ?_
        refine lv_iadd hx hb dX10_changed_101 ?_
        obtain ⟨V102, e102, hf⟩ := gl hf
        refine p_253_changes hC hI  e102 tw_7_194 dX10_changed_102 (fun H locs hI => ?_)
        refine lv_iload_n hx hb dX10_changed_105 rfl (lv_at hl 1 rfl) ?_
        exact r_iret2 hC hI hf dX10_changed_106
      have L61 : ∀ (n61 : Nat) (V61 : Mem) (x2_61 : Int32) (H : Heap) (locs : List Loc) (ls : Array Slot), f_X10_changed_L61 a1 j95 n61 V61 x2_61 = some (r, Vz) → In E ad V61 s H locs → lv_has ls 3 [(0, .ref (ad 253)), (1, .int a1), (2, .int x2_61)] → W p l e (rmd 1) s m ([.ref (ad 253), .int a1] : List Value).toArray below meth c H locs 0 0 (MQ below (QR E ad (some (.int r)) Vz) ([.ref (ad 253), .int a1] : List Value).toArray s 0 0 (ours E)) (F0 m 61 ls []) := by
        intro n61
        induction n61 with
        | zero => intro V61 x2_61 H locs ls hf hI hl; cases hf
        | succ n61 ih61 =>
          intro V61 x2_61 H locs ls hf hI hl
          rw [f_X10_changed_L61.eq_2] at hf
          refine lv_iload_n hx hb dX10_changed_61 rfl (lv_at hl 2 rfl) ?_
          refine lv_sipush (v := 361) hx hb dX10_changed_62 rfl ?_
          refine lv_icmp_ge (tgt := 95) hx hb dX10_changed_65 (by decide) (fun c65 => ?_) (fun c65 => ?_)
          · have hf := gt hf c65
            exact J95 _ _ _ _ hf hI (lv_sub hl [0, 1] rfl)
          · have hf := gf hf c65
            refine lv_aload_n hx hb dX10_changed_68 rfl (lv_at hl 0 rfl) ?_
            refine g_253_past hC hI tw_7_193 dX10_changed_69 ?_
            refine lv_sipush (v := 361) hx hb dX10_changed_72 rfl ?_
            refine lv_aload_n hx hb dX10_changed_75 rfl (lv_at hl 0 rfl) ?_
            refine g_253_changes hC hI tw_7_194 dX10_changed_76 ?_
            refine lv_imul hx hb dX10_changed_79 ?_
            refine lv_iload_n hx hb dX10_changed_80 rfl (lv_at hl 2 rfl) ?_
            refine lv_iadd hx hb dX10_changed_81 ?_
            refine lv_aload_n hx hb dX10_changed_82 rfl (lv_at hl 0 rfl) ?_
            refine g_253_aside hC hI tw_7_190 dX10_changed_83 ?_
            refine lv_iload_n hx hb dX10_changed_86 rfl (lv_at hl 2 rfl) ?_
            obtain ⟨h87, hf⟩ := gi hf
            refine ra_255 hC hI (ib_in h87) dX10_changed_87 ?_
            obtain ⟨h88, hf⟩ := gi hf
            obtain ⟨V88, e88, hf⟩ := gl hf
            refine wa_257 hC hI (ib_in h88) e88 dX10_changed_88 (fun H locs hI => ?_)
            refine lv_iinc (v := (x2_61 + 1)) (lv' := [(2, .int (x2_61 + 1)), (0, .ref (ad 253)), (1, .int a1)]) hx hb dX10_changed_89 hl (k := 2) rfl rfl (Nat.lt_of_lt_of_eq (by decide) rfl) rfl (fun ls hl => ?_)
            refine lv_goto (tgt := 61) hx hb dX10_changed_92 (by decide) ?_
            exact ih61 _ _ _ _ _ hf hI (lv_sub hl [1, 2, 0] rfl)
      exact L61 _ _ _ _ _ _ hf hI (lv_sub hl [1, 2, 0] rfl)
    refine lv_icmp_ne (tgt := 59) hx hb dX10_changed_15 (by decide) (fun c15 => ?_) (fun c15 => ?_)
    · have hf := gf hf c15
      exact J59 _ _ _ _ hf hI (lv_sub hl [0, 1] rfl)
    · have hf := gt hf c15
      refine lv_iconst (v := 0) hx hb dX10_changed_18 rfl ?_
      refine lv_istore_n (lv' := [(2, .int 0), (0, .ref (ad 253)), (1, .int a1)]) hx hb dX10_changed_19 rfl hl (Nat.lt_of_lt_of_eq (by decide) rfl) rfl (fun ls hl => ?_)
      obtain ⟨j49, hj49, hf⟩ := gj hf
      have J49 : ∀ (V49 : Mem) (H : Heap) (locs : List Loc) (ls : Array Slot), j49 V49 = some (r, Vz) → In E ad V49 s H locs → lv_has ls 3 [(0, .ref (ad 253)), (1, .int a1)] → W p l e (rmd 1) s m ([.ref (ad 253), .int a1] : List Value).toArray below meth c H locs 0 0 (MQ below (QR E ad (some (.int r)) Vz) ([.ref (ad 253), .int a1] : List Value).toArray s 0 0 (ours E)) (F0 m 49 ls []) := by
        intro V49 H locs ls hf hI hl
        rw [hj49] at hf
        dsimp only at hf
        refine lv_aload_n hx hb dX10_changed_49 rfl (lv_at hl 0 rfl) ?_
        refine lv_dup hx hb dX10_changed_50 rfl ?_
        refine g_253_changes hC hI tw_7_194 dX10_changed_51 ?_
        refine lv_iconst (v := 1) hx hb dX10_changed_54 rfl ?_
        refine lv_isub hx hb dX10_changed_55 ?_
        obtain ⟨V56, e56, hf⟩ := gl hf
        refine p_253_changes hC hI  e56 tw_7_194 dX10_changed_56 (fun H locs hI => ?_)
        exact J59 _ _ _ _ hf hI (lv_sub hl [0, 1] rfl)
      have L20 : ∀ (n20 : Nat) (V20 : Mem) (x2_20 : Int32) (H : Heap) (locs : List Loc) (ls : Array Slot), f_X10_changed_L20 a1 j49 n20 V20 x2_20 = some (r, Vz) → In E ad V20 s H locs → lv_has ls 3 [(0, .ref (ad 253)), (1, .int a1), (2, .int x2_20)] → W p l e (rmd 1) s m ([.ref (ad 253), .int a1] : List Value).toArray below meth c H locs 0 0 (MQ below (QR E ad (some (.int r)) Vz) ([.ref (ad 253), .int a1] : List Value).toArray s 0 0 (ours E)) (F0 m 20 ls []) := by
        intro n20
        induction n20 with
        | zero => intro V20 x2_20 H locs ls hf hI hl; cases hf
        | succ n20 ih20 =>
          intro V20 x2_20 H locs ls hf hI hl
          rw [f_X10_changed_L20.eq_2] at hf
          refine lv_iload_n hx hb dX10_changed_20 rfl (lv_at hl 2 rfl) ?_
          refine lv_sipush (v := 2527) hx hb dX10_changed_21 rfl ?_
          refine lv_icmp_ge (tgt := 49) hx hb dX10_changed_24 (by decide) (fun c24 => ?_) (fun c24 => ?_)
          · have hf := gt hf c24
            exact J49 _ _ _ _ hf hI (lv_sub hl [0, 1] rfl)
          · have hf := gf hf c24
            refine lv_aload_n hx hb dX10_changed_27 rfl (lv_at hl 0 rfl) ?_
            refine g_253_past hC hI tw_7_193 dX10_changed_28 ?_
            refine lv_iload_n hx hb dX10_changed_31 rfl (lv_at hl 2 rfl) ?_
            refine lv_aload_n hx hb dX10_changed_32 rfl (lv_at hl 0 rfl) ?_
            refine g_253_past hC hI tw_7_193 dX10_changed_33 ?_
            refine lv_iload_n hx hb dX10_changed_36 rfl (lv_at hl 2 rfl) ?_
            refine lv_sipush (v := 361) hx hb dX10_changed_37 rfl ?_
            refine lv_iadd hx hb dX10_changed_40 ?_
            obtain ⟨h41, hf⟩ := gi hf
            refine ra_257 hC hI (ib_in h41) dX10_changed_41 ?_
            obtain ⟨h42, hf⟩ := gi hf
            obtain ⟨V42, e42, hf⟩ := gl hf
            refine wa_257 hC hI (ib_in h42) e42 dX10_changed_42 (fun H locs hI => ?_)
            refine lv_iinc (v := (x2_20 + 1)) (lv' := [(2, .int (x2_20 + 1)), (0, .ref (ad 253)), (1, .int a1)]) hx hb dX10_changed_43 hl (k := 2) rfl rfl (Nat.lt_of_lt_of_eq (by decide) rfl) rfl (fun ls hl => ?_)
            refine lv_goto (tgt := 20) hx hb dX10_changed_46 (by decide) ?_
            exact ih20 _ _ _ _ _ hf hI (lv_sub hl [1, 2, 0] rfl)
      exact L20 _ _ _ _ _ _ hf hI (lv_sub hl [1, 2, 0] rfl)
  · have hf := gf hf c4
    refine lv_iload_n hx hb dX10_changed_7 rfl (lv_at hl 1 rfl) ?_
    exact r_iret2 hC hI hf dX10_changed_8
theorem cv_X10_changed : CalV yX10_changed cX10_changed 3 (some .int) 1 := ⟨⟨⟨by decide +kernel, by decide +kernel⟩, tw_1_14, tw_8_79, by decide +kernel⟩, tw_8_78, tp_29⟩
theorem k_X10_changed {p : Program} {l : Launch} {e : Env} {s : State} {m : MethodId} {args : Array Value} {below : List Frame} {meth : Method} {c : Code} {H : Heap} {locs : List Loc} {Q : State → Prop} {E : En} {ad : Nat → Nat} {V : Mem} {ow : String} {b : ByteArray} {n d : Nat} {ret : Option FieldType} {pc index : Nat} {ls : Array Slot} {rest : List Value} {a1 : Int32} {r : Int32} {V1 : Mem} (hC : Cx p s m args c meth E ow b n ret) (hI : In E ad V s H locs) (hsz : ls.size = n) (hf : f_X10_changed V a1 = some (r, V1)) (hl : Cond.methodLink ow index yX10_changed ∈ TB) (hR : 1 + 1 ≤ d ∧ 8 + (3 + 11) + 40 * 1 ≤ 40 * d) (hw : (rest.map fun v => v.category).sum ≤ 8) (hdg : decode b pc = .ok (.invokevirtual index, 3)) (kk : ∀ (H1 : Heap) (locs1 : List Loc), In E ad V1 s H1 locs1 → W p l e (rmd d) s m args below meth c H1 locs1 0 0 Q (F0 m (pc + 3) ls (.int r :: rest))) : W p l e (rmd d) s m args below meth c H locs 0 0 Q (F0 m pc ls (.int a1 :: .ref (ad 253) :: rest)) :=
  r_calV (As := [.int a1]) (rest := rest) hC hI hsz (m_X10_changed l E ad V a1 r _ hf) cv_X10_changed hl (by decide) (ce_253 _) rfl rfl rfl hR hw hdg kk

theorem dX10_revisionAt_0 : decode cX10_revisionAt 0 = .ok (.iconst 2, 1) := by decide +kernel
theorem dX10_revisionAt_1 : decode cX10_revisionAt 1 = .ok (.bipush 12, 2) := by decide +kernel
theorem dX10_revisionAt_3 : decode cX10_revisionAt 3 = .ok (.iload_n 0, 1) := by decide +kernel
theorem dX10_revisionAt_4 : decode cX10_revisionAt 4 = .ok (.imul, 1) := by decide +kernel
theorem dX10_revisionAt_5 : decode cX10_revisionAt 5 = .ok (.iadd, 1) := by decide +kernel
theorem dX10_revisionAt_6 : decode cX10_revisionAt 6 = .ok (.ireturn, 1) := by decide +kernel
def f_X10_revisionAt (V : Mem) (a0 : Int32) : Option (Int32 × Mem) :=
  some ((2 + (12 * a0)), V)
set_option maxRecDepth 100000 in
set_option maxHeartbeats 4000000 in
theorem m_X10_revisionAt (l : Launch) (E : En) (ad : Nat → Nat) (V : Mem) (a0 : Int32) (r : Int32) (Vz : Mem) (hf : f_X10_revisionAt V a0 = some (r, Vz)) : MR l E ad yX10_revisionAt cX10_revisionAt 1 (some .int) 1 [.int a0] V (some (.int r)) Vz := by
  refine ent (E := E) (ad := ad) (V := V) "LetterRepositoryModel" (by decide +kernel) rfl (Nat.le_of_ble_eq_true rfl) ?_
  intro p e s m below meth c ls hC hI hl
  have hx := hC.1
  have hb := hC.2.1
  have hl : lv_has ls 1 [(0, .int a0)] := hl
  unfold f_X10_revisionAt at hf
  refine lv_iconst (v := 2) hx hb dX10_revisionAt_0 rfl ?_
  refine lv_bipush (v := 12) hx hb dX10_revisionAt_1 rfl ?_
  refine lv_iload_n hx hb dX10_revisionAt_3 rfl (lv_at hl 0 rfl) ?_
  refine lv_imul hx hb dX10_revisionAt_4 ?_
  refine lv_iadd hx hb dX10_revisionAt_5 ?_
  exact r_iret2 hC hI hf dX10_revisionAt_6
theorem cv_X10_revisionAt : CalS yX10_revisionAt cX10_revisionAt 1 (some .int) 1 := ⟨⟨⟨by decide +kernel, by decide +kernel⟩, tw_1_14, tw_8_75, by decide +kernel⟩, tw_8_74⟩
theorem k_X10_revisionAt {p : Program} {l : Launch} {e : Env} {s : State} {m : MethodId} {args : Array Value} {below : List Frame} {meth : Method} {c : Code} {H : Heap} {locs : List Loc} {Q : State → Prop} {E : En} {ad : Nat → Nat} {V : Mem} {ow : String} {b : ByteArray} {n d : Nat} {ret : Option FieldType} {pc index : Nat} {ls : Array Slot} {rest : List Value} {a0 : Int32} {r : Int32} {V1 : Mem} (hC : Cx p s m args c meth E ow b n ret) (hI : In E ad V s H locs) (hsz : ls.size = n) (hf : f_X10_revisionAt V a0 = some (r, V1)) (hl : Cond.methodLink ow index yX10_revisionAt ∈ TB) (hR : 1 + 1 ≤ d ∧ 8 + (1 + 11) + 40 * 1 ≤ 40 * d) (hw : (rest.map fun v => v.category).sum ≤ 8) (hdg : decode b pc = .ok (.invokestatic index, 3)) (kk : ∀ (H1 : Heap) (locs1 : List Loc), In E ad V1 s H1 locs1 → W p l e (rmd d) s m args below meth c H1 locs1 0 0 Q (F0 m (pc + 3) ls (.int r :: rest))) : W p l e (rmd d) s m args below meth c H locs 0 0 Q (F0 m pc ls (.int a0 :: rest)) :=
  r_calS (As := [.int a0]) (rest := rest) hC hI hsz (m_X10_revisionAt l E ad V a0 r _ hf) cv_X10_revisionAt hl rfl rfl hR hw hdg kk

theorem dX10_branchAt_0 : decode cX10_branchAt 0 = .ok (.sipush 290, 3) := by decide +kernel
theorem dX10_branchAt_3 : decode cX10_branchAt 3 = .ok (.bipush 9, 2) := by decide +kernel
theorem dX10_branchAt_5 : decode cX10_branchAt 5 = .ok (.iload_n 0, 1) := by decide +kernel
theorem dX10_branchAt_6 : decode cX10_branchAt 6 = .ok (.imul, 1) := by decide +kernel
theorem dX10_branchAt_7 : decode cX10_branchAt 7 = .ok (.iadd, 1) := by decide +kernel
theorem dX10_branchAt_8 : decode cX10_branchAt 8 = .ok (.ireturn, 1) := by decide +kernel
def f_X10_branchAt (V : Mem) (a0 : Int32) : Option (Int32 × Mem) :=
  some ((290 + (9 * a0)), V)
set_option maxRecDepth 100000 in
set_option maxHeartbeats 4000000 in
theorem m_X10_branchAt (l : Launch) (E : En) (ad : Nat → Nat) (V : Mem) (a0 : Int32) (r : Int32) (Vz : Mem) (hf : f_X10_branchAt V a0 = some (r, Vz)) : MR l E ad yX10_branchAt cX10_branchAt 1 (some .int) 1 [.int a0] V (some (.int r)) Vz := by
  refine ent (E := E) (ad := ad) (V := V) "LetterRepositoryModel" (by decide +kernel) rfl (Nat.le_of_ble_eq_true rfl) ?_
  intro p e s m below meth c ls hC hI hl
  have hx := hC.1
  have hb := hC.2.1
  have hl : lv_has ls 1 [(0, .int a0)] := hl
  unfold f_X10_branchAt at hf
  refine lv_sipush (v := 290) hx hb dX10_branchAt_0 rfl ?_
  refine lv_bipush (v := 9) hx hb dX10_branchAt_3 rfl ?_
  refine lv_iload_n hx hb dX10_branchAt_5 rfl (lv_at hl 0 rfl) ?_
  refine lv_imul hx hb dX10_branchAt_6 ?_
  refine lv_iadd hx hb dX10_branchAt_7 ?_
  exact r_iret2 hC hI hf dX10_branchAt_8
theorem cv_X10_branchAt : CalS yX10_branchAt cX10_branchAt 1 (some .int) 1 := ⟨⟨⟨by decide +kernel, by decide +kernel⟩, tw_1_14, tw_8_52, by decide +kernel⟩, tw_8_51⟩
theorem k_X10_branchAt {p : Program} {l : Launch} {e : Env} {s : State} {m : MethodId} {args : Array Value} {below : List Frame} {meth : Method} {c : Code} {H : Heap} {locs : List Loc} {Q : State → Prop} {E : En} {ad : Nat → Nat} {V : Mem} {ow : String} {b : ByteArray} {n d : Nat} {ret : Option FieldType} {pc index : Nat} {ls : Array Slot} {rest : List Value} {a0 : Int32} {r : Int32} {V1 : Mem} (hC : Cx p s m args c meth E ow b n ret) (hI : In E ad V s H locs) (hsz : ls.size = n) (hf : f_X10_branchAt V a0 = some (r, V1)) (hl : Cond.methodLink ow index yX10_branchAt ∈ TB) (hR : 1 + 1 ≤ d ∧ 8 + (1 + 11) + 40 * 1 ≤ 40 * d) (hw : (rest.map fun v => v.category).sum ≤ 8) (hdg : decode b pc = .ok (.invokestatic index, 3)) (kk : ∀ (H1 : Heap) (locs1 : List Loc), In E ad V1 s H1 locs1 → W p l e (rmd d) s m args below meth c H1 locs1 0 0 Q (F0 m (pc + 3) ls (.int r :: rest))) : W p l e (rmd d) s m args below meth c H locs 0 0 Q (F0 m pc ls (.int a0 :: rest)) :=
  r_calS (As := [.int a0]) (rest := rest) hC hI hsz (m_X10_branchAt l E ad V a0 r _ hf) cv_X10_branchAt hl rfl rfl hR hw hdg kk

theorem dX10_isRevision_0 : decode cX10_isRevision 0 = .ok (.iload_n 1, 1) := by decide +kernel
theorem dX10_isRevision_1 : decode cX10_isRevision 1 = .ok (.i2l, 1) := by decide +kernel
theorem dX10_isRevision_2 : decode cX10_isRevision 2 = .ok (.lconst 0, 1) := by decide +kernel
theorem dX10_isRevision_3 : decode cX10_isRevision 3 = .ok (.aload_n 0, 1) := by decide +kernel
theorem dX10_isRevision_4 : decode cX10_isRevision 4 = .ok (.getfield 9, 3) := by decide +kernel
theorem dX10_isRevision_7 : decode cX10_isRevision 7 = .ok (.iconst 0, 1) := by decide +kernel
theorem dX10_isRevision_8 : decode cX10_isRevision 8 = .ok (.iaload, 1) := by decide +kernel
theorem dX10_isRevision_9 : decode cX10_isRevision 9 = .ok (.iconst 1, 1) := by decide +kernel
theorem dX10_isRevision_10 : decode cX10_isRevision 10 = .ok (.isub, 1) := by decide +kernel
theorem dX10_isRevision_11 : decode cX10_isRevision 11 = .ok (.i2l, 1) := by decide +kernel
theorem dX10_isRevision_12 : decode cX10_isRevision 12 = .ok (.invokestatic 57, 3) := by decide +kernel
theorem dX10_isRevision_15 : decode cX10_isRevision 15 = .ok (.ireturn, 1) := by decide +kernel
def f_X10_isRevision (V : Mem) (a1 : Int32) : Option (Int32 × Mem) :=
  if ib 0 361 = true then
    bd (f_X10_in V ((a1).toInt64) 0 (((V 254 (0 : Int32).toNatClampNeg) - 1).toInt64)) fun r12 V12 =>
    if r12 = 0 ∨ r12 = 1 then
      some (r12, V12)
    else none
  else none
set_option maxRecDepth 100000 in
set_option maxHeartbeats 4000000 in
theorem m_X10_isRevision (l : Launch) (E : En) (ad : Nat → Nat) (V : Mem) (a1 : Int32) (r : Int32) (Vz : Mem) (hf : f_X10_isRevision V a1 = some (r, Vz)) : MR l E ad yX10_isRevision cX10_isRevision 2 (some .boolean) 2 [.ref (ad 253), .int a1] V (some (.int r)) Vz := by
  refine ent (E := E) (ad := ad) (V := V) "LetterRepositoryModel" (by decide +kernel) rfl (Nat.le_of_ble_eq_true rfl) ?_
  intro p e s m below meth c ls hC hI hl
  have hx := hC.1
  have hb := hC.2.1
  have hl : lv_has ls 2 [(0, .ref (ad 253)), (1, .int a1)] := hl
  unfold f_X10_isRevision at hf
  refine lv_iload_n hx hb dX10_isRevision_0 rfl (lv_at hl 1 rfl) ?_
  refine lv_i2l hx hb dX10_isRevision_1 rfl ?_
  refine lv_lconst (v := 0) hx hb dX10_isRevision_2 rfl ?_
  refine lv_aload_n hx hb dX10_isRevision_3 rfl (lv_at hl 0 rfl) ?_
  refine g_253_m hC hI tw_7_189 dX10_isRevision_4 ?_
  refine lv_iconst (v := 0) hx hb dX10_isRevision_7 rfl ?_
  obtain ⟨h8, hf⟩ := gi hf
  refine ra_254 hC hI (ib_in h8) dX10_isRevision_8 ?_
  refine lv_iconst (v := 1) hx hb dX10_isRevision_9 rfl ?_
  refine lv_isub hx hb dX10_isRevision_10 ?_
  refine lv_i2l hx hb dX10_isRevision_11 rfl ?_
  obtain ⟨r12, V12, q12, hf⟩ := gbd hf
  refine k_X10_in hC hI hl.1 q12 tw_8_37 ⟨Nat.le_of_ble_eq_true rfl, Nat.le_of_ble_eq_true rfl⟩ (Nat.le_of_ble_eq_true rfl) dX10_isRevision_12 (fun H locs hI => ?_)
  obtain ⟨h15, hf⟩ := gi hf
  exact r_zret2 hC hI h15 hf dX10_isRevision_15
theorem cv_X10_isRevision : CalV yX10_isRevision cX10_isRevision 2 (some .boolean) 1 := ⟨⟨⟨by decide +kernel, by decide +kernel⟩, tw_1_14, tw_8_120, by decide +kernel⟩, tw_8_119, tp_36⟩
theorem k_X10_isRevision {p : Program} {l : Launch} {e : Env} {s : State} {m : MethodId} {args : Array Value} {below : List Frame} {meth : Method} {c : Code} {H : Heap} {locs : List Loc} {Q : State → Prop} {E : En} {ad : Nat → Nat} {V : Mem} {ow : String} {b : ByteArray} {n d : Nat} {ret : Option FieldType} {pc index : Nat} {ls : Array Slot} {rest : List Value} {a1 : Int32} {r : Int32} {V1 : Mem} (hC : Cx p s m args c meth E ow b n ret) (hI : In E ad V s H locs) (hsz : ls.size = n) (hf : f_X10_isRevision V a1 = some (r, V1)) (hl : Cond.methodLink ow index yX10_isRevision ∈ TB) (hR : 2 + 1 ≤ d ∧ 8 + (2 + 11) + 40 * 2 ≤ 40 * d) (hw : (rest.map fun v => v.category).sum ≤ 8) (hdg : decode b pc = .ok (.invokevirtual index, 3)) (kk : ∀ (H1 : Heap) (locs1 : List Loc), In E ad V1 s H1 locs1 → W p l e (rmd d) s m args below meth c H1 locs1 0 0 Q (F0 m (pc + 3) ls (.int r :: rest))) : W p l e (rmd d) s m args below meth c H locs 0 0 Q (F0 m pc ls (.int a1 :: .ref (ad 253) :: rest)) :=
  r_calV (As := [.int a1]) (rest := rest) hC hI hsz (m_X10_isRevision l E ad V a1 r _ hf) cv_X10_isRevision hl (by decide) (ce_253 _) rfl rfl rfl hR hw hdg kk

theorem dX10_isBranch_0 : decode cX10_isBranch 0 = .ok (.iload_n 1, 1) := by decide +kernel
theorem dX10_isBranch_1 : decode cX10_isBranch 1 = .ok (.i2l, 1) := by decide +kernel
theorem dX10_isBranch_2 : decode cX10_isBranch 2 = .ok (.lconst 0, 1) := by decide +kernel
theorem dX10_isBranch_3 : decode cX10_isBranch 3 = .ok (.aload_n 0, 1) := by decide +kernel
theorem dX10_isBranch_4 : decode cX10_isBranch 4 = .ok (.getfield 9, 3) := by decide +kernel
theorem dX10_isBranch_7 : decode cX10_isBranch 7 = .ok (.iconst 1, 1) := by decide +kernel
theorem dX10_isBranch_8 : decode cX10_isBranch 8 = .ok (.iaload, 1) := by decide +kernel
theorem dX10_isBranch_9 : decode cX10_isBranch 9 = .ok (.iconst 1, 1) := by decide +kernel
theorem dX10_isBranch_10 : decode cX10_isBranch 10 = .ok (.isub, 1) := by decide +kernel
theorem dX10_isBranch_11 : decode cX10_isBranch 11 = .ok (.i2l, 1) := by decide +kernel
theorem dX10_isBranch_12 : decode cX10_isBranch 12 = .ok (.invokestatic 57, 3) := by decide +kernel
theorem dX10_isBranch_15 : decode cX10_isBranch 15 = .ok (.ireturn, 1) := by decide +kernel
def f_X10_isBranch (V : Mem) (a1 : Int32) : Option (Int32 × Mem) :=
  if ib 1 361 = true then
    bd (f_X10_in V ((a1).toInt64) 0 (((V 254 (1 : Int32).toNatClampNeg) - 1).toInt64)) fun r12 V12 =>
    if r12 = 0 ∨ r12 = 1 then
      some (r12, V12)
    else none
  else none
set_option maxRecDepth 100000 in
set_option maxHeartbeats 4000000 in
theorem m_X10_isBranch (l : Launch) (E : En) (ad : Nat → Nat) (V : Mem) (a1 : Int32) (r : Int32) (Vz : Mem) (hf : f_X10_isBranch V a1 = some (r, Vz)) : MR l E ad yX10_isBranch cX10_isBranch 2 (some .boolean) 2 [.ref (ad 253), .int a1] V (some (.int r)) Vz := by
  refine ent (E := E) (ad := ad) (V := V) "LetterRepositoryModel" (by decide +kernel) rfl (Nat.le_of_ble_eq_true rfl) ?_
  intro p e s m below meth c ls hC hI hl
  have hx := hC.1
  have hb := hC.2.1
  have hl : lv_has ls 2 [(0, .ref (ad 253)), (1, .int a1)] := hl
  unfold f_X10_isBranch at hf
  refine lv_iload_n hx hb dX10_isBranch_0 rfl (lv_at hl 1 rfl) ?_
  refine lv_i2l hx hb dX10_isBranch_1 rfl ?_
  refine lv_lconst (v := 0) hx hb dX10_isBranch_2 rfl ?_
  refine lv_aload_n hx hb dX10_isBranch_3 rfl (lv_at hl 0 rfl) ?_
  refine g_253_m hC hI tw_7_189 dX10_isBranch_4 ?_
  refine lv_iconst (v := 1) hx hb dX10_isBranch_7 rfl ?_
  obtain ⟨h8, hf⟩ := gi hf
  refine ra_254 hC hI (ib_in h8) dX10_isBranch_8 ?_
  refine lv_iconst (v := 1) hx hb dX10_isBranch_9 rfl ?_
  refine lv_isub hx hb dX10_isBranch_10 ?_
  refine lv_i2l hx hb dX10_isBranch_11 rfl ?_
  obtain ⟨r12, V12, q12, hf⟩ := gbd hf
  refine k_X10_in hC hI hl.1 q12 tw_8_37 ⟨Nat.le_of_ble_eq_true rfl, Nat.le_of_ble_eq_true rfl⟩ (Nat.le_of_ble_eq_true rfl) dX10_isBranch_12 (fun H locs hI => ?_)
  obtain ⟨h15, hf⟩ := gi hf
  exact r_zret2 hC hI h15 hf dX10_isBranch_15
theorem cv_X10_isBranch : CalV yX10_isBranch cX10_isBranch 2 (some .boolean) 1 := ⟨⟨⟨by decide +kernel, by decide +kernel⟩, tw_1_14, tw_8_36, by decide +kernel⟩, tw_8_35, tp_22⟩
theorem k_X10_isBranch {p : Program} {l : Launch} {e : Env} {s : State} {m : MethodId} {args : Array Value} {below : List Frame} {meth : Method} {c : Code} {H : Heap} {locs : List Loc} {Q : State → Prop} {E : En} {ad : Nat → Nat} {V : Mem} {ow : String} {b : ByteArray} {n d : Nat} {ret : Option FieldType} {pc index : Nat} {ls : Array Slot} {rest : List Value} {a1 : Int32} {r : Int32} {V1 : Mem} (hC : Cx p s m args c meth E ow b n ret) (hI : In E ad V s H locs) (hsz : ls.size = n) (hf : f_X10_isBranch V a1 = some (r, V1)) (hl : Cond.methodLink ow index yX10_isBranch ∈ TB) (hR : 2 + 1 ≤ d ∧ 8 + (2 + 11) + 40 * 2 ≤ 40 * d) (hw : (rest.map fun v => v.category).sum ≤ 8) (hdg : decode b pc = .ok (.invokevirtual index, 3)) (kk : ∀ (H1 : Heap) (locs1 : List Loc), In E ad V1 s H1 locs1 → W p l e (rmd d) s m args below meth c H1 locs1 0 0 Q (F0 m (pc + 3) ls (.int r :: rest))) : W p l e (rmd d) s m args below meth c H locs 0 0 Q (F0 m pc ls (.int a1 :: .ref (ad 253) :: rest)) :=
  r_calV (As := [.int a1]) (rest := rest) hC hI hsz (m_X10_isBranch l E ad V a1 r _ hf) cv_X10_isBranch hl (by decide) (ce_253 _) rfl rfl rfl hR hw hdg kk

theorem dX10_isOpen_0 : decode cX10_isOpen 0 = .ok (.aload_n 0, 1) := by decide +kernel
theorem dX10_isOpen_1 : decode cX10_isOpen 1 = .ok (.iload_n 1, 1) := by decide +kernel
theorem dX10_isOpen_2 : decode cX10_isOpen 2 = .ok (.invokevirtual 61, 3) := by decide +kernel
theorem dX10_isOpen_5 : decode cX10_isOpen 5 = .ok (.ifCond .eq 21, 3) := by decide +kernel
theorem dX10_isOpen_8 : decode cX10_isOpen 8 = .ok (.aload_n 0, 1) := by decide +kernel
theorem dX10_isOpen_9 : decode cX10_isOpen 9 = .ok (.getfield 9, 3) := by decide +kernel
theorem dX10_isOpen_12 : decode cX10_isOpen 12 = .ok (.iload_n 1, 1) := by decide +kernel
theorem dX10_isOpen_13 : decode cX10_isOpen 13 = .ok (.invokestatic 65, 3) := by decide +kernel
theorem dX10_isOpen_16 : decode cX10_isOpen 16 = .ok (.iconst 3, 1) := by decide +kernel
theorem dX10_isOpen_17 : decode cX10_isOpen 17 = .ok (.iadd, 1) := by decide +kernel
theorem dX10_isOpen_18 : decode cX10_isOpen 18 = .ok (.iaload, 1) := by decide +kernel
theorem dX10_isOpen_19 : decode cX10_isOpen 19 = .ok (.ifCond .ne 7, 3) := by decide +kernel
theorem dX10_isOpen_22 : decode cX10_isOpen 22 = .ok (.iconst 1, 1) := by decide +kernel
theorem dX10_isOpen_23 : decode cX10_isOpen 23 = .ok (.goto 4, 3) := by decide +kernel
theorem dX10_isOpen_26 : decode cX10_isOpen 26 = .ok (.iconst 0, 1) := by decide +kernel
theorem dX10_isOpen_27 : decode cX10_isOpen 27 = .ok (.ireturn, 1) := by decide +kernel
def f_X10_isOpen (V : Mem) (a1 : Int32) : Option (Int32 × Mem) :=
  bd (f_X10_isRevision V a1) fun r2 V2 =>
  if r2 = 0 then
    some (0, V2)
  else
    bd (f_X10_revisionAt V2 a1) fun r13 V13 =>
    if ib (r13 + 3) 361 = true then
      if (V13 254 ((r13 + 3)).toNatClampNeg) = 0 then
        some (1, V13)
      else
        some (0, V13)
    else none
set_option maxRecDepth 100000 in
set_option maxHeartbeats 4000000 in
theorem m_X10_isOpen (l : Launch) (E : En) (ad : Nat → Nat) (V : Mem) (a1 : Int32) (r : Int32) (Vz : Mem) (hf : f_X10_isOpen V a1 = some (r, Vz)) : MR l E ad yX10_isOpen cX10_isOpen 2 (some .boolean) 3 [.ref (ad 253), .int a1] V (some (.int r)) Vz := by
  refine ent (E := E) (ad := ad) (V := V) "LetterRepositoryModel" (by decide +kernel) rfl (Nat.le_of_ble_eq_true rfl) ?_
  intro p e s m below meth c ls hC hI hl
  have hx := hC.1
  have hb := hC.2.1
  have hl : lv_has ls 2 [(0, .ref (ad 253)), (1, .int a1)] := hl
  unfold f_X10_isOpen at hf
  refine lv_aload_n hx hb dX10_isOpen_0 rfl (lv_at hl 0 rfl) ?_
  refine lv_iload_n hx hb dX10_isOpen_1 rfl (lv_at hl 1 rfl) ?_
  obtain ⟨r2, V2, q2, hf⟩ := gbd hf
  refine k_X10_isRevision hC hI hl.1 q2 tw_8_117 ⟨Nat.le_of_ble_eq_true rfl, Nat.le_of_ble_eq_true rfl⟩ (Nat.le_of_ble_eq_true rfl) dX10_isOpen_2 (fun H locs hI => ?_)
  refine lv_if_eq (tgt := 26) hx hb dX10_isOpen_5 (by decide) (fun c5 => ?_) (fun c5 => ?_)
  · have hf := gt hf c5
    refine lv_iconst (v := 0) hx hb dX10_isOpen_26 rfl ?_
    exact r_zret2 hC hI (.inl rfl) hf dX10_isOpen_27
  · have hf := gf hf c5
    refine lv_aload_n hx hb dX10_isOpen_8 rfl (lv_at hl 0 rfl) ?_
    refine g_253_m hC hI tw_7_189 dX10_isOpen_9 ?_
    refine lv_iload_n hx hb dX10_isOpen_12 rfl (lv_at hl 1 rfl) ?_
    obtain ⟨r13, V13, q13, hf⟩ := gbd hf
    refine k_X10_revisionAt hC hI hl.1 q13 tw_8_73 ⟨Nat.le_of_ble_eq_true rfl, Nat.le_of_ble_eq_true rfl⟩ (Nat.le_of_ble_eq_true rfl) dX10_isOpen_13 (fun H locs hI => ?_)
    refine lv_iconst (v := 3) hx hb dX10_isOpen_16 rfl ?_
    refine lv_iadd hx hb dX10_isOpen_17 ?_
    obtain ⟨h18, hf⟩ := gi hf
    refine ra_254 hC hI (ib_in h18) dX10_isOpen_18 ?_
    refine lv_if_ne (tgt := 26) hx hb dX10_isOpen_19 (by decide) (fun c19 => ?_) (fun c19 => ?_)
    · have hf := gf hf c19
      refine lv_iconst (v := 0) hx hb dX10_isOpen_26 rfl ?_
      exact r_zret2 hC hI (.inl rfl) hf dX10_isOpen_27
    · have hf := gt hf c19
      refine lv_iconst (v := 1) hx hb dX10_isOpen_22 rfl ?_
      refine lv_goto (tgt := 27) hx hb dX10_isOpen_23 (by decide) ?_
      exact r_zret2 hC hI (.inr rfl) hf dX10_isOpen_27
theorem cv_X10_isOpen : CalV yX10_isOpen cX10_isOpen 2 (some .boolean) 1 := ⟨⟨⟨by decide +kernel, by decide +kernel⟩, tw_1_14, tw_8_116, by decide +kernel⟩, tw_8_115, tp_35⟩
theorem k_X10_isOpen {p : Program} {l : Launch} {e : Env} {s : State} {m : MethodId} {args : Array Value} {below : List Frame} {meth : Method} {c : Code} {H : Heap} {locs : List Loc} {Q : State → Prop} {E : En} {ad : Nat → Nat} {V : Mem} {ow : String} {b : ByteArray} {n d : Nat} {ret : Option FieldType} {pc index : Nat} {ls : Array Slot} {rest : List Value} {a1 : Int32} {r : Int32} {V1 : Mem} (hC : Cx p s m args c meth E ow b n ret) (hI : In E ad V s H locs) (hsz : ls.size = n) (hf : f_X10_isOpen V a1 = some (r, V1)) (hl : Cond.methodLink ow index yX10_isOpen ∈ TB) (hR : 3 + 1 ≤ d ∧ 8 + (2 + 11) + 40 * 3 ≤ 40 * d) (hw : (rest.map fun v => v.category).sum ≤ 8) (hdg : decode b pc = .ok (.invokevirtual index, 3)) (kk : ∀ (H1 : Heap) (locs1 : List Loc), In E ad V1 s H1 locs1 → W p l e (rmd d) s m args below meth c H1 locs1 0 0 Q (F0 m (pc + 3) ls (.int r :: rest))) : W p l e (rmd d) s m args below meth c H locs 0 0 Q (F0 m pc ls (.int a1 :: .ref (ad 253) :: rest)) :=
  r_calV (As := [.int a1]) (rest := rest) hC hI hsz (m_X10_isOpen l E ad V a1 r _ hf) cv_X10_isOpen hl (by decide) (ce_253 _) rfl rfl rfl hR hw hdg kk

theorem dX10_isField_0 : decode cX10_isField 0 = .ok (.iload_n 0, 1) := by decide +kernel
theorem dX10_isField_1 : decode cX10_isField 1 = .ok (.i2l, 1) := by decide +kernel
theorem dX10_isField_2 : decode cX10_isField 2 = .ok (.lconst 0, 1) := by decide +kernel
theorem dX10_isField_3 : decode cX10_isField 3 = .ok (.ldc2_w 69, 3) := by decide +kernel
theorem dX10_isField_6 : decode cX10_isField 6 = .ok (.invokestatic 57, 3) := by decide +kernel
theorem dX10_isField_9 : decode cX10_isField 9 = .ok (.ireturn, 1) := by decide +kernel
def f_X10_isField (V : Mem) (a0 : Int32) : Option (Int32 × Mem) :=
  bd (f_X10_in V ((a0).toInt64) 0 7) fun r6 V6 =>
  if r6 = 0 ∨ r6 = 1 then
    some (r6, V6)
  else none
set_option maxRecDepth 100000 in
set_option maxHeartbeats 4000000 in
theorem m_X10_isField (l : Launch) (E : En) (ad : Nat → Nat) (V : Mem) (a0 : Int32) (r : Int32) (Vz : Mem) (hf : f_X10_isField V a0 = some (r, Vz)) : MR l E ad yX10_isField cX10_isField 1 (some .boolean) 2 [.int a0] V (some (.int r)) Vz := by
  refine ent (E := E) (ad := ad) (V := V) "LetterRepositoryModel" (by decide +kernel) rfl (Nat.le_of_ble_eq_true rfl) ?_
  intro p e s m below meth c ls hC hI hl
  have hx := hC.1
  have hb := hC.2.1
  have hl : lv_has ls 1 [(0, .int a0)] := hl
  unfold f_X10_isField at hf
  refine lv_iload_n hx hb dX10_isField_0 rfl (lv_at hl 0 rfl) ?_
  refine lv_i2l hx hb dX10_isField_1 rfl ?_
  refine lv_lconst (v := 0) hx hb dX10_isField_2 rfl ?_
  refine lv_ldc2 hx hb hC.2.2.2.1 (hC.2.2.2.2.1 _ tw_8_43) dX10_isField_3 ?_
  obtain ⟨r6, V6, q6, hf⟩ := gbd hf
  refine k_X10_in hC hI hl.1 q6 tw_8_37 ⟨Nat.le_of_ble_eq_true rfl, Nat.le_of_ble_eq_true rfl⟩ (Nat.le_of_ble_eq_true rfl) dX10_isField_6 (fun H locs hI => ?_)
  obtain ⟨h9, hf⟩ := gi hf
  exact r_zret2 hC hI h9 hf dX10_isField_9
theorem cv_X10_isField : CalS yX10_isField cX10_isField 1 (some .boolean) 1 := ⟨⟨⟨by decide +kernel, by decide +kernel⟩, tw_1_14, tw_8_42, by decide +kernel⟩, tw_8_41⟩
theorem k_X10_isField {p : Program} {l : Launch} {e : Env} {s : State} {m : MethodId} {args : Array Value} {below : List Frame} {meth : Method} {c : Code} {H : Heap} {locs : List Loc} {Q : State → Prop} {E : En} {ad : Nat → Nat} {V : Mem} {ow : String} {b : ByteArray} {n d : Nat} {ret : Option FieldType} {pc index : Nat} {ls : Array Slot} {rest : List Value} {a0 : Int32} {r : Int32} {V1 : Mem} (hC : Cx p s m args c meth E ow b n ret) (hI : In E ad V s H locs) (hsz : ls.size = n) (hf : f_X10_isField V a0 = some (r, V1)) (hl : Cond.methodLink ow index yX10_isField ∈ TB) (hR : 2 + 1 ≤ d ∧ 8 + (1 + 11) + 40 * 2 ≤ 40 * d) (hw : (rest.map fun v => v.category).sum ≤ 8) (hdg : decode b pc = .ok (.invokestatic index, 3)) (kk : ∀ (H1 : Heap) (locs1 : List Loc), In E ad V1 s H1 locs1 → W p l e (rmd d) s m args below meth c H1 locs1 0 0 Q (F0 m (pc + 3) ls (.int r :: rest))) : W p l e (rmd d) s m args below meth c H locs 0 0 Q (F0 m pc ls (.int a0 :: rest)) :=
  r_calS (As := [.int a0]) (rest := rest) hC hI hsz (m_X10_isField l E ad V a0 r _ hf) cv_X10_isField hl rfl rfl hR hw hdg kk

theorem dX10_letter_0 : decode cX10_letter 0 = .ok (.aload_n 0, 1) := by decide +kernel
theorem dX10_letter_1 : decode cX10_letter 1 = .ok (.getfield 9, 3) := by decide +kernel
theorem dX10_letter_4 : decode cX10_letter 4 = .ok (.iload_n 1, 1) := by decide +kernel
theorem dX10_letter_5 : decode cX10_letter 5 = .ok (.invokestatic 65, 3) := by decide +kernel
theorem dX10_letter_8 : decode cX10_letter 8 = .ok (.iconst 4, 1) := by decide +kernel
theorem dX10_letter_9 : decode cX10_letter 9 = .ok (.iadd, 1) := by decide +kernel
theorem dX10_letter_10 : decode cX10_letter 10 = .ok (.iload_n 2, 1) := by decide +kernel
theorem dX10_letter_11 : decode cX10_letter 11 = .ok (.iadd, 1) := by decide +kernel
theorem dX10_letter_12 : decode cX10_letter 12 = .ok (.iaload, 1) := by decide +kernel
theorem dX10_letter_13 : decode cX10_letter 13 = .ok (.ireturn, 1) := by decide +kernel
def f_X10_letter (V : Mem) (a1 : Int32) (a2 : Int32) : Option (Int32 × Mem) :=
  bd (f_X10_revisionAt V a1) fun r5 V5 =>
  if ib ((r5 + 4) + a2) 361 = true then
    some ((V5 254 (((r5 + 4) + a2)).toNatClampNeg), V5)
  else none
set_option maxRecDepth 100000 in
set_option maxHeartbeats 4000000 in
theorem m_X10_letter (l : Launch) (E : En) (ad : Nat → Nat) (V : Mem) (a1 : Int32) (a2 : Int32) (r : Int32) (Vz : Mem) (hf : f_X10_letter V a1 a2 = some (r, Vz)) : MR l E ad yX10_letter cX10_letter 3 (some .int) 2 [.ref (ad 253), .int a1, .int a2] V (some (.int r)) Vz := by
  refine ent (E := E) (ad := ad) (V := V) "LetterRepositoryModel" (by decide +kernel) rfl (Nat.le_of_ble_eq_true rfl) ?_
  intro p e s m below meth c ls hC hI hl
  have hx := hC.1
  have hb := hC.2.1
  have hl : lv_has ls 3 [(0, .ref (ad 253)), (1, .int a1), (2, .int a2)] := hl
  unfold f_X10_letter at hf
  refine lv_aload_n hx hb dX10_letter_0 rfl (lv_at hl 0 rfl) ?_
  refine g_253_m hC hI tw_7_189 dX10_letter_1 ?_
  refine lv_iload_n hx hb dX10_letter_4 rfl (lv_at hl 1 rfl) ?_
  obtain ⟨r5, V5, q5, hf⟩ := gbd hf
  refine k_X10_revisionAt hC hI hl.1 q5 tw_8_73 ⟨Nat.le_of_ble_eq_true rfl, Nat.le_of_ble_eq_true rfl⟩ (Nat.le_of_ble_eq_true rfl) dX10_letter_5 (fun H locs hI => ?_)
  refine lv_iconst (v := 4) hx hb dX10_letter_8 rfl ?_
  refine lv_iadd hx hb dX10_letter_9 ?_
  refine lv_iload_n hx hb dX10_letter_10 rfl (lv_at hl 2 rfl) ?_
  refine lv_iadd hx hb dX10_letter_11 ?_
  obtain ⟨h12, hf⟩ := gi hf
  refine ra_254 hC hI (ib_in h12) dX10_letter_12 ?_
  exact r_iret2 hC hI hf dX10_letter_13
theorem cv_X10_letter : CalV yX10_letter cX10_letter 3 (some .int) 2 := ⟨⟨⟨by decide +kernel, by decide +kernel⟩, tw_1_14, tw_8_72, by decide +kernel⟩, tw_8_71, tp_28⟩
theorem k_X10_letter {p : Program} {l : Launch} {e : Env} {s : State} {m : MethodId} {args : Array Value} {below : List Frame} {meth : Method} {c : Code} {H : Heap} {locs : List Loc} {Q : State → Prop} {E : En} {ad : Nat → Nat} {V : Mem} {ow : String} {b : ByteArray} {n d : Nat} {ret : Option FieldType} {pc index : Nat} {ls : Array Slot} {rest : List Value} {a1 : Int32} {a2 : Int32} {r : Int32} {V1 : Mem} (hC : Cx p s m args c meth E ow b n ret) (hI : In E ad V s H locs) (hsz : ls.size = n) (hf : f_X10_letter V a1 a2 = some (r, V1)) (hl : Cond.methodLink ow index yX10_letter ∈ TB) (hR : 2 + 1 ≤ d ∧ 8 + (3 + 11) + 40 * 2 ≤ 40 * d) (hw : (rest.map fun v => v.category).sum ≤ 8) (hdg : decode b pc = .ok (.invokevirtual index, 3)) (kk : ∀ (H1 : Heap) (locs1 : List Loc), In E ad V1 s H1 locs1 → W p l e (rmd d) s m args below meth c H1 locs1 0 0 Q (F0 m (pc + 3) ls (.int r :: rest))) : W p l e (rmd d) s m args below meth c H locs 0 0 Q (F0 m pc ls (.int a2 :: .int a1 :: .ref (ad 253) :: rest)) :=
  r_calV (As := [.int a1, .int a2]) (rest := rest) hC hI hsz (m_X10_letter l E ad V a1 a2 r _ hf) cv_X10_letter hl (by decide) (ce_253 _) rfl rfl rfl hR hw hdg kk
