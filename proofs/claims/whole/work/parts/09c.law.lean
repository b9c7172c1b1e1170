section R09
variable {p : Program} {l : Launch} {e : Env} {R : Room} {s : State} {m : MethodId} {args : Array Value} {below : List Frame} {meth : Method} {c : Code} {H : Heap} {locs : List Loc} {cells slots : Nat} {Q : State → Prop}
variable {E : En} {ad sa : Nat → Nat} {V V1 Vz : Mem} {ow : String} {b : ByteArray} {n index : Nat} {ret : Option FieldType} {pc : Nat} {ls : Array Slot} {rest : List Value}
/-- the script -/
def Sc (E : En) (s : State) (b0 N : Nat) (xs : Nat → Int32) : Prop := va_X b0 N xs s s.heap ∧ b0 < s.heap.size ∧ ¬ ours E b0
theorem r_scr {b0 N : Nat} {xs : Nat → Int32} {x : Int32} (hC : Cx p s m args c meth E ow b n ret) (hI : In E ad V s H locs) (hX : Sc E s b0 N xs) (hin : vp_in x N) (hdg : decode b pc = .ok (.iaload, 1)) (kk : W p l e R s m args below meth c H locs cells slots Q (F0 m (pc + 1) ls (.int (xs x.toNatClampNeg) :: rest))) : W p l e R s m args below meth c H locs cells slots Q (F0 m pc ls (.int x :: .ref b0 :: rest)) :=
  va_sld hC.1 hC.2.1 hX.1 hX.2.1 hX.2.2 hI.2 hin hdg kk
theorem r_scl {b0 N : Nat} {xs : Nat → Int32} (hC : Cx p s m args c meth E ow b n ret) (hI : In E ad V s H locs) (hX : Sc E s b0 N xs) (hdg : decode b pc = .ok (.arraylength, 1)) (kk : W p l e R s m args below meth c H locs cells slots Q (F0 m (pc + 1) ls (.int (nI N) :: rest))) : W p l e R s m args below meth c H locs cells slots Q (F0 m pc ls (.ref b0 :: rest)) :=
  va_slen hC.1 hC.2.1 hX.1 hX.2.1 hX.2.2 hI.2 hdg kk
end R09
def f_law_C0 (xs : Nat → Int32) (N : Nat) (V : Mem) (x4_23 : Int32) : Option Mem :=
  if ib (x4_23 + 1) N = true then
    if ib (x4_23 + 2) N = true then
      if ib (x4_23 + 3) N = true then
        bd (f_L_edit V (xs (x4_23 + 1).toNatClampNeg) (xs (x4_23 + 2).toNatClampNeg) ((((xs (x4_23 + 3).toNatClampNeg) : Int32).toUInt32 % 65536).toInt32)) fun r313 V313 =>
        if ib (x4_23 + 1) N = true then
          if ib (x4_23 + 2) N = true then
            if ib (x4_23 + 3) N = true then
              bd (f_X10_edit V313 (xs (x4_23 + 1).toNatClampNeg) (xs (x4_23 + 2).toNatClampNeg) ((((xs (x4_23 + 3).toNatClampNeg) : Int32).toUInt32 % 65536).toInt32)) fun r338 V338 =>
              bd (f_X10_thrown V338) fun r344 V344 =>
              if r344 = r313 then
                jn (α := Mem → Option Mem) (fun j371 =>
                  if r313 = 0 then
                    if (lg_cmp ((V344 265 0).toInt64) ((r338).toInt64)) = 0 then
                      j371 V344
                    else
                      none
                  else
                    j371 V344
                ) (fun (V371 : Mem) =>
                  some V371
                )
              else
                none
            else none
          else none
        else none
      else none
    else none
  else none
set_option maxRecDepth 100000 in
set_option maxHeartbeats 4000000 in
theorem lc_0 {p : Program} {l : Launch} {e : Env} {s : State} {m : MethodId} {below : List Frame} {meth : Method} {c : Code} {H : Heap} {locs : List Loc} {cells slots : Nat} {Q : State → Prop} {E : En} {ad : Nat → Nat} {V Vz : Mem} {ls : Array Slot} {xs : Nat → Int32} {N b0 : Nat} {x4_23 : Int32} (hT : l.stackTraces = false) (hS : SF E) (hFr : Fr E) (hX : Sc E s b0 N xs) (hC : Cx p s m #[Value.ref b0] c meth E "LetterRepositoryLaw" cL_law 9 (some .boolean)) (hf : f_law_C0 xs N V x4_23 = some Vz) (hI : In E ad V s H locs) (hl : lv_has ls 9 [(0, .ref b0), (1, .ref (ad 248)), (2, .ref (ad 253)), (3, .ref (ad 265)), (4, .int x4_23)]) (hc1 : cells + 20 ≤ 601024) (hc2 : slots + 1374 ≤ 7293034) (kk : ∀ (H : Heap) (locs : List Loc) (ls : Array Slot), In E ad Vz s H locs → lv_has ls 9 [(0, .ref b0), (1, .ref (ad 248)), (2, .ref (ad 253)), (3, .ref (ad 265)), (4, .int x4_23)] → W p l e room_1 s m #[Value.ref b0] below meth c H locs (cells + 20) (slots + 1374) Q (F0 m 3519 ls [])) : W p l e room_1 s m #[Value.ref b0] below meth c H locs cells slots Q (F0 m 292 ls []) := by
  have hx := hC.1
  have hb := hC.2.1
  unfold f_law_C0 at hf
  refine lv_aload_n hx hb dL_law_292 rfl (lv_at hl 1 rfl) ?_
  refine lv_aload_n hx hb dL_law_293 rfl (lv_at hl 0 rfl) ?_
  refine lv_iload hx hb dL_law_294 (lv_at hl 4 rfl) ?_
  refine lv_iconst (v := 1) hx hb dL_law_296 rfl ?_
  refine lv_iadd hx hb dL_law_297 ?_
  obtain ⟨h298, hf⟩ := gi hf
  refine r_scr hC hI hX (ib_in h298) dL_law_298 ?_
  refine lv_aload_n hx hb dL_law_299 rfl (lv_at hl 0 rfl) ?_
  refine lv_iload hx hb dL_law_300 (lv_at hl 4 rfl) ?_
  refine lv_iconst (v := 2) hx hb dL_law_302 rfl ?_
  refine lv_iadd hx hb dL_law_303 ?_
  obtain ⟨h304, hf⟩ := gi hf
  refine r_scr hC hI hX (ib_in h304) dL_law_304 ?_
  refine lv_aload_n hx hb dL_law_305 rfl (lv_at hl 0 rfl) ?_
  refine lv_iload hx hb dL_law_306 (lv_at hl 4 rfl) ?_
  refine lv_iconst (v := 3) hx hb dL_law_308 rfl ?_
  refine lv_iadd hx hb dL_law_309 ?_
  obtain ⟨h310, hf⟩ := gi hf
  refine r_scr hC hI hX (ib_in h310) dL_law_310 ?_
  refine lv_i2c hx hb dL_law_311 rfl ?_
  refine lv_aload_n hx hb dL_law_312 rfl (lv_at hl 3 rfl) ?_
  obtain ⟨r313, V313, q313, hf⟩ := gbd hf
  refine kl_L_edit hS hT hC hI hl.1 q313 tw_2_210 ⟨Nat.le_of_ble_eq_true rfl, Nat.le_of_ble_eq_true rfl⟩ ⟨by show cells + 1 ≤ 601024; omega, by show slots + 6 ≤ 7293034; omega⟩ (Nat.le_of_ble_eq_true rfl) dL_law_313 (fun H locs hI => ?_)
  refine lv_istore (lv' := [(5, .int r313), (0, .ref b0), (1, .ref (ad 248)), (2, .ref (ad 253)), (3, .ref (ad 265)), (4, .int x4_23)]) hx hb dL_law_316 hl (Nat.lt_of_lt_of_eq (by decide) rfl) rfl (fun ls hl => ?_)
  refine lv_aload_n hx hb dL_law_318 rfl (lv_at hl 3 rfl) ?_
  refine lv_aload_n hx hb dL_law_319 rfl (lv_at hl 1 rfl) ?_
  refine lv_iload hx hb dL_law_320 (lv_at hl 5 rfl) ?_
  refine lv_iconst (v := 1) hx hb dL_law_322 rfl ?_
  refine lv_iadd hx hb dL_law_323 ?_
  obtain ⟨h324, hf⟩ := gi hf
  refine r_scr hC hI hX (ib_in h324) dL_law_324 ?_
  refine lv_aload_n hx hb dL_law_325 rfl (lv_at hl 1 rfl) ?_
  refine lv_iload hx hb dL_law_326 (lv_at hl 5 rfl) ?_
  refine lv_iconst (v := 2) hx hb dL_law_328 rfl ?_
  refine lv_iadd hx hb dL_law_329 ?_
  obtain ⟨h330, hf⟩ := gi hf
  refine r_scr hC hI hX (ib_in h330) dL_law_330 ?_
  refine lv_aload_n hx hb dL_law_331 rfl (lv_at hl 1 rfl) ?_
  refine lv_iload hx hb dL_law_332 (lv_at hl 5 rfl) ?_
  refine lv_iconst (v := 3) hx hb dL_law_334 rfl ?_
  refine lv_iadd hx hb dL_law_335 ?_
  obtain ⟨h336, hf⟩ := gi hf
  refine r_scr hC hI hX (ib_in h336) dL_law_336 ?_
  refine lv_i2c hx hb dL_law_337 rfl ?_
  obtain ⟨r338, V338, q338, hf⟩ := gbd hf
  refine k_X10_edit hC hI hl.1 q338 tw_8_21 ⟨Nat.le_of_ble_eq_true rfl, Nat.le_of_ble_eq_true rfl⟩ ⟨by show cells + 1 ≤ 601024; omega, by show slots + 6 ≤ 7293034; omega⟩ (Nat.le_of_ble_eq_true rfl) dL_law_338 (fun H locs hI => ?_)
  refine lv_istore (lv' := [(6, .int r338), (5, .int r313), (0, .ref b0), (1, .ref (ad 248)), (2, .ref (ad 253)), (3, .ref (ad 265)), (4, .int x4_23)]) hx hb dL_law_341 hl (Nat.lt_of_lt_of_eq (by decide) rfl) rfl (fun ls hl => ?_)
  refine lv_aload_n hx hb dL_law_343 rfl (lv_at hl 4 rfl) ?_
  obtain ⟨r344, V344, q344, hf⟩ := gbd hf
  refine k_X10_thrown hC hI hl.1 q344 tw_8_17 ⟨Nat.le_of_ble_eq_true rfl, Nat.le_of_ble_eq_true rfl⟩ ⟨by show cells + 1 ≤ 601024; omega, by show slots + 6 ≤ 7293034; omega⟩ (Nat.le_of_ble_eq_true rfl) dL_law_344 (fun H locs hI => ?_)
  refine lv_iload hx hb dL_law_347 (lv_at hl 1 rfl) ?_
  refine lv_icmp_eq (tgt := 354) hx hb dL_law_349 (by decide) (fun c349 => ?_) (fun c349 => ?_)
  · have hf := gt hf c349
    refine lv_iload hx hb dL_law_354 (lv_at hl 1 rfl) ?_
    obtain ⟨j371, hj371, hf⟩ := gj hf
    have J371 : ∀ (V371 : Mem) (H : Heap) (locs : List Loc) (ls : Array Slot), j371 V371 = some Vz → In E ad V371 s H locs → lv_has ls 9 [(0, .ref b0), (1, .ref (ad 248)), (2, .ref (ad 253)), (3, .ref (ad 265)), (4, .int x4_23)] → W p l e room_1 s m #[Value.ref b0] below meth c H locs (cells + 1) (slots + 6) Q (F0 m 371 ls []) := by
      intro V371 H locs ls hf hI hl
      rw [hj371] at hf
      dsimp only at hf
      refine lv_goto (tgt := 3519) hx hb dL_law_371 (by decide) ?_
      cases hf
      refine x_wid (c2 := cells + 20) (s2 := slots + 1374) (by omega) (by omega) ?_
      exact kk _ _ _ hI (lv_sub hl [0, 1, 2, 3, 4] rfl)
    refine lv_if_ne (tgt := 371) hx hb dL_law_356 (by decide) (fun c356 => ?_) (fun c356 => ?_)
    · have hf := gf hf c356
      exact J371 _ _ _ _ hf hI (lv_sub hl [2, 3, 4, 5, 6] rfl)
    · have hf := gt hf c356
      refine lv_aload_n hx hb dL_law_359 rfl (lv_at hl 5 rfl) ?_
      refine lv_iconst (v := 0) hx hb dL_law_360 rfl ?_
      refine r_lald hC hI dL_law_361 ?_
      refine lv_iload hx hb dL_law_362 (lv_at hl 0 rfl) ?_
      refine lv_i2l hx hb dL_law_364 rfl ?_
      refine W.lcmp hx hb dL_law_365 ?_
      refine lv_if_eq (tgt := 371) hx hb dL_law_366 (by decide) (fun c366 => ?_) (fun c366 => ?_)
      · have hf := gt hf c366
        exact J371 _ _ _ _ hf hI (lv_sub hl [2, 3, 4, 5, 6] rfl)
      · have hf := gf hf c366
        refine lv_iconst (v := 0) hx hb dL_law_369 rfl ?_
        cases hf
  · have hf := gf hf c349
    refine lv_iconst (v := 0) hx hb dL_law_352 rfl ?_
    cases hf

def f_law_C1 (xs : Nat → Int32) (N : Nat) (V : Mem) (x4_23 : Int32) : Option Mem :=
  if ib (x4_23 + 1) N = true then
    bd (f_L_revert V (xs (x4_23 + 1).toNatClampNeg)) fun r382 V382 =>
    if ib (x4_23 + 1) N = true then
      bd (f_X10_revert V382 (xs (x4_23 + 1).toNatClampNeg)) fun r394 V394 =>
      bd (f_X10_thrown V394) fun r400 V400 =>
      if r400 = r382 then
        jn (α := Mem → Option Mem) (fun j427 =>
          if r382 = 0 then
            if (lg_cmp ((V400 265 0).toInt64) ((r394).toInt64)) = 0 then
              j427 V400
            else
              none
          else
            j427 V400
        ) (fun (V427 : Mem) =>
          some V427
        )
      else
        none
    else none
  else none
set_option maxRecDepth 100000 in
set_option maxHeartbeats 4000000 in
theorem lc_1 {p : Program} {l : Launch} {e : Env} {s : State} {m : MethodId} {below : List Frame} {meth : Method} {c : Code} {H : Heap} {locs : List Loc} {cells slots : Nat} {Q : State → Prop} {E : En} {ad : Nat → Nat} {V Vz : Mem} {ls : Array Slot} {xs : Nat → Int32} {N b0 : Nat} {x4_23 : Int32} (hT : l.stackTraces = false) (hS : SF E) (hFr : Fr E) (hX : Sc E s b0 N xs) (hC : Cx p s m #[Value.ref b0] c meth E "LetterRepositoryLaw" cL_law 9 (some .boolean)) (hf : f_law_C1 xs N V x4_23 = some Vz) (hI : In E ad V s H locs) (hl : lv_has ls 9 [(0, .ref b0), (1, .ref (ad 248)), (2, .ref (ad 253)), (3, .ref (ad 265)), (4, .int x4_23)]) (hc1 : cells + 20 ≤ 601024) (hc2 : slots + 1374 ≤ 7293034) (kk : ∀ (H : Heap) (locs : List Loc) (ls : Array Slot), In E ad Vz s H locs → lv_has ls 9 [(0, .ref b0), (1, .ref (ad 248)), (2, .ref (ad 253)), (3, .ref (ad 265)), (4, .int x4_23)] → W p l e room_1 s m #[Value.ref b0] below meth c H locs (cells + 20) (slots + 1374) Q (F0 m 3519 ls [])) : W p l e room_1 s m #[Value.ref b0] below meth c H locs cells slots Q (F0 m 374 ls []) := by
  have hx := hC.1
  have hb := hC.2.1
  unfold f_law_C1 at hf
  refine lv_aload_n hx hb dL_law_374 rfl (lv_at hl 1 rfl) ?_
  refine lv_aload_n hx hb dL_law_375 rfl (lv_at hl 0 rfl) ?_
  refine lv_iload hx hb dL_law_376 (lv_at hl 4 rfl) ?_
  refine lv_iconst (v := 1) hx hb dL_law_378 rfl ?_
  refine lv_iadd hx hb dL_law_379 ?_
  obtain ⟨h380, hf⟩ := gi hf
  refine r_scr hC hI hX (ib_in h380) dL_law_380 ?_
  refine lv_aload_n hx hb dL_law_381 rfl (lv_at hl 3 rfl) ?_
  obtain ⟨r382, V382, q382, hf⟩ := gbd hf
  refine kl_L_revert hS hT hC hI hl.1 q382 tw_3_151 ⟨Nat.le_of_ble_eq_true rfl, Nat.le_of_ble_eq_true rfl⟩ ⟨by show cells + 1 ≤ 601024; omega, by show slots + 6 ≤ 7293034; omega⟩ (Nat.le_of_ble_eq_true rfl) dL_law_382 (fun H locs hI => ?_)
  refine lv_istore (lv' := [(5, .int r382), (0, .ref b0), (1, .ref (ad 248)), (2, .ref (ad 253)), (3, .ref (ad 265)), (4, .int x4_23)]) hx hb dL_law_385 hl (Nat.lt_of_lt_of_eq (by decide) rfl) rfl (fun ls hl => ?_)
  refine lv_aload_n hx hb dL_law_387 rfl (lv_at hl 3 rfl) ?_
  refine lv_aload_n hx hb dL_law_388 rfl (lv_at hl 1 rfl) ?_
  refine lv_iload hx hb dL_law_389 (lv_at hl 5 rfl) ?_
  refine lv_iconst (v := 1) hx hb dL_law_391 rfl ?_
  refine lv_iadd hx hb dL_law_392 ?_
  obtain ⟨h393, hf⟩ := gi hf
  refine r_scr hC hI hX (ib_in h393) dL_law_393 ?_
  obtain ⟨r394, V394, q394, hf⟩ := gbd hf
  refine k_X10_revert hC hI hl.1 q394 tw_8_80 ⟨Nat.le_of_ble_eq_true rfl, Nat.le_of_ble_eq_true rfl⟩ ⟨by show cells + 1 ≤ 601024; omega, by show slots + 6 ≤ 7293034; omega⟩ (Nat.le_of_ble_eq_true rfl) dL_law_394 (fun H locs hI => ?_)
  refine lv_istore (lv' := [(6, .int r394), (5, .int r382), (0, .ref b0), (1, .ref (ad 248)), (2, .ref (ad 253)), (3, .ref (ad 265)), (4, .int x4_23)]) hx hb dL_law_397 hl (Nat.lt_of_lt_of_eq (by decide) rfl) rfl (fun ls hl => ?_)
  refine lv_aload_n hx hb dL_law_399 rfl (lv_at hl 4 rfl) ?_
  obtain ⟨r400, V400, q400, hf⟩ := gbd hf
  refine k_X10_thrown hC hI hl.1 q400 tw_8_17 ⟨Nat.le_of_ble_eq_true rfl, Nat.le_of_ble_eq_true rfl⟩ ⟨by show cells + 1 ≤ 601024; omega, by show slots + 6 ≤ 7293034; omega⟩ (Nat.le_of_ble_eq_true rfl) dL_law_400 (fun H locs hI => ?_)
  refine lv_iload hx hb dL_law_403 (lv_at hl 1 rfl) ?_
  refine lv_icmp_eq (tgt := 410) hx hb dL_law_405 (by decide) (fun c405 => ?_) (fun c405 => ?_)
  · have hf := gt hf c405
    refine lv_iload hx hb dL_law_410 (lv_at hl 1 rfl) ?_
    obtain ⟨j427, hj427, hf⟩ := gj hf
    have J427 : ∀ (V427 : Mem) (H : Heap) (locs : List Loc) (ls : Array Slot), j427 V427 = some Vz → In E ad V427 s H locs → lv_has ls 9 [(0, .ref b0), (1, .ref (ad 248)), (2, .ref (ad 253)), (3, .ref (ad 265)), (4, .int x4_23)] → W p l e room_1 s m #[Value.ref b0] below meth c H locs (cells + 1) (slots + 6) Q (F0 m 427 ls []) := by
      intro V427 H locs ls hf hI hl
      rw [hj427] at hf
      dsimp only at hf
      refine lv_goto (tgt := 3519) hx hb dL_law_427 (by decide) ?_
      cases hf
      refine x_wid (c2 := cells + 20) (s2 := slots + 1374) (by omega) (by omega) ?_
      exact kk _ _ _ hI (lv_sub hl [0, 1, 2, 3, 4] rfl)
    refine lv_if_ne (tgt := 427) hx hb dL_law_412 (by decide) (fun c412 => ?_) (fun c412 => ?_)
    · have hf := gf hf c412
      exact J427 _ _ _ _ hf hI (lv_sub hl [2, 3, 4, 5, 6] rfl)
    · have hf := gt hf c412
      refine lv_aload_n hx hb dL_law_415 rfl (lv_at hl 5 rfl) ?_
      refine lv_iconst (v := 0) hx hb dL_law_416 rfl ?_
      refine r_lald hC hI dL_law_417 ?_
      refine lv_iload hx hb dL_law_418 (lv_at hl 0 rfl) ?_
      refine lv_i2l hx hb dL_law_420 rfl ?_
      refine W.lcmp hx hb dL_law_421 ?_
      refine lv_if_eq (tgt := 427) hx hb dL_law_422 (by decide) (fun c422 => ?_) (fun c422 => ?_)
      · have hf := gt hf c422
        exact J427 _ _ _ _ hf hI (lv_sub hl [2, 3, 4, 5, 6] rfl)
      · have hf := gf hf c422
        refine lv_iconst (v := 0) hx hb dL_law_425 rfl ?_
        cases hf
  · have hf := gf hf c405
    refine lv_iconst (v := 0) hx hb dL_law_408 rfl ?_
    cases hf

def f_law_C2 (xs : Nat → Int32) (N : Nat) (V : Mem) (x4_23 : Int32) : Option Mem :=
  if ib (x4_23 + 1) N = true then
    if ib (x4_23 + 2) N = true then
      bd (f_L_commit V (xs (x4_23 + 1).toNatClampNeg) (xs (x4_23 + 2).toNatClampNeg)) fun r444 V444 =>
      if ib (x4_23 + 1) N = true then
        if ib (x4_23 + 2) N = true then
          bd (f_X10_commit V444 (xs (x4_23 + 1).toNatClampNeg) (xs (x4_23 + 2).toNatClampNeg)) fun r462 V462 =>
          bd (f_X10_thrown V462) fun r468 V468 =>
          if r468 = r444 then
            jn (α := Mem → Option Mem) (fun j495 =>
              if r444 = 0 then
                if (lg_cmp ((V468 265 0).toInt64) ((r462).toInt64)) = 0 then
                  j495 V468
                else
                  none
              else
                j495 V468
            ) (fun (V495 : Mem) =>
              some V495
            )
          else
            none
        else none
      else none
    else none
  else none
set_option maxRecDepth 100000 in
set_option maxHeartbeats 4000000 in
theorem lc_2 {p : Program} {l : Launch} {e : Env} {s : State} {m : MethodId} {below : List Frame} {meth : Method} {c : Code} {H : Heap} {locs : List Loc} {cells slots : Nat} {Q : State → Prop} {E : En} {ad : Nat → Nat} {V Vz : Mem} {ls : Array Slot} {xs : Nat → Int32} {N b0 : Nat} {x4_23 : Int32} (hT : l.stackTraces = false) (hS : SF E) (hFr : Fr E) (hX : Sc E s b0 N xs) (hC : Cx p s m #[Value.ref b0] c meth E "LetterRepositoryLaw" cL_law 9 (some .boolean)) (hf : f_law_C2 xs N V x4_23 = some Vz) (hI : In E ad V s H locs) (hl : lv_has ls 9 [(0, .ref b0), (1, .ref (ad 248)), (2, .ref (ad 253)), (3, .ref (ad 265)), (4, .int x4_23)]) (hc1 : cells + 20 ≤ 601024) (hc2 : slots + 1374 ≤ 7293034) (kk : ∀ (H : Heap) (locs : List Loc) (ls : Array Slot), In E ad Vz s H locs → lv_has ls 9 [(0, .ref b0), (1, .ref (ad 248)), (2, .ref (ad 253)), (3, .ref (ad 265)), (4, .int x4_23)] → W p l e room_1 s m #[Value.ref b0] below meth c H locs (cells + 20) (slots + 1374) Q (F0 m 3519 ls [])) : W p l e room_1 s m #[Value.ref b0] below meth c H locs cells slots Q (F0 m 430 ls []) := by
  have hx := hC.1
  have hb := hC.2.1
  unfold f_law_C2 at hf
  refine lv_aload_n hx hb dL_law_430 rfl (lv_at hl 1 rfl) ?_
  refine lv_aload_n hx hb dL_law_431 rfl (lv_at hl 0 rfl) ?_
  refine lv_iload hx hb dL_law_432 (lv_at hl 4 rfl) ?_
  refine lv_iconst (v := 1) hx hb dL_law_434 rfl ?_
  refine lv_iadd hx hb dL_law_435 ?_
  obtain ⟨h436, hf⟩ := gi hf
  refine r_scr hC hI hX (ib_in h436) dL_law_436 ?_
  refine lv_aload_n hx hb dL_law_437 rfl (lv_at hl 0 rfl) ?_
  refine lv_iload hx hb dL_law_438 (lv_at hl 4 rfl) ?_
  refine lv_iconst (v := 2) hx hb dL_law_440 rfl ?_
  refine lv_iadd hx hb dL_law_441 ?_
  obtain ⟨h442, hf⟩ := gi hf
  refine r_scr hC hI hX (ib_in h442) dL_law_442 ?_
  refine lv_aload_n hx hb dL_law_443 rfl (lv_at hl 3 rfl) ?_
  obtain ⟨r444, V444, q444, hf⟩ := gbd hf
  refine kl_L_commit hS hT hC hI hl.1 q444 tw_3_170 ⟨Nat.le_of_ble_eq_true rfl, Nat.le_of_ble_eq_true rfl⟩ ⟨by show cells + 1 ≤ 601024; omega, by show slots + 6 ≤ 7293034; omega⟩ (Nat.le_of_ble_eq_true rfl) dL_law_444 (fun H locs hI => ?_)
  refine lv_istore (lv' := [(5, .int r444), (0, .ref b0), (1, .ref (ad 248)), (2, .ref (ad 253)), (3, .ref (ad 265)), (4, .int x4_23)]) hx hb dL_law_447 hl (Nat.lt_of_lt_of_eq (by decide) rfl) rfl (fun ls hl => ?_)
  refine lv_aload_n hx hb dL_law_449 rfl (lv_at hl 3 rfl) ?_
  refine lv_aload_n hx hb dL_law_450 rfl (lv_at hl 1 rfl) ?_
  refine lv_iload hx hb dL_law_451 (lv_at hl 5 rfl) ?_
  refine lv_iconst (v := 1) hx hb dL_law_453 rfl ?_
  refine lv_iadd hx hb dL_law_454 ?_
  obtain ⟨h455, hf⟩ := gi hf
  refine r_scr hC hI hX (ib_in h455) dL_law_455 ?_
  refine lv_aload_n hx hb dL_law_456 rfl (lv_at hl 1 rfl) ?_
  refine lv_iload hx hb dL_law_457 (lv_at hl 5 rfl) ?_
  refine lv_iconst (v := 2) hx hb dL_law_459 rfl ?_
  refine lv_iadd hx hb dL_law_460 ?_
  obtain ⟨h461, hf⟩ := gi hf
  refine r_scr hC hI hX (ib_in h461) dL_law_461 ?_
  obtain ⟨r462, V462, q462, hf⟩ := gbd hf
  refine k_X10_commit hC hI hl.1 q462 tw_8_92 ⟨Nat.le_of_ble_eq_true rfl, Nat.le_of_ble_eq_true rfl⟩ ⟨by show cells + 1 ≤ 601024; omega, by show slots + 6 ≤ 7293034; omega⟩ (Nat.le_of_ble_eq_true rfl) dL_law_462 (fun H locs hI => ?_)
  refine lv_istore (lv' := [(6, .int r462), (5, .int r444), (0, .ref b0), (1, .ref (ad 248)), (2, .ref (ad 253)), (3, .ref (ad 265)), (4, .int x4_23)]) hx hb dL_law_465 hl (Nat.lt_of_lt_of_eq (by decide) rfl) rfl (fun ls hl => ?_)
  refine lv_aload_n hx hb dL_law_467 rfl (lv_at hl 4 rfl) ?_
  obtain ⟨r468, V468, q468, hf⟩ := gbd hf
  refine k_X10_thrown hC hI hl.1 q468 tw_8_17 ⟨Nat.le_of_ble_eq_true rfl, Nat.le_of_ble_eq_true rfl⟩ ⟨by show cells + 1 ≤ 601024; omega, by show slots + 6 ≤ 7293034; omega⟩ (Nat.le_of_ble_eq_true rfl) dL_law_468 (fun H locs hI => ?_)
  refine lv_iload hx hb dL_law_471 (lv_at hl 1 rfl) ?_
  refine lv_icmp_eq (tgt := 478) hx hb dL_law_473 (by decide) (fun c473 => ?_) (fun c473 => ?_)
  · have hf := gt hf c473
    refine lv_iload hx hb dL_law_478 (lv_at hl 1 rfl) ?_
    obtain ⟨j495, hj495, hf⟩ := gj hf
    have J495 : ∀ (V495 : Mem) (H : Heap) (locs : List Loc) (ls : Array Slot), j495 V495 = some Vz → In E ad V495 s H locs → lv_has ls 9 [(0, .ref b0), (1, .ref (ad 248)), (2, .ref (ad 253)), (3, .ref (ad 265)), (4, .int x4_23)] → W p l e room_1 s m #[Value.ref b0] below meth c H locs (cells + 1) (slots + 6) Q (F0 m 495 ls []) := by
      intro V495 H locs ls hf hI hl
      rw [hj495] at hf
      dsimp only at hf
      refine lv_goto (tgt := 3519) hx hb dL_law_495 (by decide) ?_
      cases hf
      refine x_wid (c2 := cells + 20) (s2 := slots + 1374) (by omega) (by omega) ?_
      exact kk _ _ _ hI (lv_sub hl [0, 1, 2, 3, 4] rfl)
    refine lv_if_ne (tgt := 495) hx hb dL_law_480 (by decide) (fun c480 => ?_) (fun c480 => ?_)
    · have hf := gf hf c480
      exact J495 _ _ _ _ hf hI (lv_sub hl [2, 3, 4, 5, 6] rfl)
    · have hf := gt hf c480
      refine lv_aload_n hx hb dL_law_483 rfl (lv_at hl 5 rfl) ?_
      refine lv_iconst (v := 0) hx hb dL_law_484 rfl ?_
      refine r_lald hC hI dL_law_485 ?_
      refine lv_iload hx hb dL_law_486 (lv_at hl 0 rfl) ?_
      refine lv_i2l hx hb dL_law_488 rfl ?_
      refine W.lcmp hx hb dL_law_489 ?_
      refine lv_if_eq (tgt := 495) hx hb dL_law_490 (by decide) (fun c490 => ?_) (fun c490 => ?_)
      · have hf := gt hf c490
        exact J495 _ _ _ _ hf hI (lv_sub hl [2, 3, 4, 5, 6] rfl)
      · have hf := gf hf c490
        refine lv_iconst (v := 0) hx hb dL_law_493 rfl ?_
        cases hf
  · have hf := gf hf c473
    refine lv_iconst (v := 0) hx hb dL_law_476 rfl ?_
    cases hf

def f_law_C3 (xs : Nat → Int32) (N : Nat) (V : Mem) (x4_23 : Int32) : Option Mem :=
  if ib (x4_23 + 1) N = true then
    bd (f_L_createBranch V (xs (x4_23 + 1).toNatClampNeg)) fun r506 V506 =>
    if ib (x4_23 + 1) N = true then
      bd (f_X10_createBranch V506 (xs (x4_23 + 1).toNatClampNeg)) fun r518 V518 =>
      bd (f_X10_thrown V518) fun r524 V524 =>
      if r524 = r506 then
        jn (α := Mem → Option Mem) (fun j551 =>
          if r506 = 0 then
            if (lg_cmp ((V524 265 0).toInt64) ((r518).toInt64)) = 0 then
              j551 V524
            else
              none
          else
            j551 V524
        ) (fun (V551 : Mem) =>
          some V551
        )
      else
        none
    else none
  else none
set_option maxRecDepth 100000 in
set_option maxHeartbeats 4000000 in
theorem lc_3 {p : Program} {l : Launch} {e : Env} {s : State} {m : MethodId} {below : List Frame} {meth : Method} {c : Code} {H : Heap} {locs : List Loc} {cells slots : Nat} {Q : State → Prop} {E : En} {ad : Nat → Nat} {V Vz : Mem} {ls : Array Slot} {xs : Nat → Int32} {N b0 : Nat} {x4_23 : Int32} (hT : l.stackTraces = false) (hS : SF E) (hFr : Fr E) (hX : Sc E s b0 N xs) (hC : Cx p s m #[Value.ref b0] c meth E "LetterRepositoryLaw" cL_law 9 (some .boolean)) (hf : f_law_C3 xs N V x4_23 = some Vz) (hI : In E ad V s H locs) (hl : lv_has ls 9 [(0, .ref b0), (1, .ref (ad 248)), (2, .ref (ad 253)), (3, .ref (ad 265)), (4, .int x4_23)]) (hc1 : cells + 20 ≤ 601024) (hc2 : slots + 1374 ≤ 7293034) (kk : ∀ (H : Heap) (locs : List Loc) (ls : Array Slot), In E ad Vz s H locs → lv_has ls 9 [(0, .ref b0), (1, .ref (ad 248)), (2, .ref (ad 253)), (3, .ref (ad 265)), (4, .int x4_23)] → W p l e room_1 s m #[Value.ref b0] below meth c H locs (cells + 20) (slots + 1374) Q (F0 m 3519 ls [])) : W p l e room_1 s m #[Value.ref b0] below meth c H locs cells slots Q (F0 m 498 ls []) := by
  have hx := hC.1
  have hb := hC.2.1
  unfold f_law_C3 at hf
  refine lv_aload_n hx hb dL_law_498 rfl (lv_at hl 1 rfl) ?_
  refine lv_aload_n hx hb dL_law_499 rfl (lv_at hl 0 rfl) ?_
  refine lv_iload hx hb dL_law_500 (lv_at hl 4 rfl) ?_
  refine lv_iconst (v := 1) hx hb dL_law_502 rfl ?_
  refine lv_iadd hx hb dL_law_503 ?_
  obtain ⟨h504, hf⟩ := gi hf
  refine r_scr hC hI hX (ib_in h504) dL_law_504 ?_
  refine lv_aload_n hx hb dL_law_505 rfl (lv_at hl 3 rfl) ?_
  obtain ⟨r506, V506, q506, hf⟩ := gbd hf
  refine kl_L_createBranch hS hT hC hI hl.1 q506 tw_3_206 ⟨Nat.le_of_ble_eq_true rfl, Nat.le_of_ble_eq_true rfl⟩ ⟨by show cells + 1 ≤ 601024; omega, by show slots + 6 ≤ 7293034; omega⟩ (Nat.le_of_ble_eq_true rfl) dL_law_506 (fun H locs hI => ?_)
  refine lv_istore (lv' := [(5, .int r506), (0, .ref b0), (1, .ref (ad 248)), (2, .ref (ad 253)), (3, .ref (ad 265)), (4, .int x4_23)]) hx hb dL_law_509 hl (Nat.lt_of_lt_of_eq (by decide) rfl) rfl (fun ls hl => ?_)
  refine lv_aload_n hx hb dL_law_511 rfl (lv_at hl 3 rfl) ?_
  refine lv_aload_n hx hb dL_law_512 rfl (lv_at hl 1 rfl) ?_
  refine lv_iload hx hb dL_law_513 (lv_at hl 5 rfl) ?_
  refine lv_iconst (v := 1) hx hb dL_law_515 rfl ?_
  refine lv_iadd hx hb dL_law_516 ?_
  obtain ⟨h517, hf⟩ := gi hf
  refine r_scr hC hI hX (ib_in h517) dL_law_517 ?_
  obtain ⟨r518, V518, q518, hf⟩ := gbd hf
  refine k_X10_createBranch hC hI hl.1 q518 tw_8_105 ⟨Nat.le_of_ble_eq_true rfl, Nat.le_of_ble_eq_true rfl⟩ ⟨by show cells + 1 ≤ 601024; omega, by show slots + 6 ≤ 7293034; omega⟩ (Nat.le_of_ble_eq_true rfl) dL_law_518 (fun H locs hI => ?_)
  refine lv_istore (lv' := [(6, .int r518), (5, .int r506), (0, .ref b0), (1, .ref (ad 248)), (2, .ref (ad 253)), (3, .ref (ad 265)), (4, .int x4_23)]) hx hb dL_law_521 hl (Nat.lt_of_lt_of_eq (by decide) rfl) rfl (fun ls hl => ?_)
  refine lv_aload_n hx hb dL_law_523 rfl (lv_at hl 4 rfl) ?_
  obtain ⟨r524, V524, q524, hf⟩ := gbd hf
  refine k_X10_thrown hC hI hl.1 q524 tw_8_17 ⟨Nat.le_of_ble_eq_true rfl, Nat.le_of_ble_eq_true rfl⟩ ⟨by show cells + 1 ≤ 601024; omega, by show slots + 6 ≤ 7293034; omega⟩ (Nat.le_of_ble_eq_true rfl) dL_law_524 (fun H locs hI => ?_)
  refine lv_iload hx hb dL_law_527 (lv_at hl 1 rfl) ?_
  refine lv_icmp_eq (tgt := 534) hx hb dL_law_529 (by decide) (fun c529 => ?_) (fun c529 => ?_)
  · have hf := gt hf c529
    refine lv_iload hx hb dL_law_534 (lv_at hl 1 rfl) ?_
    obtain ⟨j551, hj551, hf⟩ := gj hf
    have J551 : ∀ (V551 : Mem) (H : Heap) (locs : List Loc) (ls : Array Slot), j551 V551 = some Vz → In E ad V551 s H locs → lv_has ls 9 [(0, .ref b0), (1, .ref (ad 248)), (2, .ref (ad 253)), (3, .ref (ad 265)), (4, .int x4_23)] → W p l e room_1 s m #[Value.ref b0] below meth c H locs (cells + 1) (slots + 6) Q (F0 m 551 ls []) := by
      intro V551 H locs ls hf hI hl
      rw [hj551] at hf
      dsimp only at hf
      refine lv_goto (tgt := 3519) hx hb dL_law_551 (by decide) ?_
      cases hf
      refine x_wid (c2 := cells + 20) (s2 := slots + 1374) (by omega) (by omega) ?_
      exact kk _ _ _ hI (lv_sub hl [0, 1, 2, 3, 4] rfl)
    refine lv_if_ne (tgt := 551) hx hb dL_law_536 (by decide) (fun c536 => ?_) (fun c536 => ?_)
    · have hf := gf hf c536
      exact J551 _ _ _ _ hf hI (lv_sub hl [2, 3, 4, 5, 6] rfl)
    · have hf := gt hf c536
      refine lv_aload_n hx hb dL_law_539 rfl (lv_at hl 5 rfl) ?_
      refine lv_iconst (v := 0) hx hb dL_law_540 rfl ?_
      refine r_lald hC hI dL_law_541 ?_
      refine lv_iload hx hb dL_law_542 (lv_at hl 0 rfl) ?_
      refine lv_i2l hx hb dL_law_544 rfl ?_
      refine W.lcmp hx hb dL_law_545 ?_
      refine lv_if_eq (tgt := 551) hx hb dL_law_546 (by decide) (fun c546 => ?_) (fun c546 => ?_)
      · have hf := gt hf c546
        exact J551 _ _ _ _ hf hI (lv_sub hl [2, 3, 4, 5, 6] rfl)
      · have hf := gf hf c546
        refine lv_iconst (v := 0) hx hb dL_law_549 rfl ?_
        cases hf
  · have hf := gf hf c529
    refine lv_iconst (v := 0) hx hb dL_law_532 rfl ?_
    cases hf

def f_law_C4 (xs : Nat → Int32) (N : Nat) (V : Mem) (x4_23 : Int32) : Option Mem :=
  if ib (x4_23 + 1) N = true then
    bd (f_L_closeBranch V (xs (x4_23 + 1).toNatClampNeg)) fun r562 V562 =>
    if ib (x4_23 + 1) N = true then
      bd (f_X10_closeBranch V562 (xs (x4_23 + 1).toNatClampNeg)) fun r574 V574 =>
      bd (f_X10_thrown V574) fun r580 V580 =>
      if r580 = r562 then
        jn (α := Mem → Option Mem) (fun j607 =>
          if r562 = 0 then
            if (lg_cmp ((V580 265 0).toInt64) ((r574).toInt64)) = 0 then
              j607 V580
            else
              none
          else
            j607 V580
        ) (fun (V607 : Mem) =>
          some V607
        )
      else
        none
    else none
  else none
set_option maxRecDepth 100000 in
set_option maxHeartbeats 4000000 in
theorem lc_4 {p : Program} {l : Launch} {e : Env} {s : State} {m : MethodId} {below : List Frame} {meth : Method} {c : Code} {H : Heap} {locs : List Loc} {cells slots : Nat} {Q : State → Prop} {E : En} {ad : Nat → Nat} {V Vz : Mem} {ls : Array Slot} {xs : Nat → Int32} {N b0 : Nat} {x4_23 : Int32} (hT : l.stackTraces = false) (hS : SF E) (hFr : Fr E) (hX : Sc E s b0 N xs) (hC : Cx p s m #[Value.ref b0] c meth E "LetterRepositoryLaw" cL_law 9 (some .boolean)) (hf : f_law_C4 xs N V x4_23 = some Vz) (hI : In E ad V s H locs) (hl : lv_has ls 9 [(0, .ref b0), (1, .ref (ad 248)), (2, .ref (ad 253)), (3, .ref (ad 265)), (4, .int x4_23)]) (hc1 : cells + 20 ≤ 601024) (hc2 : slots + 1374 ≤ 7293034) (kk : ∀ (H : Heap) (locs : List Loc) (ls : Array Slot), In E ad Vz s H locs → lv_has ls 9 [(0, .ref b0), (1, .ref (ad 248)), (2, .ref (ad 253)), (3, .ref (ad 265)), (4, .int x4_23)] → W p l e room_1 s m #[Value.ref b0] below meth c H locs (cells + 20) (slots + 1374) Q (F0 m 3519 ls [])) : W p l e room_1 s m #[Value.ref b0] below meth c H locs cells slots Q (F0 m 554 ls []) := by
  have hx := hC.1
  have hb := hC.2.1
  unfold f_law_C4 at hf
  refine lv_aload_n hx hb dL_law_554 rfl (lv_at hl 1 rfl) ?_
  refine lv_aload_n hx hb dL_law_555 rfl (lv_at hl 0 rfl) ?_
  refine lv_iload hx hb dL_law_556 (lv_at hl 4 rfl) ?_
  refine lv_iconst (v := 1) hx hb dL_law_558 rfl ?_
  refine lv_iadd hx hb dL_law_559 ?_
  obtain ⟨h560, hf⟩ := gi hf
  refine r_scr hC hI hX (ib_in h560) dL_law_560 ?_
  refine lv_aload_n hx hb dL_law_561 rfl (lv_at hl 3 rfl) ?_
  obtain ⟨r562, V562, q562, hf⟩ := gbd hf
  refine kl_L_closeBranch hS hT hC hI hl.1 q562 tw_3_231 ⟨Nat.le_of_ble_eq_true rfl, Nat.le_of_ble_eq_true rfl⟩ ⟨by show cells + 1 ≤ 601024; omega, by show slots + 6 ≤ 7293034; omega⟩ (Nat.le_of_ble_eq_true rfl) dL_law_562 (fun H locs hI => ?_)
  refine lv_istore (lv' := [(5, .int r562), (0, .ref b0), (1, .ref (ad 248)), (2, .ref (ad 253)), (3, .ref (ad 265)), (4, .int x4_23)]) hx hb dL_law_565 hl (Nat.lt_of_lt_of_eq (by decide) rfl) rfl (fun ls hl => ?_)
  refine lv_aload_n hx hb dL_law_567 rfl (lv_at hl 3 rfl) ?_
  refine lv_aload_n hx hb dL_law_568 rfl (lv_at hl 1 rfl) ?_
  refine lv_iload hx hb dL_law_569 (lv_at hl 5 rfl) ?_
  refine lv_iconst (v := 1) hx hb dL_law_571 rfl ?_
  refine lv_iadd hx hb dL_law_572 ?_
  obtain ⟨h573, hf⟩ := gi hf
  refine r_scr hC hI hX (ib_in h573) dL_law_573 ?_
  obtain ⟨r574, V574, q574, hf⟩ := gbd hf
  refine k_X10_closeBranch hC hI hl.1 q574 tw_8_121 ⟨Nat.le_of_ble_eq_true rfl, Nat.le_of_ble_eq_true rfl⟩ ⟨by show cells + 1 ≤ 601024; omega, by show slots + 6 ≤ 7293034; omega⟩ (Nat.le_of_ble_eq_true rfl) dL_law_574 (fun H locs hI => ?_)
  refine lv_istore (lv' := [(6, .int r574), (5, .int r562), (0, .ref b0), (1, .ref (ad 248)), (2, .ref (ad 253)), (3, .ref (ad 265)), (4, .int x4_23)]) hx hb dL_law_577 hl (Nat.lt_of_lt_of_eq (by decide) rfl) rfl (fun ls hl => ?_)
  refine lv_aload_n hx hb dL_law_579 rfl (lv_at hl 4 rfl) ?_
  obtain ⟨r580, V580, q580, hf⟩ := gbd hf
  refine k_X10_thrown hC hI hl.1 q580 tw_8_17 ⟨Nat.le_of_ble_eq_true rfl, Nat.le_of_ble_eq_true rfl⟩ ⟨by show cells + 1 ≤ 601024; omega, by show slots + 6 ≤ 7293034; omega⟩ (Nat.le_of_ble_eq_true rfl) dL_law_580 (fun H locs hI => ?_)
  refine lv_iload hx hb dL_law_583 (lv_at hl 1 rfl) ?_
  refine lv_icmp_eq (tgt := 590) hx hb dL_law_585 (by decide) (fun c585 => ?_) (fun c585 => ?_)
  · have hf := gt hf c585
    refine lv_iload hx hb dL_law_590 (lv_at hl 1 rfl) ?_
    obtain ⟨j607, hj607, hf⟩ := gj hf
    have J607 : ∀ (V607 : Mem) (H : Heap) (locs : List Loc) (ls : Array Slot), j607 V607 = some Vz → In E ad V607 s H locs → lv_has ls 9 [(0, .ref b0), (1, .ref (ad 248)), (2, .ref (ad 253)), (3, .ref (ad 265)), (4, .int x4_23)] → W p l e room_1 s m #[Value.ref b0] below meth c H locs (cells + 1) (slots + 6) Q (F0 m 607 ls []) := by
      intro V607 H locs ls hf hI hl
      rw [hj607] at hf
      dsimp only at hf
      refine lv_goto (tgt := 3519) hx hb dL_law_607 (by decide) ?_
      cases hf
      refine x_wid (c2 := cells + 20) (s2 := slots + 1374) (by omega) (by omega) ?_
      exact kk _ _ _ hI (lv_sub hl [0, 1, 2, 3, 4] rfl)
    refine lv_if_ne (tgt := 607) hx hb dL_law_592 (by decide) (fun c592 => ?_) (fun c592 => ?_)
    · have hf := gf hf c592
      exact J607 _ _ _ _ hf hI (lv_sub hl [2, 3, 4, 5, 6] rfl)
    · have hf := gt hf c592
      refine lv_aload_n hx hb dL_law_595 rfl (lv_at hl 5 rfl) ?_
      refine lv_iconst (v := 0) hx hb dL_law_596 rfl ?_
      refine r_lald hC hI dL_law_597 ?_
      refine lv_iload hx hb dL_law_598 (lv_at hl 0 rfl) ?_
      refine lv_i2l hx hb dL_law_600 rfl ?_
      refine W.lcmp hx hb dL_law_601 ?_
      refine lv_if_eq (tgt := 607) hx hb dL_law_602 (by decide) (fun c602 => ?_) (fun c602 => ?_)
      · have hf := gt hf c602
        exact J607 _ _ _ _ hf hI (lv_sub hl [2, 3, 4, 5, 6] rfl)
      · have hf := gf hf c602
        refine lv_iconst (v := 0) hx hb dL_law_605 rfl ?_
        cases hf
  · have hf := gf hf c585
    refine lv_iconst (v := 0) hx hb dL_law_588 rfl ?_
    cases hf

def f_law_C5 (xs : Nat → Int32) (N : Nat) (V : Mem) (x4_23 : Int32) : Option Mem :=
  if ib (x4_23 + 1) N = true then
    if ib (x4_23 + 2) N = true then
      bd (f_L_merge V (xs (x4_23 + 1).toNatClampNeg) (xs (x4_23 + 2).toNatClampNeg)) fun r624 V624 =>
      if ib (x4_23 + 1) N = true then
        if ib (x4_23 + 2) N = true then
          bd (f_X10_merge V624 (xs (x4_23 + 1).toNatClampNeg) (xs (x4_23 + 2).toNatClampNeg)) fun r642 V642 =>
          bd (f_X10_thrown V642) fun r648 V648 =>
          if r648 = r624 then
            jn (α := Mem → Option Mem) (fun j675 =>
              if r624 = 0 then
                if (lg_cmp ((V648 265 0).toInt64) ((r642).toInt64)) = 0 then
                  j675 V648
                else
                  none
              else
                j675 V648
            ) (fun (V675 : Mem) =>
              some V675
            )
          else
            none
        else none
      else none
    else none
  else none
set_option maxRecDepth 100000 in
set_option maxHeartbeats 4000000 in
theorem lc_5 {p : Program} {l : Launch} {e : Env} {s : State} {m : MethodId} {below : List Frame} {meth : Method} {c : Code} {H : Heap} {locs : List Loc} {cells slots : Nat} {Q : State → Prop} {E : En} {ad : Nat → Nat} {V Vz : Mem} {ls : Array Slot} {xs : Nat → Int32} {N b0 : Nat} {x4_23 : Int32} (hT : l.stackTraces = false) (hS : SF E) (hFr : Fr E) (hX : Sc E s b0 N xs) (hC : Cx p s m #[Value.ref b0] c meth E "LetterRepositoryLaw" cL_law 9 (some .boolean)) (hf : f_law_C5 xs N V x4_23 = some Vz) (hI : In E ad V s H locs) (hl : lv_has ls 9 [(0, .ref b0), (1, .ref (ad 248)), (2, .ref (ad 253)), (3, .ref (ad 265)), (4, .int x4_23)]) (hc1 : cells + 20 ≤ 601024) (hc2 : slots + 1374 ≤ 7293034) (kk : ∀ (H : Heap) (locs : List Loc) (ls : Array Slot), In E ad Vz s H locs → lv_has ls 9 [(0, .ref b0), (1, .ref (ad 248)), (2, .ref (ad 253)), (3, .ref (ad 265)), (4, .int x4_23)] → W p l e room_1 s m #[Value.ref b0] below meth c H locs (cells + 20) (slots + 1374) Q (F0 m 3519 ls [])) : W p l e room_1 s m #[Value.ref b0] below meth c H locs cells slots Q (F0 m 610 ls []) := by
  have hx := hC.1
  have hb := hC.2.1
  unfold f_law_C5 at hf
  refine lv_aload_n hx hb dL_law_610 rfl (lv_at hl 1 rfl) ?_
  refine lv_aload_n hx hb dL_law_611 rfl (lv_at hl 0 rfl) ?_
  refine lv_iload hx hb dL_law_612 (lv_at hl 4 rfl) ?_
  refine lv_iconst (v := 1) hx hb dL_law_614 rfl ?_
  refine lv_iadd hx hb dL_law_615 ?_
  obtain ⟨h616, hf⟩ := gi hf
  refine r_scr hC hI hX (ib_in h616) dL_law_616 ?_
  refine lv_aload_n hx hb dL_law_617 rfl (lv_at hl 0 rfl) ?_
  refine lv_iload hx hb dL_law_618 (lv_at hl 4 rfl) ?_
  refine lv_iconst (v := 2) hx hb dL_law_620 rfl ?_
  refine lv_iadd hx hb dL_law_621 ?_
  obtain ⟨h622, hf⟩ := gi hf
  refine r_scr hC hI hX (ib_in h622) dL_law_622 ?_
  refine lv_aload_n hx hb dL_law_623 rfl (lv_at hl 3 rfl) ?_
  obtain ⟨r624, V624, q624, hf⟩ := gbd hf
  refine kl_L_merge hS hT hC hI hl.1 q624 tw_4_6 ⟨Nat.le_of_ble_eq_true rfl, Nat.le_of_ble_eq_true rfl⟩ ⟨by show cells + 1 ≤ 601024; omega, by show slots + 6 ≤ 7293034; omega⟩ (Nat.le_of_ble_eq_true rfl) dL_law_624 (fun H locs hI => ?_)
  refine lv_istore (lv' := [(5, .int r624), (0, .ref b0), (1, .ref (ad 248)), (2, .ref (ad 253)), (3, .ref (ad 265)), (4, .int x4_23)]) hx hb dL_law_627 hl (Nat.lt_of_lt_of_eq (by decide) rfl) rfl (fun ls hl => ?_)
  refine lv_aload_n hx hb dL_law_629 rfl (lv_at hl 3 rfl) ?_
  refine lv_aload_n hx hb dL_law_630 rfl (lv_at hl 1 rfl) ?_
  refine lv_iload hx hb dL_law_631 (lv_at hl 5 rfl) ?_
  refine lv_iconst (v := 1) hx hb dL_law_633 rfl ?_
  refine lv_iadd hx hb dL_law_634 ?_
  obtain ⟨h635, hf⟩ := gi hf
  refine r_scr hC hI hX (ib_in h635) dL_law_635 ?_
  refine lv_aload_n hx hb dL_law_636 rfl (lv_at hl 1 rfl) ?_
  refine lv_iload hx hb dL_law_637 (lv_at hl 5 rfl) ?_
  refine lv_iconst (v := 2) hx hb dL_law_639 rfl ?_
  refine lv_iadd hx hb dL_law_640 ?_
  obtain ⟨h641, hf⟩ := gi hf
  refine r_scr hC hI hX (ib_in h641) dL_law_641 ?_
  obtain ⟨r642, V642, q642, hf⟩ := gbd hf
  refine k_X10_merge hC hI hl.1 q642 tw_8_129 ⟨Nat.le_of_ble_eq_true rfl, Nat.le_of_ble_eq_true rfl⟩ ⟨by show cells + 1 ≤ 601024; omega, by show slots + 6 ≤ 7293034; omega⟩ (Nat.le_of_ble_eq_true rfl) dL_law_642 (fun H locs hI => ?_)
  refine lv_istore (lv' := [(6, .int r642), (5, .int r624), (0, .ref b0), (1, .ref (ad 248)), (2, .ref (ad 253)), (3, .ref (ad 265)), (4, .int x4_23)]) hx hb dL_law_645 hl (Nat.lt_of_lt_of_eq (by decide) rfl) rfl (fun ls hl => ?_)
  refine lv_aload_n hx hb dL_law_647 rfl (lv_at hl 4 rfl) ?_
  obtain ⟨r648, V648, q648, hf⟩ := gbd hf
  refine k_X10_thrown hC hI hl.1 q648 tw_8_17 ⟨Nat.le_of_ble_eq_true rfl, Nat.le_of_ble_eq_true rfl⟩ ⟨by show cells + 1 ≤ 601024; omega, by show slots + 6 ≤ 7293034; omega⟩ (Nat.le_of_ble_eq_true rfl) dL_law_648 (fun H locs hI => ?_)
  refine lv_iload hx hb dL_law_651 (lv_at hl 1 rfl) ?_
  refine lv_icmp_eq (tgt := 658) hx hb dL_law_653 (by decide) (fun c653 => ?_) (fun c653 => ?_)
  · have hf := gt hf c653
    refine lv_iload hx hb dL_law_658 (lv_at hl 1 rfl) ?_
    obtain ⟨j675, hj675, hf⟩ := gj hf
    have J675 : ∀ (V675 : Mem) (H : Heap) (locs : List Loc) (ls : Array Slot), j675 V675 = some Vz → In E ad V675 s H locs → lv_has ls 9 [(0, .ref b0), (1, .ref (ad 248)), (2, .ref (ad 253)), (3, .ref (ad 265)), (4, .int x4_23)] → W p l e room_1 s m #[Value.ref b0] below meth c H locs (cells + 1) (slots + 6) Q (F0 m 675 ls []) := by
      intro V675 H locs ls hf hI hl
      rw [hj675] at hf
      dsimp only at hf
      refine lv_goto (tgt := 3519) hx hb dL_law_675 (by decide) ?_
      cases hf
      refine x_wid (c2 := cells + 20) (s2 := slots + 1374) (by omega) (by omega) ?_
      exact kk _ _ _ hI (lv_sub hl [0, 1, 2, 3, 4] rfl)
    refine lv_if_ne (tgt := 675) hx hb dL_law_660 (by decide) (fun c660 => ?_) (fun c660 => ?_)
    · have hf := gf hf c660
      exact J675 _ _ _ _ hf hI (lv_sub hl [2, 3, 4, 5, 6] rfl)
    · have hf := gt hf c660
      refine lv_aload_n hx hb dL_law_663 rfl (lv_at hl 5 rfl) ?_
      refine lv_iconst (v := 0) hx hb dL_law_664 rfl ?_
      refine r_lald hC hI dL_law_665 ?_
      refine lv_iload hx hb dL_law_666 (lv_at hl 0 rfl) ?_
      refine lv_i2l hx hb dL_law_668 rfl ?_
      refine W.lcmp hx hb dL_law_669 ?_
      refine lv_if_eq (tgt := 675) hx hb dL_law_670 (by decide) (fun c670 => ?_) (fun c670 => ?_)
      · have hf := gt hf c670
        exact J675 _ _ _ _ hf hI (lv_sub hl [2, 3, 4, 5, 6] rfl)
      · have hf := gf hf c670
        refine lv_iconst (v := 0) hx hb dL_law_673 rfl ?_
        cases hf
  · have hf := gf hf c653
    refine lv_iconst (v := 0) hx hb dL_law_656 rfl ?_
    cases hf

def f_law_C6 (xs : Nat → Int32) (N : Nat) (V : Mem) (x4_23 : Int32) : Option Mem :=
  if ib (x4_23 + 1) N = true then
    if ib (x4_23 + 2) N = true then
      if ib (x4_23 + 3) N = true then
        jn (α := Mem → Int32 → Option Mem) (fun j705 =>
          if (xs (x4_23 + 3).toNatClampNeg) = 0 then
            j705 V 0
          else
            j705 V 1
        ) (fun (V705 : Mem) (s0_705 : Int32) =>
          bd (f_L_mergeKeeping V705 (xs (x4_23 + 1).toNatClampNeg) (xs (x4_23 + 2).toNatClampNeg) s0_705) fun r706 V706 =>
          if ib (x4_23 + 1) N = true then
            if ib (x4_23 + 2) N = true then
              if ib (x4_23 + 3) N = true then
                jn (α := Mem → Int32 → Option Mem) (fun j738 =>
                  if (xs (x4_23 + 3).toNatClampNeg) = 0 then
                    j738 V706 0
                  else
                    j738 V706 1
                ) (fun (V738 : Mem) (s0_738 : Int32) =>
                  bd (f_X10_mergeKeeping V738 (xs (x4_23 + 1).toNatClampNeg) (xs (x4_23 + 2).toNatClampNeg) s0_738) fun r738 V738 =>
                  bd (f_X10_thrown V738) fun r744 V744 =>
                  if r744 = r706 then
                    jn (α := Mem → Option Mem) (fun j771 =>
                      if r706 = 0 then
                        if (lg_cmp ((V744 265 0).toInt64) ((r738).toInt64)) = 0 then
                          j771 V744
                        else
                          none
                      else
                        j771 V744
                    ) (fun (V771 : Mem) =>
                      some V771
                    )
                  else
                    none
                )
              else none
            else none
          else none
        )
      else none
    else none
  else none
set_option maxRecDepth 100000 in
set_option maxHeartbeats 4000000 in
theorem lc_6 {p : Program} {l : Launch} {e : Env} {s : State} {m : MethodId} {below : List Frame} {meth : Method} {c : Code} {H : Heap} {locs : List Loc} {cells slots : Nat} {Q : State → Prop} {E : En} {ad : Nat → Nat} {V Vz : Mem} {ls : Array Slot} {xs : Nat → Int32} {N b0 : Nat} {x4_23 : Int32} (hT : l.stackTraces = false) (hS : SF E) (hFr : Fr E) (hX : Sc E s b0 N xs) (hC : Cx p s m #[Value.ref b0] c meth E "LetterRepositoryLaw" cL_law 9 (some .boolean)) (hf : f_law_C6 xs N V x4_23 = some Vz) (hI : In E ad V s H locs) (hl : lv_has ls 9 [(0, .ref b0), (1, .ref (ad 248)), (2, .ref (ad 253)), (3, .ref (ad 265)), (4, .int x4_23)]) (hc1 : cells + 20 ≤ 601024) (hc2 : slots + 1374 ≤ 7293034) (kk : ∀ (H : Heap) (locs : List Loc) (ls : Array Slot), In E ad Vz s H locs → lv_has ls 9 [(0, .ref b0), (1, .ref (ad 248)), (2, .ref (ad 253)), (3, .ref (ad 265)), (4, .int x4_23)] → W p l e room_1 s m #[Value.ref b0] below meth c H locs (cells + 20) (slots + 1374) Q (F0 m 3519 ls [])) : W p l e room_1 s m #[Value.ref b0] below meth c H locs cells slots Q (F0 m 678 ls []) := by
  have hx := hC.1
  have hb := hC.2.1
  unfold f_law_C6 at hf
  refine lv_aload_n hx hb dL_law_678 rfl (lv_at hl 1 rfl) ?_
  refine lv_aload_n hx hb dL_law_679 rfl (lv_at hl 0 rfl) ?_
  refine lv_iload hx hb dL_law_680 (lv_at hl 4 rfl) ?_
  refine lv_iconst (v := 1) hx hb dL_law_682 rfl ?_
  refine lv_iadd hx hb dL_law_683 ?_
  obtain ⟨h684, hf⟩ := gi hf
  refine r_scr hC hI hX (ib_in h684) dL_law_684 ?_
  refine lv_aload_n hx hb dL_law_685 rfl (lv_at hl 0 rfl) ?_
  refine lv_iload hx hb dL_law_686 (lv_at hl 4 rfl) ?_
  refine lv_iconst (v := 2) hx hb dL_law_688 rfl ?_
  refine lv_iadd hx hb dL_law_689 ?_
  obtain ⟨h690, hf⟩ := gi hf
  refine r_scr hC hI hX (ib_in h690) dL_law_690 ?_
  refine lv_aload_n hx hb dL_law_691 rfl (lv_at hl 0 rfl) ?_
  refine lv_iload hx hb dL_law_692 (lv_at hl 4 rfl) ?_
  refine lv_iconst (v := 3) hx hb dL_law_694 rfl ?_
  refine lv_iadd hx hb dL_law_695 ?_
  obtain ⟨h696, hf⟩ := gi hf
  refine r_scr hC hI hX (ib_in h696) dL_law_696 ?_
  obtain ⟨j705, hj705, hf⟩ := gj hf
  have J705 : ∀ (V705 : Mem) (s0_705 : Int32) (H : Heap) (locs : List Loc) (ls : Array Slot), j705 V705 s0_705 = some Vz → In E ad V705 s H locs → lv_has ls 9 [(0, .ref b0), (1, .ref (ad 248)), (2, .ref (ad 253)), (3, .ref (ad 265)), (4, .int x4_23)] → W p l e room_1 s m #[Value.ref b0] below meth c H locs cells slots Q (F0 m 705 ls [.int s0_705, .int (xs (x4_23 + 2).toNatClampNeg), .int (xs (x4_23 + 1).toNatClampNeg), .ref (ad 248)]) := by
    intro V705 s0_705 H locs ls hf hI hl
    rw [hj705] at hf
    dsimp only at hf
    refine lv_aload_n hx hb dL_law_705 rfl (lv_at hl 3 rfl) ?_
    obtain ⟨r706, V706, q706, hf⟩ := gbd hf
    refine kl_L_mergeKeeping hS hT hC hI hl.1 q706 tw_4_39 ⟨Nat.le_of_ble_eq_true rfl, Nat.le_of_ble_eq_true rfl⟩ ⟨by show cells + 1 ≤ 601024; omega, by show slots + 6 ≤ 7293034; omega⟩ (Nat.le_of_ble_eq_true rfl) dL_law_706 (fun H locs hI => ?_)
    refine lv_istore (lv' := [(5, .int r706), (0, .ref b0), (1, .ref (ad 248)), (2, .ref (ad 253)), (3, .ref (ad 265)), (4, .int x4_23)]) hx hb dL_law_709 hl (Nat.lt_of_lt_of_eq (by decide) rfl) rfl (fun ls hl => ?_)
    refine lv_aload_n hx hb dL_law_711 rfl (lv_at hl 3 rfl) ?_
    refine lv_aload_n hx hb dL_law_712 rfl (lv_at hl 1 rfl) ?_
    refine lv_iload hx hb dL_law_713 (lv_at hl 5 rfl) ?_
    refine lv_iconst (v := 1) hx hb dL_law_715 rfl ?_
    refine lv_iadd hx hb dL_law_716 ?_
    obtain ⟨h717, hf⟩ := gi hf
    refine r_scr hC hI hX (ib_in h717) dL_law_717 ?_
    refine lv_aload_n hx hb dL_law_718 rfl (lv_at hl 1 rfl) ?_
    refine lv_iload hx hb dL_law_719 (lv_at hl 5 rfl) ?_
    refine lv_iconst (v := 2) hx hb dL_law_721 rfl ?_
    refine lv_iadd hx hb dL_law_722 ?_
    obtain ⟨h723, hf⟩ := gi hf
    refine r_scr hC hI hX (ib_in h723) dL_law_723 ?_
    refine lv_aload_n hx hb dL_law_724 rfl (lv_at hl 1 rfl) ?_
    refine lv_iload hx hb dL_law_725 (lv_at hl 5 rfl) ?_
    refine lv_iconst (v := 3) hx hb dL_law_727 rfl ?_
    refine lv_iadd hx hb dL_law_728 ?_
    obtain ⟨h729, hf⟩ := gi hf
    refine r_scr hC hI hX (ib_in h729) dL_law_729 ?_
    obtain ⟨j738, hj738, hf⟩ := gj hf
    have J738 : ∀ (V738 : Mem) (s0_738 : Int32) (H : Heap) (locs : List Loc) (ls : Array Slot), j738 V738 s0_738 = some Vz → In E ad V738 s H locs → lv_has ls 9 [(0, .ref b0), (1, .ref (ad 248)), (2, .ref (ad 253)), (3, .ref (ad 265)), (4, .int x4_23), (5, .int r706)] → W p l e room_1 s m #[Value.ref b0] below meth c H locs (cells + 1) (slots + 6) Q (F0 m 738 ls [.int s0_738, .int (xs (x4_23 + 2).toNatClampNeg), .int (xs (x4_23 + 1).toNatClampNeg), .ref (ad 253)]) := by
      intro V738 s0_738 H locs ls hf hI hl
      rw [hj738] at hf
      dsimp only at hf
      obtain ⟨r738, V738, q738, hf⟩ := gbd hf
      refine k_X10_mergeKeeping hC hI hl.1 q738 tw_8_157 ⟨Nat.le_of_ble_eq_true rfl, Nat.le_of_ble_eq_true rfl⟩ ⟨by show cells + 1 ≤ 601024; omega, by show slots + 6 ≤ 7293034; omega⟩ (Nat.le_of_ble_eq_true rfl) dL_law_738 (fun H locs hI => ?_)
      refine lv_istore (lv' := [(6, .int r738), (0, .ref b0), (1, .ref (ad 248)), (2, .ref (ad 253)), (3, .ref (ad 265)), (4, .int x4_23), (5, .int r706)]) hx hb dL_law_741 hl (Nat.lt_of_lt_of_eq (by decide) rfl) rfl (fun ls hl => ?_)
      refine lv_aload_n hx hb dL_law_743 rfl (lv_at hl 3 rfl) ?_
      obtain ⟨r744, V744, q744, hf⟩ := gbd hf
      refine k_X10_thrown hC hI hl.1 q744 tw_8_17 ⟨Nat.le_of_ble_eq_true rfl, Nat.le_of_ble_eq_true rfl⟩ ⟨by show cells + 1 ≤ 601024; omega, by show slots + 6 ≤ 7293034; omega⟩ (Nat.le_of_ble_eq_true rfl) dL_law_744 (fun H locs hI => ?_)
      refine lv_iload hx hb dL_law_747 (lv_at hl 6 rfl) ?_
      refine lv_icmp_eq (tgt := 754) hx hb dL_law_749 (by decide) (fun c749 => ?_) (fun c749 => ?_)
      · have hf := gt hf c749
        refine lv_iload hx hb dL_law_754 (lv_at hl 6 rfl) ?_
        obtain ⟨j771, hj771, hf⟩ := gj hf
        have J771 : ∀ (V771 : Mem) (H : Heap) (locs : List Loc) (ls : Array Slot), j771 V771 = some Vz → In E ad V771 s H locs → lv_has ls 9 [(0, .ref b0), (1, .ref (ad 248)), (2, .ref (ad 253)), (3, .ref (ad 265)), (4, .int x4_23)] → W p l e room_1 s m #[Value.ref b0] below meth c H locs (cells + 1) (slots + 6) Q (F0 m 771 ls []) := by
          intro V771 H locs ls hf hI hl
          rw [hj771] at hf
          dsimp only at hf
          refine lv_goto (tgt := 3519) hx hb dL_law_771 (by decide) ?_
          cases hf
          refine x_wid (c2 := cells + 20) (s2 := slots + 1374) (by omega) (by omega) ?_
          exact kk _ _ _ hI (lv_sub hl [0, 1, 2, 3, 4] rfl)
        refine lv_if_ne (tgt := 771) hx hb dL_law_756 (by decide) (fun c756 => ?_) (fun c756 => ?_)
        · have hf := gf hf c756
          exact J771 _ _ _ _ hf hI (lv_sub hl [1, 2, 3, 4, 5] rfl)
        · have hf := gt hf c756
          refine lv_aload_n hx hb dL_law_759 rfl (lv_at hl 4 rfl) ?_
          refine lv_iconst (v := 0) hx hb dL_law_760 rfl ?_
          refine r_lald hC hI dL_law_761 ?_
          refine lv_iload hx hb dL_law_762 (lv_at hl 0 rfl) ?_
          refine lv_i2l hx hb dL_law_764 rfl ?_
          refine W.lcmp hx hb dL_law_765 ?_
          refine lv_if_eq (tgt := 771) hx hb dL_law_766 (by decide) (fun c766 => ?_) (fun c766 => ?_)
          · have hf := gt hf c766
            exact J771 _ _ _ _ hf hI (lv_sub hl [1, 2, 3, 4, 5] rfl)
          · have hf := gf hf c766
            refine lv_iconst (v := 0) hx hb dL_law_769 rfl ?_
            cases hf
      · have hf := gf hf c749
        refine lv_iconst (v := 0) hx hb dL_law_752 rfl ?_
        cases hf
    refine lv_if_eq (tgt := 737) hx hb dL_law_730 (by decide) (fun c730 => ?_) (fun c730 => ?_)
    · have hf := gt hf c730
      refine lv_iconst (v := 0) hx hb dL_law_737 rfl ?_
      exact J738 _ _ _ _ _ hf hI (lv_sub hl [1, 2, 3, 4, 5, 0] rfl)
    · have hf := gf hf c730
      refine lv_iconst (v := 1) hx hb dL_law_733 rfl ?_
      refine lv_goto (tgt := 738) hx hb dL_law_734 (by decide) ?_
      exact J738 _ _ _ _ _ hf hI (lv_sub hl [1, 2, 3, 4, 5, 0] rfl)
  refine lv_if_eq (tgt := 704) hx hb dL_law_697 (by decide) (fun c697 => ?_) (fun c697 => ?_)
  · have hf := gt hf c697
    refine lv_iconst (v := 0) hx hb dL_law_704 rfl ?_
    exact J705 _ _ _ _ _ hf hI (lv_sub hl [0, 1, 2, 3, 4] rfl)
  · have hf := gf hf c697
    refine lv_iconst (v := 1) hx hb dL_law_700 rfl ?_
    refine lv_goto (tgt := 705) hx hb dL_law_701 (by decide) ?_
    exact J705 _ _ _ _ _ hf hI (lv_sub hl [0, 1, 2, 3, 4] rfl)

def f_law_C7 (xs : Nat → Int32) (N : Nat) (V : Mem) (x4_23 : Int32) : Option Mem :=
  if ib (x4_23 + 1) N = true then
    if ib (x4_23 + 2) N = true then
      bd (f_L_pick V (xs (x4_23 + 1).toNatClampNeg) (xs (x4_23 + 2).toNatClampNeg)) fun r788 V788 =>
      if ib (x4_23 + 1) N = true then
        if ib (x4_23 + 2) N = true then
          bd (f_X10_pick V788 (xs (x4_23 + 1).toNatClampNeg) (xs (x4_23 + 2).toNatClampNeg)) fun r806 V806 =>
          bd (f_X10_thrown V806) fun r812 V812 =>
          if r812 = r788 then
            jn (α := Mem → Option Mem) (fun j839 =>
              if r788 = 0 then
                if (lg_cmp ((V812 265 0).toInt64) ((r806).toInt64)) = 0 then
                  j839 V812
                else
                  none
              else
                j839 V812
            ) (fun (V839 : Mem) =>
              some V839
            )
          else
            none
        else none
      else none
    else none
  else none
set_option maxRecDepth 100000 in
set_option maxHeartbeats 4000000 in
theorem lc_7 {p : Program} {l : Launch} {e : Env} {s : State} {m : MethodId} {below : List Frame} {meth : Method} {c : Code} {H : Heap} {locs : List Loc} {cells slots : Nat} {Q : State → Prop} {E : En} {ad : Nat → Nat} {V Vz : Mem} {ls : Array Slot} {xs : Nat → Int32} {N b0 : Nat} {x4_23 : Int32} (hT : l.stackTraces = false) (hS : SF E) (hFr : Fr E) (hX : Sc E s b0 N xs) (hC : Cx p s m #[Value.ref b0] c meth E "LetterRepositoryLaw" cL_law 9 (some .boolean)) (hf : f_law_C7 xs N V x4_23 = some Vz) (hI : In E ad V s H locs) (hl : lv_has ls 9 [(0, .ref b0), (1, .ref (ad 248)), (2, .ref (ad 253)), (3, .ref (ad 265)), (4, .int x4_23)]) (hc1 : cells + 20 ≤ 601024) (hc2 : slots + 1374 ≤ 7293034) (kk : ∀ (H : Heap) (locs : List Loc) (ls : Array Slot), In E ad Vz s H locs → lv_has ls 9 [(0, .ref b0), (1, .ref (ad 248)), (2, .ref (ad 253)), (3, .ref (ad 265)), (4, .int x4_23)] → W p l e room_1 s m #[Value.ref b0] below meth c H locs (cells + 20) (slots + 1374) Q (F0 m 3519 ls [])) : W p l e room_1 s m #[Value.ref b0] below meth c H locs cells slots Q (F0 m 774 ls []) := by
  have hx := hC.1
  have hb := hC.2.1
  unfold f_law_C7 at hf
  refine lv_aload_n hx hb dL_law_774 rfl (lv_at hl 1 rfl) ?_
  refine lv_aload_n hx hb dL_law_775 rfl (lv_at hl 0 rfl) ?_
  refine lv_iload hx hb dL_law_776 (lv_at hl 4 rfl) ?_
  refine lv_iconst (v := 1) hx hb dL_law_778 rfl ?_
  refine lv_iadd hx hb dL_law_779 ?_
  obtain ⟨h780, hf⟩ := gi hf
  refine r_scr hC hI hX (ib_in h780) dL_law_780 ?_
  refine lv_aload_n hx hb dL_law_781 rfl (lv_at hl 0 rfl) ?_
  refine lv_iload hx hb dL_law_782 (lv_at hl 4 rfl) ?_
  refine lv_iconst (v := 2) hx hb dL_law_784 rfl ?_
  refine lv_iadd hx hb dL_law_785 ?_
  obtain ⟨h786, hf⟩ := gi hf
  refine r_scr hC hI hX (ib_in h786) dL_law_786 ?_
  refine lv_aload_n hx hb dL_law_787 rfl (lv_at hl 3 rfl) ?_
  obtain ⟨r788, V788, q788, hf⟩ := gbd hf
  refine kl_L_pick hS hT hC hI hl.1 q788 tw_4_47 ⟨Nat.le_of_ble_eq_true rfl, Nat.le_of_ble_eq_true rfl⟩ ⟨by show cells + 1 ≤ 601024; omega, by show slots + 6 ≤ 7293034; omega⟩ (Nat.le_of_ble_eq_true rfl) dL_law_788 (fun H locs hI => ?_)
  refine lv_istore (lv' := [(5, .int r788), (0, .ref b0), (1, .ref (ad 248)), (2, .ref (ad 253)), (3, .ref (ad 265)), (4, .int x4_23)]) hx hb dL_law_791 hl (Nat.lt_of_lt_of_eq (by decide) rfl) rfl (fun ls hl => ?_)
  refine lv_aload_n hx hb dL_law_793 rfl (lv_at hl 3 rfl) ?_
  refine lv_aload_n hx hb dL_law_794 rfl (lv_at hl 1 rfl) ?_
  refine lv_iload hx hb dL_law_795 (lv_at hl 5 rfl) ?_
  refine lv_iconst (v := 1) hx hb dL_law_797 rfl ?_
  refine lv_iadd hx hb dL_law_798 ?_
  obtain ⟨h799, hf⟩ := gi hf
  refine r_scr hC hI hX (ib_in h799) dL_law_799 ?_
  refine lv_aload_n hx hb dL_law_800 rfl (lv_at hl 1 rfl) ?_
  refine lv_iload hx hb dL_law_801 (lv_at hl 5 rfl) ?_
  refine lv_iconst (v := 2) hx hb dL_law_803 rfl ?_
  refine lv_iadd hx hb dL_law_804 ?_
  obtain ⟨h805, hf⟩ := gi hf
  refine r_scr hC hI hX (ib_in h805) dL_law_805 ?_
  obtain ⟨r806, V806, q806, hf⟩ := gbd hf
  refine k_X10_pick hC hI hl.1 q806 tw_8_161 ⟨Nat.le_of_ble_eq_true rfl, Nat.le_of_ble_eq_true rfl⟩ ⟨by show cells + 1 ≤ 601024; omega, by show slots + 6 ≤ 7293034; omega⟩ (Nat.le_of_ble_eq_true rfl) dL_law_806 (fun H locs hI => ?_)
  refine lv_istore (lv' := [(6, .int r806), (5, .int r788), (0, .ref b0), (1, .ref (ad 248)), (2, .ref (ad 253)), (3, .ref (ad 265)), (4, .int x4_23)]) hx hb dL_law_809 hl (Nat.lt_of_lt_of_eq (by decide) rfl) rfl (fun ls hl => ?_)
  refine lv_aload_n hx hb dL_law_811 rfl (lv_at hl 4 rfl) ?_
  obtain ⟨r812, V812, q812, hf⟩ := gbd hf
  refine k_X10_thrown hC hI hl.1 q812 tw_8_17 ⟨Nat.le_of_ble_eq_true rfl, Nat.le_of_ble_eq_true rfl⟩ ⟨by show cells + 1 ≤ 601024; omega, by show slots + 6 ≤ 7293034; omega⟩ (Nat.le_of_ble_eq_true rfl) dL_law_812 (fun H locs hI => ?_)
  refine lv_iload hx hb dL_law_815 (lv_at hl 1 rfl) ?_
  refine lv_icmp_eq (tgt := 822) hx hb dL_law_817 (by decide) (fun c817 => ?_) (fun c817 => ?_)
  · have hf := gt hf c817
    refine lv_iload hx hb dL_law_822 (lv_at hl 1 rfl) ?_
    obtain ⟨j839, hj839, hf⟩ := gj hf
    have J839 : ∀ (V839 : Mem) (H : Heap) (locs : List Loc) (ls : Array Slot), j839 V839 = some Vz → In E ad V839 s H locs → lv_has ls 9 [(0, .ref b0), (1, .ref (ad 248)), (2, .ref (ad 253)), (3, .ref (ad 265)), (4, .int x4_23)] → W p l e room_1 s m #[Value.ref b0] below meth c H locs (cells + 1) (slots + 6) Q (F0 m 839 ls []) := by
      intro V839 H locs ls hf hI hl
      rw [hj839] at hf
      dsimp only at hf
      refine lv_goto (tgt := 3519) hx hb dL_law_839 (by decide) ?_
      cases hf
      refine x_wid (c2 := cells + 20) (s2 := slots + 1374) (by omega) (by omega) ?_
      exact kk _ _ _ hI (lv_sub hl [0, 1, 2, 3, 4] rfl)
    refine lv_if_ne (tgt := 839) hx hb dL_law_824 (by decide) (fun c824 => ?_) (fun c824 => ?_)
    · have hf := gf hf c824
      exact J839 _ _ _ _ hf hI (lv_sub hl [2, 3, 4, 5, 6] rfl)
    · have hf := gt hf c824
      refine lv_aload_n hx hb dL_law_827 rfl (lv_at hl 5 rfl) ?_
      refine lv_iconst (v := 0) hx hb dL_law_828 rfl ?_
      refine r_lald hC hI dL_law_829 ?_
      refine lv_iload hx hb dL_law_830 (lv_at hl 0 rfl) ?_
      refine lv_i2l hx hb dL_law_832 rfl ?_
      refine W.lcmp hx hb dL_law_833 ?_
      refine lv_if_eq (tgt := 839) hx hb dL_law_834 (by decide) (fun c834 => ?_) (fun c834 => ?_)
      · have hf := gt hf c834
        exact J839 _ _ _ _ hf hI (lv_sub hl [2, 3, 4, 5, 6] rfl)
      · have hf := gf hf c834
        refine lv_iconst (v := 0) hx hb dL_law_837 rfl ?_
        cases hf
  · have hf := gf hf c817
    refine lv_iconst (v := 0) hx hb dL_law_820 rfl ?_
    cases hf

def f_law_C8 (xs : Nat → Int32) (N : Nat) (V : Mem) (x4_23 : Int32) : Option Mem :=
  if ib (x4_23 + 1) N = true then
    if ib (x4_23 + 2) N = true then
      bd (f_L_reset V (xs (x4_23 + 1).toNatClampNeg) (xs (x4_23 + 2).toNatClampNeg)) fun r856 V856 =>
      if ib (x4_23 + 1) N = true then
        if ib (x4_23 + 2) N = true then
          bd (f_X10_reset V856 (xs (x4_23 + 1).toNatClampNeg) (xs (x4_23 + 2).toNatClampNeg)) fun r874 V874 =>
          bd (f_X10_thrown V874) fun r880 V880 =>
          if r880 = r856 then
            jn (α := Mem → Option Mem) (fun j907 =>
              if r856 = 0 then
                if (lg_cmp ((V880 265 0).toInt64) ((r874).toInt64)) = 0 then
                  j907 V880
                else
                  none
              else
                j907 V880
            ) (fun (V907 : Mem) =>
              some V907
            )
          else
            none
        else none
      else none
    else none
  else none
set_option maxRecDepth 100000 in
set_option maxHeartbeats 4000000 in
theorem lc_8 {p : Program} {l : Launch} {e : Env} {s : State} {m : MethodId} {below : List Frame} {meth : Method} {c : Code} {H : Heap} {locs : List Loc} {cells slots : Nat} {Q : State → Prop} {E : En} {ad : Nat → Nat} {V Vz : Mem} {ls : Array Slot} {xs : Nat → Int32} {N b0 : Nat} {x4_23 : Int32} (hT : l.stackTraces = false) (hS : SF E) (hFr : Fr E) (hX : Sc E s b0 N xs) (hC : Cx p s m #[Value.ref b0] c meth E "LetterRepositoryLaw" cL_law 9 (some .boolean)) (hf : f_law_C8 xs N V x4_23 = some Vz) (hI : In E ad V s H locs) (hl : lv_has ls 9 [(0, .ref b0), (1, .ref (ad 248)), (2, .ref (ad 253)), (3, .ref (ad 265)), (4, .int x4_23)]) (hc1 : cells + 20 ≤ 601024) (hc2 : slots + 1374 ≤ 7293034) (kk : ∀ (H : Heap) (locs : List Loc) (ls : Array Slot), In E ad Vz s H locs → lv_has ls 9 [(0, .ref b0), (1, .ref (ad 248)), (2, .ref (ad 253)), (3, .ref (ad 265)), (4, .int x4_23)] → W p l e room_1 s m #[Value.ref b0] below meth c H locs (cells + 20) (slots + 1374) Q (F0 m 3519 ls [])) : W p l e room_1 s m #[Value.ref b0] below meth c H locs cells slots Q (F0 m 842 ls []) := by
  have hx := hC.1
  have hb := hC.2.1
  unfold f_law_C8 at hf
  refine lv_aload_n hx hb dL_law_842 rfl (lv_at hl 1 rfl) ?_
  refine lv_aload_n hx hb dL_law_843 rfl (lv_at hl 0 rfl) ?_
  refine lv_iload hx hb dL_law_844 (lv_at hl 4 rfl) ?_
  refine lv_iconst (v := 1) hx hb dL_law_846 rfl ?_
  refine lv_iadd hx hb dL_law_847 ?_
  obtain ⟨h848, hf⟩ := gi hf
  refine r_scr hC hI hX (ib_in h848) dL_law_848 ?_
  refine lv_aload_n hx hb dL_law_849 rfl (lv_at hl 0 rfl) ?_
  refine lv_iload hx hb dL_law_850 (lv_at hl 4 rfl) ?_
  refine lv_iconst (v := 2) hx hb dL_law_852 rfl ?_
  refine lv_iadd hx hb dL_law_853 ?_
  obtain ⟨h854, hf⟩ := gi hf
  refine r_scr hC hI hX (ib_in h854) dL_law_854 ?_
  refine lv_aload_n hx hb dL_law_855 rfl (lv_at hl 3 rfl) ?_
  obtain ⟨r856, V856, q856, hf⟩ := gbd hf
  refine kl_L_reset hS hT hC hI hl.1 q856 tw_4_71 ⟨Nat.le_of_ble_eq_true rfl, Nat.le_of_ble_eq_true rfl⟩ ⟨by show cells + 1 ≤ 601024; omega, by show slots + 6 ≤ 7293034; omega⟩ (Nat.le_of_ble_eq_true rfl) dL_law_856 (fun H locs hI => ?_)
  refine lv_istore (lv' := [(5, .int r856), (0, .ref b0), (1, .ref (ad 248)), (2, .ref (ad 253)), (3, .ref (ad 265)), (4, .int x4_23)]) hx hb dL_law_859 hl (Nat.lt_of_lt_of_eq (by decide) rfl) rfl (fun ls hl => ?_)
  refine lv_aload_n hx hb dL_law_861 rfl (lv_at hl 3 rfl) ?_
  refine lv_aload_n hx hb dL_law_862 rfl (lv_at hl 1 rfl) ?_
  refine lv_iload hx hb dL_law_863 (lv_at hl 5 rfl) ?_
  refine lv_iconst (v := 1) hx hb dL_law_865 rfl ?_
  refine lv_iadd hx hb dL_law_866 ?_
  obtain ⟨h867, hf⟩ := gi hf
  refine r_scr hC hI hX (ib_in h867) dL_law_867 ?_
  refine lv_aload_n hx hb dL_law_868 rfl (lv_at hl 1 rfl) ?_
  refine lv_iload hx hb dL_law_869 (lv_at hl 5 rfl) ?_
  refine lv_iconst (v := 2) hx hb dL_law_871 rfl ?_
  refine lv_iadd hx hb dL_law_872 ?_
  obtain ⟨h873, hf⟩ := gi hf
  refine r_scr hC hI hX (ib_in h873) dL_law_873 ?_
  obtain ⟨r874, V874, q874, hf⟩ := gbd hf
  refine k_X10_reset hC hI hl.1 q874 tw_8_173 ⟨Nat.le_of_ble_eq_true rfl, Nat.le_of_ble_eq_true rfl⟩ ⟨by show cells + 1 ≤ 601024; omega, by show slots + 6 ≤ 7293034; omega⟩ (Nat.le_of_ble_eq_true rfl) dL_law_874 (fun H locs hI => ?_)
  refine lv_istore (lv' := [(6, .int r874), (5, .int r856), (0, .ref b0), (1, .ref (ad 248)), (2, .ref (ad 253)), (3, .ref (ad 265)), (4, .int x4_23)]) hx hb dL_law_877 hl (Nat.lt_of_lt_of_eq (by decide) rfl) rfl (fun ls hl => ?_)
  refine lv_aload_n hx hb dL_law_879 rfl (lv_at hl 4 rfl) ?_
  obtain ⟨r880, V880, q880, hf⟩ := gbd hf
  refine k_X10_thrown hC hI hl.1 q880 tw_8_17 ⟨Nat.le_of_ble_eq_true rfl, Nat.le_of_ble_eq_true rfl⟩ ⟨by show cells + 1 ≤ 601024; omega, by show slots + 6 ≤ 7293034; omega⟩ (Nat.le_of_ble_eq_true rfl) dL_law_880 (fun H locs hI => ?_)
  refine lv_iload hx hb dL_law_883 (lv_at hl 1 rfl) ?_
  refine lv_icmp_eq (tgt := 890) hx hb dL_law_885 (by decide) (fun c885 => ?_) (fun c885 => ?_)
  · have hf := gt hf c885
    refine lv_iload hx hb dL_law_890 (lv_at hl 1 rfl) ?_
    obtain ⟨j907, hj907, hf⟩ := gj hf
    have J907 : ∀ (V907 : Mem) (H : Heap) (locs : List Loc) (ls : Array Slot), j907 V907 = some Vz → In E ad V907 s H locs → lv_has ls 9 [(0, .ref b0), (1, .ref (ad 248)), (2, .ref (ad 253)), (3, .ref (ad 265)), (4, .int x4_23)] → W p l e room_1 s m #[Value.ref b0] below meth c H locs (cells + 1) (slots + 6) Q (F0 m 907 ls []) := by
      intro V907 H locs ls hf hI hl
      rw [hj907] at hf
      dsimp only at hf
      refine lv_goto (tgt := 3519) hx hb dL_law_907 (by decide) ?_
      cases hf
      refine x_wid (c2 := cells + 20) (s2 := slots + 1374) (by omega) (by omega) ?_
      exact kk _ _ _ hI (lv_sub hl [0, 1, 2, 3, 4] rfl)
    refine lv_if_ne (tgt := 907) hx hb dL_law_892 (by decide) (fun c892 => ?_) (fun c892 => ?_)
    · have hf := gf hf c892
      exact J907 _ _ _ _ hf hI (lv_sub hl [2, 3, 4, 5, 6] rfl)
    · have hf := gt hf c892
      refine lv_aload_n hx hb dL_law_895 rfl (lv_at hl 5 rfl) ?_
      refine lv_iconst (v := 0) hx hb dL_law_896 rfl ?_
      refine r_lald hC hI dL_law_897 ?_
      refine lv_iload hx hb dL_law_898 (lv_at hl 0 rfl) ?_
      refine lv_i2l hx hb dL_law_900 rfl ?_
      refine W.lcmp hx hb dL_law_901 ?_
      refine lv_if_eq (tgt := 907) hx hb dL_law_902 (by decide) (fun c902 => ?_) (fun c902 => ?_)
      · have hf := gt hf c902
        exact J907 _ _ _ _ hf hI (lv_sub hl [2, 3, 4, 5, 6] rfl)
      · have hf := gf hf c902
        refine lv_iconst (v := 0) hx hb dL_law_905 rfl ?_
        cases hf
  · have hf := gf hf c885
    refine lv_iconst (v := 0) hx hb dL_law_888 rfl ?_
    cases hf

def f_law_C9 (xs : Nat → Int32) (N : Nat) (V : Mem) (x4_23 : Int32) : Option Mem :=
  if ib (x4_23 + 1) N = true then
    if ib (x4_23 + 2) N = true then
      bd (f_L_addTag V ((((xs (x4_23 + 1).toNatClampNeg) : Int32).toUInt32 % 65536).toInt32) (xs (x4_23 + 2).toNatClampNeg)) fun r925 V925 =>
      if ib (x4_23 + 1) N = true then
        if ib (x4_23 + 2) N = true then
          bd (f_X10_addTag V925 ((((xs (x4_23 + 1).toNatClampNeg) : Int32).toUInt32 % 65536).toInt32) (xs (x4_23 + 2).toNatClampNeg)) fun r944 V944 =>
          bd (f_X10_thrown V944) fun r950 V950 =>
          if r950 = r925 then
            jn (α := Mem → Option Mem) (fun j977 =>
              if r925 = 0 then
                if (lg_cmp ((V950 265 0).toInt64) ((r944).toInt64)) = 0 then
                  j977 V950
                else
                  none
              else
                j977 V950
            ) (fun (V977 : Mem) =>
              some V977
            )
          else
            none
        else none
      else none
    else none
  else none
set_option maxRecDepth 100000 in
set_option maxHeartbeats 4000000 in
theorem lc_9 {p : Program} {l : Launch} {e : Env} {s : State} {m : MethodId} {below : List Frame} {meth : Method} {c : Code} {H : Heap} {locs : List Loc} {cells slots : Nat} {Q : State → Prop} {E : En} {ad : Nat → Nat} {V Vz : Mem} {ls : Array Slot} {xs : Nat → Int32} {N b0 : Nat} {x4_23 : Int32} (hT : l.stackTraces = false) (hS : SF E) (hFr : Fr E) (hX : Sc E s b0 N xs) (hC : Cx p s m #[Value.ref b0] c meth E "LetterRepositoryLaw" cL_law 9 (some .boolean)) (hf : f_law_C9 xs N V x4_23 = some Vz) (hI : In E ad V s H locs) (hl : lv_has ls 9 [(0, .ref b0), (1, .ref (ad 248)), (2, .ref (ad 253)), (3, .ref (ad 265)), (4, .int x4_23)]) (hc1 : cells + 20 ≤ 601024) (hc2 : slots + 1374 ≤ 7293034) (kk : ∀ (H : Heap) (locs : List Loc) (ls : Array Slot), In E ad Vz s H locs → lv_has ls 9 [(0, .ref b0), (1, .ref (ad 248)), (2, .ref (ad 253)), (3, .ref (ad 265)), (4, .int x4_23)] → W p l e room_1 s m #[Value.ref b0] below meth c H locs (cells + 20) (slots + 1374) Q (F0 m 3519 ls [])) : W p l e room_1 s m #[Value.ref b0] below meth c H locs cells slots Q (F0 m 910 ls []) := by
  have hx := hC.1
  have hb := hC.2.1
  unfold f_law_C9 at hf
  refine lv_aload_n hx hb dL_law_910 rfl (lv_at hl 1 rfl) ?_
  refine lv_aload_n hx hb dL_law_911 rfl (lv_at hl 0 rfl) ?_
  refine lv_iload hx hb dL_law_912 (lv_at hl 4 rfl) ?_
  refine lv_iconst (v := 1) hx hb dL_law_914 rfl ?_
  refine lv_iadd hx hb dL_law_915 ?_
  obtain ⟨h916, hf⟩ := gi hf
  refine r_scr hC hI hX (ib_in h916) dL_law_916 ?_
  refine lv_i2c hx hb dL_law_917 rfl ?_
  refine lv_aload_n hx hb dL_law_918 rfl (lv_at hl 0 rfl) ?_
  refine lv_iload hx hb dL_law_919 (lv_at hl 4 rfl) ?_
  refine lv_iconst (v := 2) hx hb dL_law_921 rfl ?_
  refine lv_iadd hx hb dL_law_922 ?_
  obtain ⟨h923, hf⟩ := gi hf
  refine r_scr hC hI hX (ib_in h923) dL_law_923 ?_
  refine lv_aload_n hx hb dL_law_924 rfl (lv_at hl 3 rfl) ?_
  obtain ⟨r925, V925, q925, hf⟩ := gbd hf
  refine kl_L_addTag hS hT hC hI hl.1 q925 tw_4_86 ⟨Nat.le_of_ble_eq_true rfl, Nat.le_of_ble_eq_true rfl⟩ ⟨by show cells + 1 ≤ 601024; omega, by show slots + 6 ≤ 7293034; omega⟩ (Nat.le_of_ble_eq_true rfl) dL_law_925 (fun H locs hI => ?_)
  refine lv_istore (lv' := [(5, .int r925), (0, .ref b0), (1, .ref (ad 248)), (2, .ref (ad 253)), (3, .ref (ad 265)), (4, .int x4_23)]) hx hb dL_law_928 hl (Nat.lt_of_lt_of_eq (by decide) rfl) rfl (fun ls hl => ?_)
  refine lv_aload_n hx hb dL_law_930 rfl (lv_at hl 3 rfl) ?_
  refine lv_aload_n hx hb dL_law_931 rfl (lv_at hl 1 rfl) ?_
  refine lv_iload hx hb dL_law_932 (lv_at hl 5 rfl) ?_
  refine lv_iconst (v := 1) hx hb dL_law_934 rfl ?_
  refine lv_iadd hx hb dL_law_935 ?_
  obtain ⟨h936, hf⟩ := gi hf
  refine r_scr hC hI hX (ib_in h936) dL_law_936 ?_
  refine lv_i2c hx hb dL_law_937 rfl ?_
  refine lv_aload_n hx hb dL_law_938 rfl (lv_at hl 1 rfl) ?_
  refine lv_iload hx hb dL_law_939 (lv_at hl 5 rfl) ?_
  refine lv_iconst (v := 2) hx hb dL_law_941 rfl ?_
  refine lv_iadd hx hb dL_law_942 ?_
  obtain ⟨h943, hf⟩ := gi hf
  refine r_scr hC hI hX (ib_in h943) dL_law_943 ?_
  obtain ⟨r944, V944, q944, hf⟩ := gbd hf
  refine k_X10_addTag hC hI hl.1 q944 tw_8_181 ⟨Nat.le_of_ble_eq_true rfl, Nat.le_of_ble_eq_true rfl⟩ ⟨by show cells + 1 ≤ 601024; omega, by show slots + 6 ≤ 7293034; omega⟩ (Nat.le_of_ble_eq_true rfl) dL_law_944 (fun H locs hI => ?_)
  refine lv_istore (lv' := [(6, .int r944), (5, .int r925), (0, .ref b0), (1, .ref (ad 248)), (2, .ref (ad 253)), (3, .ref (ad 265)), (4, .int x4_23)]) hx hb dL_law_947 hl (Nat.lt_of_lt_of_eq (by decide) rfl) rfl (fun ls hl => ?_)
  refine lv_aload_n hx hb dL_law_949 rfl (lv_at hl 4 rfl) ?_
  obtain ⟨r950, V950, q950, hf⟩ := gbd hf
  refine k_X10_thrown hC hI hl.1 q950 tw_8_17 ⟨Nat.le_of_ble_eq_true rfl, Nat.le_of_ble_eq_true rfl⟩ ⟨by show cells + 1 ≤ 601024; omega, by show slots + 6 ≤ 7293034; omega⟩ (Nat.le_of_ble_eq_true rfl) dL_law_950 (fun H locs hI => ?_)
  refine lv_iload hx hb dL_law_953 (lv_at hl 1 rfl) ?_
  refine lv_icmp_eq (tgt := 960) hx hb dL_law_955 (by decide) (fun c955 => ?_) (fun c955 => ?_)
  · have hf := gt hf c955
    refine lv_iload hx hb dL_law_960 (lv_at hl 1 rfl) ?_
    obtain ⟨j977, hj977, hf⟩ := gj hf
    have J977 : ∀ (V977 : Mem) (H : Heap) (locs : List Loc) (ls : Array Slot), j977 V977 = some Vz → In E ad V977 s H locs → lv_has ls 9 [(0, .ref b0), (1, .ref (ad 248)), (2, .ref (ad 253)), (3, .ref (ad 265)), (4, .int x4_23)] → W p l e room_1 s m #[Value.ref b0] below meth c H locs (cells + 1) (slots + 6) Q (F0 m 977 ls []) := by
      intro V977 H locs ls hf hI hl
      rw [hj977] at hf
      dsimp only at hf
      refine lv_goto (tgt := 3519) hx hb dL_law_977 (by decide) ?_
      cases hf
      refine x_wid (c2 := cells + 20) (s2 := slots + 1374) (by omega) (by omega) ?_
      exact kk _ _ _ hI (lv_sub hl [0, 1, 2, 3, 4] rfl)
    refine lv_if_ne (tgt := 977) hx hb dL_law_962 (by decide) (fun c962 => ?_) (fun c962 => ?_)
    · have hf := gf hf c962
      exact J977 _ _ _ _ hf hI (lv_sub hl [2, 3, 4, 5, 6] rfl)
    · have hf := gt hf c962
      refine lv_aload_n hx hb dL_law_965 rfl (lv_at hl 5 rfl) ?_
      refine lv_iconst (v := 0) hx hb dL_law_966 rfl ?_
      refine r_lald hC hI dL_law_967 ?_
      refine lv_iload hx hb dL_law_968 (lv_at hl 0 rfl) ?_
      refine lv_i2l hx hb dL_law_970 rfl ?_
      refine W.lcmp hx hb dL_law_971 ?_
      refine lv_if_eq (tgt := 977) hx hb dL_law_972 (by decide) (fun c972 => ?_) (fun c972 => ?_)
      · have hf := gt hf c972
        exact J977 _ _ _ _ hf hI (lv_sub hl [2, 3, 4, 5, 6] rfl)
      · have hf := gf hf c972
        refine lv_iconst (v := 0) hx hb dL_law_975 rfl ?_
        cases hf
  · have hf := gf hf c955
    refine lv_iconst (v := 0) hx hb dL_law_958 rfl ?_
    cases hf

def f_law_C10 (xs : Nat → Int32) (N : Nat) (V : Mem) (x4_23 : Int32) : Option Mem :=
  if ib (x4_23 + 1) N = true then
    bd (f_L_removeTag V ((((xs (x4_23 + 1).toNatClampNeg) : Int32).toUInt32 % 65536).toInt32)) fun r989 V989 =>
    if ib (x4_23 + 1) N = true then
      bd (f_X10_removeTag V989 ((((xs (x4_23 + 1).toNatClampNeg) : Int32).toUInt32 % 65536).toInt32)) fun r1002 V1002 =>
      bd (f_X10_thrown V1002) fun r1008 V1008 =>
      if r1008 = r989 then
        jn (α := Mem → Option Mem) (fun j1035 =>
          if r989 = 0 then
            if (lg_cmp ((V1008 265 0).toInt64) ((r1002).toInt64)) = 0 then
              j1035 V1008
            else
              none
          else
            j1035 V1008
        ) (fun (V1035 : Mem) =>
          some V1035
        )
      else
        none
    else none
  else none
set_option maxRecDepth 100000 in
set_option maxHeartbeats 4000000 in
theorem lc_10 {p : Program} {l : Launch} {e : Env} {s : State} {m : MethodId} {below : List Frame} {meth : Method} {c : Code} {H : Heap} {locs : List Loc} {cells slots : Nat} {Q : State → Prop} {E : En} {ad : Nat → Nat} {V Vz : Mem} {ls : Array Slot} {xs : Nat → Int32} {N b0 : Nat} {x4_23 : Int32} (hT : l.stackTraces = false) (hS : SF E) (hFr : Fr E) (hX : Sc E s b0 N xs) (hC : Cx p s m #[Value.ref b0] c meth E "LetterRepositoryLaw" cL_law 9 (some .boolean)) (hf : f_law_C10 xs N V x4_23 = some Vz) (hI : In E ad V s H locs) (hl : lv_has ls 9 [(0, .ref b0), (1, .ref (ad 248)), (2, .ref (ad 253)), (3, .ref (ad 265)), (4, .int x4_23)]) (hc1 : cells + 20 ≤ 601024) (hc2 : slots + 1374 ≤ 7293034) (kk : ∀ (H : Heap) (locs : List Loc) (ls : Array Slot), In E ad Vz s H locs → lv_has ls 9 [(0, .ref b0), (1, .ref (ad 248)), (2, .ref (ad 253)), (3, .ref (ad 265)), (4, .int x4_23)] → W p l e room_1 s m #[Value.ref b0] below meth c H locs (cells + 20) (slots + 1374) Q (F0 m 3519 ls [])) : W p l e room_1 s m #[Value.ref b0] below meth c H locs cells slots Q (F0 m 980 ls []) := by
  have hx := hC.1
  have hb := hC.2.1
  unfold f_law_C10 at hf
  refine lv_aload_n hx hb dL_law_980 rfl (lv_at hl 1 rfl) ?_
  refine lv_aload_n hx hb dL_law_981 rfl (lv_at hl 0 rfl) ?_
  refine lv_iload hx hb dL_law_982 (lv_at hl 4 rfl) ?_
  refine lv_iconst (v := 1) hx hb dL_law_984 rfl ?_
  refine lv_iadd hx hb dL_law_985 ?_
  obtain ⟨h986, hf⟩ := gi hf
  refine r_scr hC hI hX (ib_in h986) dL_law_986 ?_
  refine lv_i2c hx hb dL_law_987 rfl ?_
  refine lv_aload_n hx hb dL_law_988 rfl (lv_at hl 3 rfl) ?_
  obtain ⟨r989, V989, q989, hf⟩ := gbd hf
  refine kl_L_removeTag hS hT hC hI hl.1 q989 tw_4_105 ⟨Nat.le_of_ble_eq_true rfl, Nat.le_of_ble_eq_true rfl⟩ ⟨by show cells + 1 ≤ 601024; omega, by show slots + 6 ≤ 7293034; omega⟩ (Nat.le_of_ble_eq_true rfl) dL_law_989 (fun H locs hI => ?_)
  refine lv_istore (lv' := [(5, .int r989), (0, .ref b0), (1, .ref (ad 248)), (2, .ref (ad 253)), (3, .ref (ad 265)), (4, .int x4_23)]) hx hb dL_law_992 hl (Nat.lt_of_lt_of_eq (by decide) rfl) rfl (fun ls hl => ?_)
  refine lv_aload_n hx hb dL_law_994 rfl (lv_at hl 3 rfl) ?_
  refine lv_aload_n hx hb dL_law_995 rfl (lv_at hl 1 rfl) ?_
  refine lv_iload hx hb dL_law_996 (lv_at hl 5 rfl) ?_
  refine lv_iconst (v := 1) hx hb dL_law_998 rfl ?_
  refine lv_iadd hx hb dL_law_999 ?_
  obtain ⟨h1000, hf⟩ := gi hf
  refine r_scr hC hI hX (ib_in h1000) dL_law_1000 ?_
  refine lv_i2c hx hb dL_law_1001 rfl ?_
  obtain ⟨r1002, V1002, q1002, hf⟩ := gbd hf
  refine k_X10_removeTag hC hI hl.1 q1002 tw_8_195 ⟨Nat.le_of_ble_eq_true rfl, Nat.le_of_ble_eq_true rfl⟩ ⟨by show cells + 1 ≤ 601024; omega, by show slots + 6 ≤ 7293034; omega⟩ (Nat.le_of_ble_eq_true rfl) dL_law_1002 (fun H locs hI => ?_)
  refine lv_istore (lv' := [(6, .int r1002), (5, .int r989), (0, .ref b0), (1, .ref (ad 248)), (2, .ref (ad 253)), (3, .ref (ad 265)), (4, .int x4_23)]) hx hb dL_law_1005 hl (Nat.lt_of_lt_of_eq (by decide) rfl) rfl (fun ls hl => ?_)
  refine lv_aload_n hx hb dL_law_1007 rfl (lv_at hl 4 rfl) ?_
  obtain ⟨r1008, V1008, q1008, hf⟩ := gbd hf
  refine k_X10_thrown hC hI hl.1 q1008 tw_8_17 ⟨Nat.le_of_ble_eq_true rfl, Nat.le_of_ble_eq_true rfl⟩ ⟨by show cells + 1 ≤ 601024; omega, by show slots + 6 ≤ 7293034; omega⟩ (Nat.le_of_ble_eq_true rfl) dL_law_1008 (fun H locs hI => ?_)
  refine lv_iload hx hb dL_law_1011 (lv_at hl 1 rfl) ?_
  refine lv_icmp_eq (tgt := 1018) hx hb dL_law_1013 (by decide) (fun c1013 => ?_) (fun c1013 => ?_)
  · have hf := gt hf c1013
    refine lv_iload hx hb dL_law_1018 (lv_at hl 1 rfl) ?_
    obtain ⟨j1035, hj1035, hf⟩ := gj hf
    have J1035 : ∀ (V1035 : Mem) (H : Heap) (locs : List Loc) (ls : Array Slot), j1035 V1035 = some Vz → In E ad V1035 s H locs → lv_has ls 9 [(0, .ref b0), (1, .ref (ad 248)), (2, .ref (ad 253)), (3, .ref (ad 265)), (4, .int x4_23)] → W p l e room_1 s m #[Value.ref b0] below meth c H locs (cells + 1) (slots + 6) Q (F0 m 1035 ls []) := by
      intro V1035 H locs ls hf hI hl
      rw [hj1035] at hf
      dsimp only at hf
      refine lv_goto (tgt := 3519) hx hb dL_law_1035 (by decide) ?_
      cases hf
      refine x_wid (c2 := cells + 20) (s2 := slots + 1374) (by omega) (by omega) ?_
      exact kk _ _ _ hI (lv_sub hl [0, 1, 2, 3, 4] rfl)
    refine lv_if_ne (tgt := 1035) hx hb dL_law_1020 (by decide) (fun c1020 => ?_) (fun c1020 => ?_)
    · have hf := gf hf c1020
      exact J1035 _ _ _ _ hf hI (lv_sub hl [2, 3, 4, 5, 6] rfl)
    · have hf := gt hf c1020
      refine lv_aload_n hx hb dL_law_1023 rfl (lv_at hl 5 rfl) ?_
      refine lv_iconst (v := 0) hx hb dL_law_1024 rfl ?_
      refine r_lald hC hI dL_law_1025 ?_
      refine lv_iload hx hb dL_law_1026 (lv_at hl 0 rfl) ?_
      refine lv_i2l hx hb dL_law_1028 rfl ?_
      refine W.lcmp hx hb dL_law_1029 ?_
      refine lv_if_eq (tgt := 1035) hx hb dL_law_1030 (by decide) (fun c1030 => ?_) (fun c1030 => ?_)
      · have hf := gt hf c1030
        exact J1035 _ _ _ _ hf hI (lv_sub hl [2, 3, 4, 5, 6] rfl)
      · have hf := gf hf c1030
        refine lv_iconst (v := 0) hx hb dL_law_1033 rfl ?_
        cases hf
  · have hf := gf hf c1013
    refine lv_iconst (v := 0) hx hb dL_law_1016 rfl ?_
    cases hf

def f_law_C11 (xs : Nat → Int32) (N : Nat) (V : Mem) (x4_23 : Int32) : Option Mem :=
  bd (f_X9_archive V) fun r1039 V1039 =>
  bd (f_X10_archive V1039) fun r1043 V1043 =>
  if r1039 = r1043 then
    some V1043
  else
    none
set_option maxRecDepth 100000 in
set_option maxHeartbeats 4000000 in
theorem lc_11 {p : Program} {l : Launch} {e : Env} {s : State} {m : MethodId} {below : List Frame} {meth : Method} {c : Code} {H : Heap} {locs : List Loc} {cells slots : Nat} {Q : State → Prop} {E : En} {ad : Nat → Nat} {V Vz : Mem} {ls : Array Slot} {xs : Nat → Int32} {N b0 : Nat} {x4_23 : Int32} (hT : l.stackTraces = false) (hS : SF E) (hFr : Fr E) (hX : Sc E s b0 N xs) (hC : Cx p s m #[Value.ref b0] c meth E "LetterRepositoryLaw" cL_law 9 (some .boolean)) (hf : f_law_C11 xs N V x4_23 = some Vz) (hI : In E ad V s H locs) (hl : lv_has ls 9 [(0, .ref b0), (1, .ref (ad 248)), (2, .ref (ad 253)), (3, .ref (ad 265)), (4, .int x4_23)]) (hc1 : cells + 20 ≤ 601024) (hc2 : slots + 1374 ≤ 7293034) (kk : ∀ (H : Heap) (locs : List Loc) (ls : Array Slot), In E ad Vz s H locs → lv_has ls 9 [(0, .ref b0), (1, .ref (ad 248)), (2, .ref (ad 253)), (3, .ref (ad 265)), (4, .int x4_23)] → W p l e room_1 s m #[Value.ref b0] below meth c H locs (cells + 20) (slots + 1374) Q (F0 m 3519 ls [])) : W p l e room_1 s m #[Value.ref b0] below meth c H locs cells slots Q (F0 m 1038 ls []) := by
  have hx := hC.1
  have hb := hC.2.1
  unfold f_law_C11 at hf
  refine lv_aload_n hx hb dL_law_1038 rfl (lv_at hl 1 rfl) ?_
  obtain ⟨r1039, V1039, q1039, hf⟩ := gbd hf
  refine k_X9_archive hC hI hl.1 q1039 tw_2_1 ⟨Nat.le_of_ble_eq_true rfl, Nat.le_of_ble_eq_true rfl⟩ ⟨by show cells ≤ 601024; omega, by show slots ≤ 7293034; omega⟩ (Nat.le_of_ble_eq_true rfl) dL_law_1039 (fun H locs hI => ?_)
  refine lv_aload_n hx hb dL_law_1042 rfl (lv_at hl 2 rfl) ?_
  obtain ⟨r1043, V1043, q1043, hf⟩ := gbd hf
  refine k_X10_archive hC hI hl.1 q1043 tw_8_203 ⟨Nat.le_of_ble_eq_true rfl, Nat.le_of_ble_eq_true rfl⟩ ⟨by show cells ≤ 601024; omega, by show slots ≤ 7293034; omega⟩ (Nat.le_of_ble_eq_true rfl) dL_law_1043 (fun H locs hI => ?_)
  refine lv_icmp_eq (tgt := 3519) hx hb dL_law_1046 (by decide) (fun c1046 => ?_) (fun c1046 => ?_)
  · have hf := gt hf c1046
    cases hf
    refine x_wid (c2 := cells + 20) (s2 := slots + 1374) (by omega) (by omega) ?_
    exact kk _ _ _ hI (lv_sub hl [0, 1, 2, 3, 4] rfl)
  · have hf := gf hf c1046
    refine lv_iconst (v := 0) hx hb dL_law_1049 rfl ?_
    cases hf

def f_law_C12 (xs : Nat → Int32) (N : Nat) (V : Mem) (x4_23 : Int32) : Option Mem :=
  bd (f_X9_revisionCount V) fun r1052 V1052 =>
  bd (f_X10_revisionCount V1052) fun r1056 V1056 =>
  if r1052 = r1056 then
    some V1056
  else
    none
set_option maxRecDepth 100000 in
set_option maxHeartbeats 4000000 in
theorem lc_12 {p : Program} {l : Launch} {e : Env} {s : State} {m : MethodId} {below : List Frame} {meth : Method} {c : Code} {H : Heap} {locs : List Loc} {cells slots : Nat} {Q : State → Prop} {E : En} {ad : Nat → Nat} {V Vz : Mem} {ls : Array Slot} {xs : Nat → Int32} {N b0 : Nat} {x4_23 : Int32} (hT : l.stackTraces = false) (hS : SF E) (hFr : Fr E) (hX : Sc E s b0 N xs) (hC : Cx p s m #[Value.ref b0] c meth E "LetterRepositoryLaw" cL_law 9 (some .boolean)) (hf : f_law_C12 xs N V x4_23 = some Vz) (hI : In E ad V s H locs) (hl : lv_has ls 9 [(0, .ref b0), (1, .ref (ad 248)), (2, .ref (ad 253)), (3, .ref (ad 265)), (4, .int x4_23)]) (hc1 : cells + 20 ≤ 601024) (hc2 : slots + 1374 ≤ 7293034) (kk : ∀ (H : Heap) (locs : List Loc) (ls : Array Slot), In E ad Vz s H locs → lv_has ls 9 [(0, .ref b0), (1, .ref (ad 248)), (2, .ref (ad 253)), (3, .ref (ad 265)), (4, .int x4_23)] → W p l e room_1 s m #[Value.ref b0] below meth c H locs (cells + 20) (slots + 1374) Q (F0 m 3519 ls [])) : W p l e room_1 s m #[Value.ref b0] below meth c H locs cells slots Q (F0 m 1051 ls []) := by
  have hx := hC.1
  have hb := hC.2.1
  unfold f_law_C12 at hf
  refine lv_aload_n hx hb dL_law_1051 rfl (lv_at hl 1 rfl) ?_
  obtain ⟨r1052, V1052, q1052, hf⟩ := gbd hf
  refine k_X9_revisionCount hC hI hl.1 q1052 tw_2_90 ⟨Nat.le_of_ble_eq_true rfl, Nat.le_of_ble_eq_true rfl⟩ ⟨by show cells ≤ 601024; omega, by show slots ≤ 7293034; omega⟩ (Nat.le_of_ble_eq_true rfl) dL_law_1052 (fun H locs hI => ?_)
  refine lv_aload_n hx hb dL_law_1055 rfl (lv_at hl 2 rfl) ?_
  obtain ⟨r1056, V1056, q1056, hf⟩ := gbd hf
  refine k_X10_revisionCount hC hI hl.1 q1056 tw_8_215 ⟨Nat.le_of_ble_eq_true rfl, Nat.le_of_ble_eq_true rfl⟩ ⟨by show cells ≤ 601024; omega, by show slots ≤ 7293034; omega⟩ (Nat.le_of_ble_eq_true rfl) dL_law_1056 (fun H locs hI => ?_)
  refine lv_icmp_eq (tgt := 3519) hx hb dL_law_1059 (by decide) (fun c1059 => ?_) (fun c1059 => ?_)
  · have hf := gt hf c1059
    cases hf
    refine x_wid (c2 := cells + 20) (s2 := slots + 1374) (by omega) (by omega) ?_
    exact kk _ _ _ hI (lv_sub hl [0, 1, 2, 3, 4] rfl)
  · have hf := gf hf c1059
    refine lv_iconst (v := 0) hx hb dL_law_1062 rfl ?_
    cases hf

def f_law_C13 (xs : Nat → Int32) (N : Nat) (V : Mem) (x4_23 : Int32) : Option Mem :=
  if ib (x4_23 + 1) N = true then
    bd (f_L_isArchived V (xs (x4_23 + 1).toNatClampNeg)) fun r1072 V1072 =>
    if ib (x4_23 + 1) N = true then
      bd (f_X10_isArchived V1072 (xs (x4_23 + 1).toNatClampNeg)) fun r1084 V1084 =>
      bd (f_X10_thrown V1084) fun r1090 V1090 =>
      if r1090 = r1072 then
        jn (α := Mem → Option Mem) (fun j1124 =>
          if r1072 = 0 then
            jn (α := Mem → Int64 → Option Mem) (fun j1118 =>
              if r1084 = 0 then
                j1118 V1090 0
              else
                j1118 V1090 1
            ) (fun (V1118 : Mem) (s0_1118 : Int64) =>
              if (lg_cmp ((V1090 265 0).toInt64) s0_1118) = 0 then
                j1124 V1118
              else
                none
            )
          else
            j1124 V1090
        ) (fun (V1124 : Mem) =>
          some V1124
        )
      else
        none
    else none
  else none
set_option maxRecDepth 100000 in
set_option maxHeartbeats 4000000 in
theorem lc_13 {p : Program} {l : Launch} {e : Env} {s : State} {m : MethodId} {below : List Frame} {meth : Method} {c : Code} {H : Heap} {locs : List Loc} {cells slots : Nat} {Q : State → Prop} {E : En} {ad : Nat → Nat} {V Vz : Mem} {ls : Array Slot} {xs : Nat → Int32} {N b0 : Nat} {x4_23 : Int32} (hT : l.stackTraces = false) (hS : SF E) (hFr : Fr E) (hX : Sc E s b0 N xs) (hC : Cx p s m #[Value.ref b0] c meth E "LetterRepositoryLaw" cL_law 9 (some .boolean)) (hf : f_law_C13 xs N V x4_23 = some Vz) (hI : In E ad V s H locs) (hl : lv_has ls 9 [(0, .ref b0), (1, .ref (ad 248)), (2, .ref (ad 253)), (3, .ref (ad 265)), (4, .int x4_23)]) (hc1 : cells + 20 ≤ 601024) (hc2 : slots + 1374 ≤ 7293034) (kk : ∀ (H : Heap) (locs : List Loc) (ls : Array Slot), In E ad Vz s H locs → lv_has ls 9 [(0, .ref b0), (1, .ref (ad 248)), (2, .ref (ad 253)), (3, .ref (ad 265)), (4, .int x4_23)] → W p l e room_1 s m #[Value.ref b0] below meth c H locs (cells + 20) (slots + 1374) Q (F0 m 3519 ls [])) : W p l e room_1 s m #[Value.ref b0] below meth c H locs cells slots Q (F0 m 1064 ls []) := by
  have hx := hC.1
  have hb := hC.2.1
  unfold f_law_C13 at hf
  refine lv_aload_n hx hb dL_law_1064 rfl (lv_at hl 1 rfl) ?_
  refine lv_aload_n hx hb dL_law_1065 rfl (lv_at hl 0 rfl) ?_
  refine lv_iload hx hb dL_law_1066 (lv_at hl 4 rfl) ?_
  refine lv_iconst (v := 1) hx hb dL_law_1068 rfl ?_
  refine lv_iadd hx hb dL_law_1069 ?_
  obtain ⟨h1070, hf⟩ := gi hf
  refine r_scr hC hI hX (ib_in h1070) dL_law_1070 ?_
  refine lv_aload_n hx hb dL_law_1071 rfl (lv_at hl 3 rfl) ?_
  obtain ⟨r1072, V1072, q1072, hf⟩ := gbd hf
  refine kl_L_isArchived hS hT hC hI hl.1 q1072 tw_4_120 ⟨Nat.le_of_ble_eq_true rfl, Nat.le_of_ble_eq_true rfl⟩ ⟨by show cells + 1 ≤ 601024; omega, by show slots + 6 ≤ 7293034; omega⟩ (Nat.le_of_ble_eq_true rfl) dL_law_1072 (fun H locs hI => ?_)
  refine lv_istore (lv' := [(5, .int r1072), (0, .ref b0), (1, .ref (ad 248)), (2, .ref (ad 253)), (3, .ref (ad 265)), (4, .int x4_23)]) hx hb dL_law_1075 hl (Nat.lt_of_lt_of_eq (by decide) rfl) rfl (fun ls hl => ?_)
  refine lv_aload_n hx hb dL_law_1077 rfl (lv_at hl 3 rfl) ?_
  refine lv_aload_n hx hb dL_law_1078 rfl (lv_at hl 1 rfl) ?_
  refine lv_iload hx hb dL_law_1079 (lv_at hl 5 rfl) ?_
  refine lv_iconst (v := 1) hx hb dL_law_1081 rfl ?_
  refine lv_iadd hx hb dL_law_1082 ?_
  obtain ⟨h1083, hf⟩ := gi hf
  refine r_scr hC hI hX (ib_in h1083) dL_law_1083 ?_
  obtain ⟨r1084, V1084, q1084, hf⟩ := gbd hf
  refine k_X10_isArchived hC hI hl.1 q1084 tw_8_219 ⟨Nat.le_of_ble_eq_true rfl, Nat.le_of_ble_eq_true rfl⟩ ⟨by show cells + 1 ≤ 601024; omega, by show slots + 6 ≤ 7293034; omega⟩ (Nat.le_of_ble_eq_true rfl) dL_law_1084 (fun H locs hI => ?_)
  refine lv_istore (lv' := [(6, .int r1084), (5, .int r1072), (0, .ref b0), (1, .ref (ad 248)), (2, .ref (ad 253)), (3, .ref (ad 265)), (4, .int x4_23)]) hx hb dL_law_1087 hl (Nat.lt_of_lt_of_eq (by decide) rfl) rfl (fun ls hl => ?_)
  refine lv_aload_n hx hb dL_law_1089 rfl (lv_at hl 4 rfl) ?_
  obtain ⟨r1090, V1090, q1090, hf⟩ := gbd hf
  refine k_X10_thrown hC hI hl.1 q1090 tw_8_17 ⟨Nat.le_of_ble_eq_true rfl, Nat.le_of_ble_eq_true rfl⟩ ⟨by show cells + 1 ≤ 601024; omega, by show slots + 6 ≤ 7293034; omega⟩ (Nat.le_of_ble_eq_true rfl) dL_law_1090 (fun H locs hI => ?_)
  refine lv_iload hx hb dL_law_1093 (lv_at hl 1 rfl) ?_
  refine lv_icmp_eq (tgt := 1100) hx hb dL_law_1095 (by decide) (fun c1095 => ?_) (fun c1095 => ?_)
  · have hf := gt hf c1095
    refine lv_iload hx hb dL_law_1100 (lv_at hl 1 rfl) ?_
    obtain ⟨j1124, hj1124, hf⟩ := gj hf
    have J1124 : ∀ (V1124 : Mem) (H : Heap) (locs : List Loc) (ls : Array Slot), j1124 V1124 = some Vz → In E ad V1124 s H locs → lv_has ls 9 [(0, .ref b0), (1, .ref (ad 248)), (2, .ref (ad 253)), (3, .ref (ad 265)), (4, .int x4_23)] → W p l e room_1 s m #[Value.ref b0] below meth c H locs (cells + 1) (slots + 6) Q (F0 m 1124 ls []) := by
      intro V1124 H locs ls hf hI hl
      rw [hj1124] at hf
      dsimp only at hf
      refine lv_goto (tgt := 3519) hx hb dL_law_1124 (by decide) ?_
      cases hf
      refine x_wid (c2 := cells + 20) (s2 := slots + 1374) (by omega) (by omega) ?_
      exact kk _ _ _ hI (lv_sub hl [0, 1, 2, 3, 4] rfl)
    refine lv_if_ne (tgt := 1124) hx hb dL_law_1102 (by decide) (fun c1102 => ?_) (fun c1102 => ?_)
    · have hf := gf hf c1102
      exact J1124 _ _ _ _ hf hI (lv_sub hl [2, 3, 4, 5, 6] rfl)
    · have hf := gt hf c1102
      refine lv_aload_n hx hb dL_law_1105 rfl (lv_at hl 5 rfl) ?_
      refine lv_iconst (v := 0) hx hb dL_law_1106 rfl ?_
      refine r_lald hC hI dL_law_1107 ?_
      refine lv_iload hx hb dL_law_1108 (lv_at hl 0 rfl) ?_
      obtain ⟨j1118, hj1118, hf⟩ := gj hf
      have J1118 : ∀ (V1118 : Mem) (s0_1118 : Int64) (H : Heap) (locs : List Loc) (ls : Array Slot), j1118 V1118 s0_1118 = some Vz → In E ad V1118 s H locs → lv_has ls 9 [(0, .ref b0), (1, .ref (ad 248)), (2, .ref (ad 253)), (3, .ref (ad 265)), (4, .int x4_23)] → W p l e room_1 s m #[Value.ref b0] below meth c H locs (cells + 1) (slots + 6) Q (F0 m 1118 ls [.long s0_1118, .long ((V1090 265 0).toInt64)]) := by
        intro V1118 s0_1118 H locs ls hf hI hl
        rw [hj1118] at hf
        dsimp only at hf
        refine W.lcmp hx hb dL_law_1118 ?_
        refine lv_if_eq (tgt := 1124) hx hb dL_law_1119 (by decide) (fun c1119 => ?_) (fun c1119 => ?_)
        · have hf := gt hf c1119
          exact J1124 _ _ _ _ hf hI (lv_sub hl [0, 1, 2, 3, 4] rfl)
        · have hf := gf hf c1119
          refine lv_iconst (v := 0) hx hb dL_law_1122 rfl ?_
          cases hf
      refine lv_if_eq (tgt := 1117) hx hb dL_law_1110 (by decide) (fun c1110 => ?_) (fun c1110 => ?_)
      · have hf := gt hf c1110
        refine lv_lconst (v := 0) hx hb dL_law_1117 rfl ?_
        exact J1118 _ _ _ _ _ hf hI (lv_sub hl [2, 3, 4, 5, 6] rfl)
      · have hf := gf hf c1110
        refine lv_lconst (v := 1) hx hb dL_law_1113 rfl ?_
        refine lv_goto (tgt := 1118) hx hb dL_law_1114 (by decide) ?_
        exact J1118 _ _ _ _ _ hf hI (lv_sub hl [2, 3, 4, 5, 6] rfl)
  · have hf := gf hf c1095
    refine lv_iconst (v := 0) hx hb dL_law_1098 rfl ?_
    cases hf

def f_law_C14 (xs : Nat → Int32) (N : Nat) (V : Mem) (x4_23 : Int32) : Option Mem :=
  if ib (x4_23 + 1) N = true then
    bd (f_L_firstParent V (xs (x4_23 + 1).toNatClampNeg)) fun r1135 V1135 =>
    if ib (x4_23 + 1) N = true then
      bd (f_X10_firstParent V1135 (xs (x4_23 + 1).toNatClampNeg)) fun r1147 V1147 =>
      bd (f_X10_thrown V1147) fun r1153 V1153 =>
      if r1153 = r1135 then
        jn (α := Mem → Option Mem) (fun j1180 =>
          if r1135 = 0 then
            if (lg_cmp ((V1153 265 0).toInt64) ((r1147).toInt64)) = 0 then
              j1180 V1153
            else
              none
          else
            j1180 V1153
        ) (fun (V1180 : Mem) =>
          some V1180
        )
      else
        none
    else none
  else none
set_option maxRecDepth 100000 in
set_option maxHeartbeats 4000000 in
theorem lc_14 {p : Program} {l : Launch} {e : Env} {s : State} {m : MethodId} {below : List Frame} {meth : Method} {c : Code} {H : Heap} {locs : List Loc} {cells slots : Nat} {Q : State → Prop} {E : En} {ad : Nat → Nat} {V Vz : Mem} {ls : Array Slot} {xs : Nat → Int32} {N b0 : Nat} {x4_23 : Int32} (hT : l.stackTraces = false) (hS : SF E) (hFr : Fr E) (hX : Sc E s b0 N xs) (hC : Cx p s m #[Value.ref b0] c meth E "LetterRepositoryLaw" cL_law 9 (some .boolean)) (hf : f_law_C14 xs N V x4_23 = some Vz) (hI : In E ad V s H locs) (hl : lv_has ls 9 [(0, .ref b0), (1, .ref (ad 248)), (2, .ref (ad 253)), (3, .ref (ad 265)), (4, .int x4_23)]) (hc1 : cells + 20 ≤ 601024) (hc2 : slots + 1374 ≤ 7293034) (kk : ∀ (H : Heap) (locs : List Loc) (ls : Array Slot), In E ad Vz s H locs → lv_has ls 9 [(0, .ref b0), (1, .ref (ad 248)), (2, .ref (ad 253)), (3, .ref (ad 265)), (4, .int x4_23)] → W p l e room_1 s m #[Value.ref b0] below meth c H locs (cells + 20) (slots + 1374) Q (F0 m 3519 ls [])) : W p l e room_1 s m #[Value.ref b0] below meth c H locs cells slots Q (F0 m 1127 ls []) := by
  have hx := hC.1
  have hb := hC.2.1
  unfold f_law_C14 at hf
  refine lv_aload_n hx hb dL_law_1127 rfl (lv_at hl 1 rfl) ?_
  refine lv_aload_n hx hb dL_law_1128 rfl (lv_at hl 0 rfl) ?_
  refine lv_iload hx hb dL_law_1129 (lv_at hl 4 rfl) ?_
  refine lv_iconst (v := 1) hx hb dL_law_1131 rfl ?_
  refine lv_iadd hx hb dL_law_1132 ?_
  obtain ⟨h1133, hf⟩ := gi hf
  refine r_scr hC hI hX (ib_in h1133) dL_law_1133 ?_
  refine lv_aload_n hx hb dL_law_1134 rfl (lv_at hl 3 rfl) ?_
  obtain ⟨r1135, V1135, q1135, hf⟩ := gbd hf
  refine kl_L_firstParent hS hT hC hI hl.1 q1135 tw_4_134 ⟨Nat.le_of_ble_eq_true rfl, Nat.le_of_ble_eq_true rfl⟩ ⟨by show cells + 2 ≤ 601024; omega, by show slots + 12 ≤ 7293034; omega⟩ (Nat.le_of_ble_eq_true rfl) dL_law_1135 (fun H locs hI => ?_)
  refine lv_istore (lv' := [(5, .int r1135), (0, .ref b0), (1, .ref (ad 248)), (2, .ref (ad 253)), (3, .ref (ad 265)), (4, .int x4_23)]) hx hb dL_law_1138 hl (Nat.lt_of_lt_of_eq (by decide) rfl) rfl (fun ls hl => ?_)
  refine lv_aload_n hx hb dL_law_1140 rfl (lv_at hl 3 rfl) ?_
  refine lv_aload_n hx hb dL_law_1141 rfl (lv_at hl 1 rfl) ?_
  refine lv_iload hx hb dL_law_1142 (lv_at hl 5 rfl) ?_
  refine lv_iconst (v := 1) hx hb dL_law_1144 rfl ?_
  refine lv_iadd hx hb dL_law_1145 ?_
  obtain ⟨h1146, hf⟩ := gi hf
  refine r_scr hC hI hX (ib_in h1146) dL_law_1146 ?_
  obtain ⟨r1147, V1147, q1147, hf⟩ := gbd hf
  refine k_X10_firstParent hC hI hl.1 q1147 tw_8_223 ⟨Nat.le_of_ble_eq_true rfl, Nat.le_of_ble_eq_true rfl⟩ ⟨by show cells + 2 ≤ 601024; omega, by show slots + 12 ≤ 7293034; omega⟩ (Nat.le_of_ble_eq_true rfl) dL_law_1147 (fun H locs hI => ?_)
  refine lv_istore (lv' := [(6, .int r1147), (5, .int r1135), (0, .ref b0), (1, .ref (ad 248)), (2, .ref (ad 253)), (3, .ref (ad 265)), (4, .int x4_23)]) hx hb dL_law_1150 hl (Nat.lt_of_lt_of_eq (by decide) rfl) rfl (fun ls hl => ?_)
  refine lv_aload_n hx hb dL_law_1152 rfl (lv_at hl 4 rfl) ?_
  obtain ⟨r1153, V1153, q1153, hf⟩ := gbd hf
  refine k_X10_thrown hC hI hl.1 q1153 tw_8_17 ⟨Nat.le_of_ble_eq_true rfl, Nat.le_of_ble_eq_true rfl⟩ ⟨by show cells + 2 ≤ 601024; omega, by show slots + 12 ≤ 7293034; omega⟩ (Nat.le_of_ble_eq_true rfl) dL_law_1153 (fun H locs hI => ?_)
  refine lv_iload hx hb dL_law_1156 (lv_at hl 1 rfl) ?_
  refine lv_icmp_eq (tgt := 1163) hx hb dL_law_1158 (by decide) (fun c1158 => ?_) (fun c1158 => ?_)
  · have hf := gt hf c1158
    refine lv_iload hx hb dL_law_1163 (lv_at hl 1 rfl) ?_
    obtain ⟨j1180, hj1180, hf⟩ := gj hf
    have J1180 : ∀ (V1180 : Mem) (H : Heap) (locs : List Loc) (ls : Array Slot), j1180 V1180 = some Vz → In E ad V1180 s H locs → lv_has ls 9 [(0, .ref b0), (1, .ref (ad 248)), (2, .ref (ad 253)), (3, .ref (ad 265)), (4, .int x4_23)] → W p l e room_1 s m #[Value.ref b0] below meth c H locs (cells + 2) (slots + 12) Q (F0 m 1180 ls []) := by
      intro V1180 H locs ls hf hI hl
      rw [hj1180] at hf
      dsimp only at hf
      refine lv_goto (tgt := 3519) hx hb dL_law_1180 (by decide) ?_
      cases hf
      refine x_wid (c2 := cells + 20) (s2 := slots + 1374) (by omega) (by omega) ?_
      exact kk _ _ _ hI (lv_sub hl [0, 1, 2, 3, 4] rfl)
    refine lv_if_ne (tgt := 1180) hx hb dL_law_1165 (by decide) (fun c1165 => ?_) (fun c1165 => ?_)
    · have hf := gf hf c1165
      exact J1180 _ _ _ _ hf hI (lv_sub hl [2, 3, 4, 5, 6] rfl)
    · have hf := gt hf c1165
      refine lv_aload_n hx hb dL_law_1168 rfl (lv_at hl 5 rfl) ?_
      refine lv_iconst (v := 0) hx hb dL_law_1169 rfl ?_
      refine r_lald hC hI dL_law_1170 ?_
      refine lv_iload hx hb dL_law_1171 (lv_at hl 0 rfl) ?_
      refine lv_i2l hx hb dL_law_1173 rfl ?_
      refine W.lcmp hx hb dL_law_1174 ?_
      refine lv_if_eq (tgt := 1180) hx hb dL_law_1175 (by decide) (fun c1175 => ?_) (fun c1175 => ?_)
      · have hf := gt hf c1175
        exact J1180 _ _ _ _ hf hI (lv_sub hl [2, 3, 4, 5, 6] rfl)
      · have hf := gf hf c1175
        refine lv_iconst (v := 0) hx hb dL_law_1178 rfl ?_
        cases hf
  · have hf := gf hf c1158
    refine lv_iconst (v := 0) hx hb dL_law_1161 rfl ?_
    cases hf

def f_law_C15 (xs : Nat → Int32) (N : Nat) (V : Mem) (x4_23 : Int32) : Option Mem :=
  if ib (x4_23 + 1) N = true then
    bd (f_L_secondParent V (xs (x4_23 + 1).toNatClampNeg)) fun r1191 V1191 =>
    if ib (x4_23 + 1) N = true then
      bd (f_X10_secondParent V1191 (xs (x4_23 + 1).toNatClampNeg)) fun r1203 V1203 =>
      bd (f_X10_thrown V1203) fun r1209 V1209 =>
      if r1209 = r1191 then
        jn (α := Mem → Option Mem) (fun j1236 =>
          if r1191 = 0 then
            if (lg_cmp ((V1209 265 0).toInt64) ((r1203).toInt64)) = 0 then
              j1236 V1209
            else
              none
          else
            j1236 V1209
        ) (fun (V1236 : Mem) =>
          some V1236
        )
      else
        none
    else none
  else none
set_option maxRecDepth 100000 in
set_option maxHeartbeats 4000000 in
theorem lc_15 {p : Program} {l : Launch} {e : Env} {s : State} {m : MethodId} {below : List Frame} {meth : Method} {c : Code} {H : Heap} {locs : List Loc} {cells slots : Nat} {Q : State → Prop} {E : En} {ad : Nat → Nat} {V Vz : Mem} {ls : Array Slot} {xs : Nat → Int32} {N b0 : Nat} {x4_23 : Int32} (hT : l.stackTraces = false) (hS : SF E) (hFr : Fr E) (hX : Sc E s b0 N xs) (hC : Cx p s m #[Value.ref b0] c meth E "LetterRepositoryLaw" cL_law 9 (some .boolean)) (hf : f_law_C15 xs N V x4_23 = some Vz) (hI : In E ad V s H locs) (hl : lv_has ls 9 [(0, .ref b0), (1, .ref (ad 248)), (2, .ref (ad 253)), (3, .ref (ad 265)), (4, .int x4_23)]) (hc1 : cells + 20 ≤ 601024) (hc2 : slots + 1374 ≤ 7293034) (kk : ∀ (H : Heap) (locs : List Loc) (ls : Array Slot), In E ad Vz s H locs → lv_has ls 9 [(0, .ref b0), (1, .ref (ad 248)), (2, .ref (ad 253)), (3, .ref (ad 265)), (4, .int x4_23)] → W p l e room_1 s m #[Value.ref b0] below meth c H locs (cells + 20) (slots + 1374) Q (F0 m 3519 ls [])) : W p l e room_1 s m #[Value.ref b0] below meth c H locs cells slots Q (F0 m 1183 ls []) := by
  have hx := hC.1
  have hb := hC.2.1
  unfold f_law_C15 at hf
  refine lv_aload_n hx hb dL_law_1183 rfl (lv_at hl 1 rfl) ?_
  refine lv_aload_n hx hb dL_law_1184 rfl (lv_at hl 0 rfl) ?_
  refine lv_iload hx hb dL_law_1185 (lv_at hl 4 rfl) ?_
  refine lv_iconst (v := 1) hx hb dL_law_1187 rfl ?_
  refine lv_iadd hx hb dL_law_1188 ?_
  obtain ⟨h1189, hf⟩ := gi hf
  refine r_scr hC hI hX (ib_in h1189) dL_law_1189 ?_
  refine lv_aload_n hx hb dL_law_1190 rfl (lv_at hl 3 rfl) ?_
  obtain ⟨r1191, V1191, q1191, hf⟩ := gbd hf
  refine kl_L_secondParent hS hT hC hI hl.1 q1191 tw_4_146 ⟨Nat.le_of_ble_eq_true rfl, Nat.le_of_ble_eq_true rfl⟩ ⟨by show cells + 2 ≤ 601024; omega, by show slots + 12 ≤ 7293034; omega⟩ (Nat.le_of_ble_eq_true rfl) dL_law_1191 (fun H locs hI => ?_)
  refine lv_istore (lv' := [(5, .int r1191), (0, .ref b0), (1, .ref (ad 248)), (2, .ref (ad 253)), (3, .ref (ad 265)), (4, .int x4_23)]) hx hb dL_law_1194 hl (Nat.lt_of_lt_of_eq (by decide) rfl) rfl (fun ls hl => ?_)
  refine lv_aload_n hx hb dL_law_1196 rfl (lv_at hl 3 rfl) ?_
  refine lv_aload_n hx hb dL_law_1197 rfl (lv_at hl 1 rfl) ?_
  refine lv_iload hx hb dL_law_1198 (lv_at hl 5 rfl) ?_
  refine lv_iconst (v := 1) hx hb dL_law_1200 rfl ?_
  refine lv_iadd hx hb dL_law_1201 ?_
  obtain ⟨h1202, hf⟩ := gi hf
  refine r_scr hC hI hX (ib_in h1202) dL_law_1202 ?_
  obtain ⟨r1203, V1203, q1203, hf⟩ := gbd hf
  refine k_X10_secondParent hC hI hl.1 q1203 tw_8_231 ⟨Nat.le_of_ble_eq_true rfl, Nat.le_of_ble_eq_true rfl⟩ ⟨by show cells + 2 ≤ 601024; omega, by show slots + 12 ≤ 7293034; omega⟩ (Nat.le_of_ble_eq_true rfl) dL_law_1203 (fun H locs hI => ?_)
  refine lv_istore (lv' := [(6, .int r1203), (5, .int r1191), (0, .ref b0), (1, .ref (ad 248)), (2, .ref (ad 253)), (3, .ref (ad 265)), (4, .int x4_23)]) hx hb dL_law_1206 hl (Nat.lt_of_lt_of_eq (by decide) rfl) rfl (fun ls hl => ?_)
  refine lv_aload_n hx hb dL_law_1208 rfl (lv_at hl 4 rfl) ?_
  obtain ⟨r1209, V1209, q1209, hf⟩ := gbd hf
  refine k_X10_thrown hC hI hl.1 q1209 tw_8_17 ⟨Nat.le_of_ble_eq_true rfl, Nat.le_of_ble_eq_true rfl⟩ ⟨by show cells + 2 ≤ 601024; omega, by show slots + 12 ≤ 7293034; omega⟩ (Nat.le_of_ble_eq_true rfl) dL_law_1209 (fun H locs hI => ?_)
  refine lv_iload hx hb dL_law_1212 (lv_at hl 1 rfl) ?_
  refine lv_icmp_eq (tgt := 1219) hx hb dL_law_1214 (by decide) (fun c1214 => ?_) (fun c1214 => ?_)
  · have hf := gt hf c1214
    refine lv_iload hx hb dL_law_1219 (lv_at hl 1 rfl) ?_
    obtain ⟨j1236, hj1236, hf⟩ := gj hf
    have J1236 : ∀ (V1236 : Mem) (H : Heap) (locs : List Loc) (ls : Array Slot), j1236 V1236 = some Vz → In E ad V1236 s H locs → lv_has ls 9 [(0, .ref b0), (1, .ref (ad 248)), (2, .ref (ad 253)), (3, .ref (ad 265)), (4, .int x4_23)] → W p l e room_1 s m #[Value.ref b0] below meth c H locs (cells + 2) (slots + 12) Q (F0 m 1236 ls []) := by
      intro V1236 H locs ls hf hI hl
      rw [hj1236] at hf
      dsimp only at hf
      refine lv_goto (tgt := 3519) hx hb dL_law_1236 (by decide) ?_
      cases hf
      refine x_wid (c2 := cells + 20) (s2 := slots + 1374) (by omega) (by omega) ?_
      exact kk _ _ _ hI (lv_sub hl [0, 1, 2, 3, 4] rfl)
    refine lv_if_ne (tgt := 1236) hx hb dL_law_1221 (by decide) (fun c1221 => ?_) (fun c1221 => ?_)
    · have hf := gf hf c1221
      exact J1236 _ _ _ _ hf hI (lv_sub hl [2, 3, 4, 5, 6] rfl)
    · have hf := gt hf c1221
      refine lv_aload_n hx hb dL_law_1224 rfl (lv_at hl 5 rfl) ?_
      refine lv_iconst (v := 0) hx hb dL_law_1225 rfl ?_
      refine r_lald hC hI dL_law_1226 ?_
      refine lv_iload hx hb dL_law_1227 (lv_at hl 0 rfl) ?_
      refine lv_i2l hx hb dL_law_1229 rfl ?_
      refine W.lcmp hx hb dL_law_1230 ?_
      refine lv_if_eq (tgt := 1236) hx hb dL_law_1231 (by decide) (fun c1231 => ?_) (fun c1231 => ?_)
      · have hf := gt hf c1231
        exact J1236 _ _ _ _ hf hI (lv_sub hl [2, 3, 4, 5, 6] rfl)
      · have hf := gf hf c1231
        refine lv_iconst (v := 0) hx hb dL_law_1234 rfl ?_
        cases hf
  · have hf := gf hf c1214
    refine lv_iconst (v := 0) hx hb dL_law_1217 rfl ?_
    cases hf

def f_law_C16 (xs : Nat → Int32) (N : Nat) (V : Mem) (x4_23 : Int32) : Option Mem :=
  if ib (x4_23 + 1) N = true then
    bd (f_L_authorOf V (xs (x4_23 + 1).toNatClampNeg)) fun r1247 V1247 =>
    if ib (x4_23 + 1) N = true then
      bd (f_X10_authorOf V1247 (xs (x4_23 + 1).toNatClampNeg)) fun r1259 V1259 =>
      bd (f_X10_thrown V1259) fun r1265 V1265 =>
      if r1265 = r1247 then
        jn (α := Mem → Option Mem) (fun j1292 =>
          if r1247 = 0 then
            if (lg_cmp ((V1265 265 0).toInt64) ((r1259).toInt64)) = 0 then
              j1292 V1265
            else
              none
          else
            j1292 V1265
        ) (fun (V1292 : Mem) =>
          some V1292
        )
      else
        none
    else none
  else none
set_option maxRecDepth 100000 in
set_option maxHeartbeats 4000000 in
theorem lc_16 {p : Program} {l : Launch} {e : Env} {s : State} {m : MethodId} {below : List Frame} {meth : Method} {c : Code} {H : Heap} {locs : List Loc} {cells slots : Nat} {Q : State → Prop} {E : En} {ad : Nat → Nat} {V Vz : Mem} {ls : Array Slot} {xs : Nat → Int32} {N b0 : Nat} {x4_23 : Int32} (hT : l.stackTraces = false) (hS : SF E) (hFr : Fr E) (hX : Sc E s b0 N xs) (hC : Cx p s m #[Value.ref b0] c meth E "LetterRepositoryLaw" cL_law 9 (some .boolean)) (hf : f_law_C16 xs N V x4_23 = some Vz) (hI : In E ad V s H locs) (hl : lv_has ls 9 [(0, .ref b0), (1, .ref (ad 248)), (2, .ref (ad 253)), (3, .ref (ad 265)), (4, .int x4_23)]) (hc1 : cells + 20 ≤ 601024) (hc2 : slots + 1374 ≤ 7293034) (kk : ∀ (H : Heap) (locs : List Loc) (ls : Array Slot), In E ad Vz s H locs → lv_has ls 9 [(0, .ref b0), (1, .ref (ad 248)), (2, .ref (ad 253)), (3, .ref (ad 265)), (4, .int x4_23)] → W p l e room_1 s m #[Value.ref b0] below meth c H locs (cells + 20) (slots + 1374) Q (F0 m 3519 ls [])) : W p l e room_1 s m #[Value.ref b0] below meth c H locs cells slots Q (F0 m 1239 ls []) := by
  have hx := hC.1
  have hb := hC.2.1
  unfold f_law_C16 at hf
  refine lv_aload_n hx hb dL_law_1239 rfl (lv_at hl 1 rfl) ?_
  refine lv_aload_n hx hb dL_law_1240 rfl (lv_at hl 0 rfl) ?_
  refine lv_iload hx hb dL_law_1241 (lv_at hl 4 rfl) ?_
  refine lv_iconst (v := 1) hx hb dL_law_1243 rfl ?_
  refine lv_iadd hx hb dL_law_1244 ?_
  obtain ⟨h1245, hf⟩ := gi hf
  refine r_scr hC hI hX (ib_in h1245) dL_law_1245 ?_
  refine lv_aload_n hx hb dL_law_1246 rfl (lv_at hl 3 rfl) ?_
  obtain ⟨r1247, V1247, q1247, hf⟩ := gbd hf
  refine kl_L_authorOf hS hT hC hI hl.1 q1247 tw_4_154 ⟨Nat.le_of_ble_eq_true rfl, Nat.le_of_ble_eq_true rfl⟩ ⟨by show cells + 1 ≤ 601024; omega, by show slots + 6 ≤ 7293034; omega⟩ (Nat.le_of_ble_eq_true rfl) dL_law_1247 (fun H locs hI => ?_)
  refine lv_istore (lv' := [(5, .int r1247), (0, .ref b0), (1, .ref (ad 248)), (2, .ref (ad 253)), (3, .ref (ad 265)), (4, .int x4_23)]) hx hb dL_law_1250 hl (Nat.lt_of_lt_of_eq (by decide) rfl) rfl (fun ls hl => ?_)
  refine lv_aload_n hx hb dL_law_1252 rfl (lv_at hl 3 rfl) ?_
  refine lv_aload_n hx hb dL_law_1253 rfl (lv_at hl 1 rfl) ?_
  refine lv_iload hx hb dL_law_1254 (lv_at hl 5 rfl) ?_
  refine lv_iconst (v := 1) hx hb dL_law_1256 rfl ?_
  refine lv_iadd hx hb dL_law_1257 ?_
  obtain ⟨h1258, hf⟩ := gi hf
  refine r_scr hC hI hX (ib_in h1258) dL_law_1258 ?_
  obtain ⟨r1259, V1259, q1259, hf⟩ := gbd hf
  refine k_X10_authorOf hC hI hl.1 q1259 tw_8_235 ⟨Nat.le_of_ble_eq_true rfl, Nat.le_of_ble_eq_true rfl⟩ ⟨by show cells + 1 ≤ 601024; omega, by show slots + 6 ≤ 7293034; omega⟩ (Nat.le_of_ble_eq_true rfl) dL_law_1259 (fun H locs hI => ?_)
  refine lv_istore (lv' := [(6, .int r1259), (5, .int r1247), (0, .ref b0), (1, .ref (ad 248)), (2, .ref (ad 253)), (3, .ref (ad 265)), (4, .int x4_23)]) hx hb dL_law_1262 hl (Nat.lt_of_lt_of_eq (by decide) rfl) rfl (fun ls hl => ?_)
  refine lv_aload_n hx hb dL_law_1264 rfl (lv_at hl 4 rfl) ?_
  obtain ⟨r1265, V1265, q1265, hf⟩ := gbd hf
  refine k_X10_thrown hC hI hl.1 q1265 tw_8_17 ⟨Nat.le_of_ble_eq_true rfl, Nat.le_of_ble_eq_true rfl⟩ ⟨by show cells + 1 ≤ 601024; omega, by show slots + 6 ≤ 7293034; omega⟩ (Nat.le_of_ble_eq_true rfl) dL_law_1265 (fun H locs hI => ?_)
  refine lv_iload hx hb dL_law_1268 (lv_at hl 1 rfl) ?_
  refine lv_icmp_eq (tgt := 1275) hx hb dL_law_1270 (by decide) (fun c1270 => ?_) (fun c1270 => ?_)
  · have hf := gt hf c1270
    refine lv_iload hx hb dL_law_1275 (lv_at hl 1 rfl) ?_
    obtain ⟨j1292, hj1292, hf⟩ := gj hf
    have J1292 : ∀ (V1292 : Mem) (H : Heap) (locs : List Loc) (ls : Array Slot), j1292 V1292 = some Vz → In E ad V1292 s H locs → lv_has ls 9 [(0, .ref b0), (1, .ref (ad 248)), (2, .ref (ad 253)), (3, .ref (ad 265)), (4, .int x4_23)] → W p l e room_1 s m #[Value.ref b0] below meth c H locs (cells + 1) (slots + 6) Q (F0 m 1292 ls []) := by
      intro V1292 H locs ls hf hI hl
      rw [hj1292] at hf
      dsimp only at hf
      refine lv_goto (tgt := 3519) hx hb dL_law_1292 (by decide) ?_
      cases hf
      refine x_wid (c2 := cells + 20) (s2 := slots + 1374) (by omega) (by omega) ?_
      exact kk _ _ _ hI (lv_sub hl [0, 1, 2, 3, 4] rfl)
    refine lv_if_ne (tgt := 1292) hx hb dL_law_1277 (by decide) (fun c1277 => ?_) (fun c1277 => ?_)
    · have hf := gf hf c1277
      exact J1292 _ _ _ _ hf hI (lv_sub hl [2, 3, 4, 5, 6] rfl)
    · have hf := gt hf c1277
      refine lv_aload_n hx hb dL_law_1280 rfl (lv_at hl 5 rfl) ?_
      refine lv_iconst (v := 0) hx hb dL_law_1281 rfl ?_
      refine r_lald hC hI dL_law_1282 ?_
      refine lv_iload hx hb dL_law_1283 (lv_at hl 0 rfl) ?_
      refine lv_i2l hx hb dL_law_1285 rfl ?_
      refine W.lcmp hx hb dL_law_1286 ?_
      refine lv_if_eq (tgt := 1292) hx hb dL_law_1287 (by decide) (fun c1287 => ?_) (fun c1287 => ?_)
      · have hf := gt hf c1287
        exact J1292 _ _ _ _ hf hI (lv_sub hl [2, 3, 4, 5, 6] rfl)
      · have hf := gf hf c1287
        refine lv_iconst (v := 0) hx hb dL_law_1290 rfl ?_
        cases hf
  · have hf := gf hf c1270
    refine lv_iconst (v := 0) hx hb dL_law_1273 rfl ?_
    cases hf

def f_law_C17 (xs : Nat → Int32) (N : Nat) (V : Mem) (x4_23 : Int32) : Option Mem :=
  if ib (x4_23 + 1) N = true then
    bd (f_L_generation V (xs (x4_23 + 1).toNatClampNeg)) fun r1303 V1303 =>
    if ib (x4_23 + 1) N = true then
      bd (f_X10_generation V1303 (xs (x4_23 + 1).toNatClampNeg)) fun r1315 V1315 =>
      bd (f_X10_thrown V1315) fun r1321 V1321 =>
      if r1321 = r1303 then
        jn (α := Mem → Option Mem) (fun j1348 =>
          if r1303 = 0 then
            if (lg_cmp ((V1321 265 0).toInt64) ((r1315).toInt64)) = 0 then
              j1348 V1321
            else
              none
          else
            j1348 V1321
        ) (fun (V1348 : Mem) =>
          some V1348
        )
      else
        none
    else none
  else none
set_option maxRecDepth 100000 in
set_option maxHeartbeats 4000000 in
theorem lc_17 {p : Program} {l : Launch} {e : Env} {s : State} {m : MethodId} {below : List Frame} {meth : Method} {c : Code} {H : Heap} {locs : List Loc} {cells slots : Nat} {Q : State → Prop} {E : En} {ad : Nat → Nat} {V Vz : Mem} {ls : Array Slot} {xs : Nat → Int32} {N b0 : Nat} {x4_23 : Int32} (hT : l.stackTraces = false) (hS : SF E) (hFr : Fr E) (hX : Sc E s b0 N xs) (hC : Cx p s m #[Value.ref b0] c meth E "LetterRepositoryLaw" cL_law 9 (some .boolean)) (hf : f_law_C17 xs N V x4_23 = some Vz) (hI : In E ad V s H locs) (hl : lv_has ls 9 [(0, .ref b0), (1, .ref (ad 248)), (2, .ref (ad 253)), (3, .ref (ad 265)), (4, .int x4_23)]) (hc1 : cells + 20 ≤ 601024) (hc2 : slots + 1374 ≤ 7293034) (kk : ∀ (H : Heap) (locs : List Loc) (ls : Array Slot), In E ad Vz s H locs → lv_has ls 9 [(0, .ref b0), (1, .ref (ad 248)), (2, .ref (ad 253)), (3, .ref (ad 265)), (4, .int x4_23)] → W p l e room_1 s m #[Value.ref b0] below meth c H locs (cells + 20) (slots + 1374) Q (F0 m 3519 ls [])) : W p l e room_1 s m #[Value.ref b0] below meth c H locs cells slots Q (F0 m 1295 ls []) := by
  have hx := hC.1
  have hb := hC.2.1
  unfold f_law_C17 at hf
  refine lv_aload_n hx hb dL_law_1295 rfl (lv_at hl 1 rfl) ?_
  refine lv_aload_n hx hb dL_law_1296 rfl (lv_at hl 0 rfl) ?_
  refine lv_iload hx hb dL_law_1297 (lv_at hl 4 rfl) ?_
  refine lv_iconst (v := 1) hx hb dL_law_1299 rfl ?_
  refine lv_iadd hx hb dL_law_1300 ?_
  obtain ⟨h1301, hf⟩ := gi hf
  refine r_scr hC hI hX (ib_in h1301) dL_law_1301 ?_
  refine lv_aload_n hx hb dL_law_1302 rfl (lv_at hl 3 rfl) ?_
  obtain ⟨r1303, V1303, q1303, hf⟩ := gbd hf
  refine kl_L_generation hS hT hC hI hl.1 q1303 tw_4_162 ⟨Nat.le_of_ble_eq_true rfl, Nat.le_of_ble_eq_true rfl⟩ ⟨by show cells + 1 ≤ 601024; omega, by show slots + 6 ≤ 7293034; omega⟩ (Nat.le_of_ble_eq_true rfl) dL_law_1303 (fun H locs hI => ?_)
  refine lv_istore (lv' := [(5, .int r1303), (0, .ref b0), (1, .ref (ad 248)), (2, .ref (ad 253)), (3, .ref (ad 265)), (4, .int x4_23)]) hx hb dL_law_1306 hl (Nat.lt_of_lt_of_eq (by decide) rfl) rfl (fun ls hl => ?_)
  refine lv_aload_n hx hb dL_law_1308 rfl (lv_at hl 3 rfl) ?_
  refine lv_aload_n hx hb dL_law_1309 rfl (lv_at hl 1 rfl) ?_
  refine lv_iload hx hb dL_law_1310 (lv_at hl 5 rfl) ?_
  refine lv_iconst (v := 1) hx hb dL_law_1312 rfl ?_
  refine lv_iadd hx hb dL_law_1313 ?_
  obtain ⟨h1314, hf⟩ := gi hf
  refine r_scr hC hI hX (ib_in h1314) dL_law_1314 ?_
  obtain ⟨r1315, V1315, q1315, hf⟩ := gbd hf
  refine k_X10_generation hC hI hl.1 q1315 tw_8_239 ⟨Nat.le_of_ble_eq_true rfl, Nat.le_of_ble_eq_true rfl⟩ ⟨by show cells + 1 ≤ 601024; omega, by show slots + 6 ≤ 7293034; omega⟩ (Nat.le_of_ble_eq_true rfl) dL_law_1315 (fun H locs hI => ?_)
  refine lv_istore (lv' := [(6, .int r1315), (5, .int r1303), (0, .ref b0), (1, .ref (ad 248)), (2, .ref (ad 253)), (3, .ref (ad 265)), (4, .int x4_23)]) hx hb dL_law_1318 hl (Nat.lt_of_lt_of_eq (by decide) rfl) rfl (fun ls hl => ?_)
  refine lv_aload_n hx hb dL_law_1320 rfl (lv_at hl 4 rfl) ?_
  obtain ⟨r1321, V1321, q1321, hf⟩ := gbd hf
  refine k_X10_thrown hC hI hl.1 q1321 tw_8_17 ⟨Nat.le_of_ble_eq_true rfl, Nat.le_of_ble_eq_true rfl⟩ ⟨by show cells + 1 ≤ 601024; omega, by show slots + 6 ≤ 7293034; omega⟩ (Nat.le_of_ble_eq_true rfl) dL_law_1321 (fun H locs hI => ?_)
  refine lv_iload hx hb dL_law_1324 (lv_at hl 1 rfl) ?_
  refine lv_icmp_eq (tgt := 1331) hx hb dL_law_1326 (by decide) (fun c1326 => ?_) (fun c1326 => ?_)
  · have hf := gt hf c1326
    refine lv_iload hx hb dL_law_1331 (lv_at hl 1 rfl) ?_
    obtain ⟨j1348, hj1348, hf⟩ := gj hf
    have J1348 : ∀ (V1348 : Mem) (H : Heap) (locs : List Loc) (ls : Array Slot), j1348 V1348 = some Vz → In E ad V1348 s H locs → lv_has ls 9 [(0, .ref b0), (1, .ref (ad 248)), (2, .ref (ad 253)), (3, .ref (ad 265)), (4, .int x4_23)] → W p l e room_1 s m #[Value.ref b0] below meth c H locs (cells + 1) (slots + 6) Q (F0 m 1348 ls []) := by
      intro V1348 H locs ls hf hI hl
      rw [hj1348] at hf
      dsimp only at hf
      refine lv_goto (tgt := 3519) hx hb dL_law_1348 (by decide) ?_
      cases hf
      refine x_wid (c2 := cells + 20) (s2 := slots + 1374) (by omega) (by omega) ?_
      exact kk _ _ _ hI (lv_sub hl [0, 1, 2, 3, 4] rfl)
    refine lv_if_ne (tgt := 1348) hx hb dL_law_1333 (by decide) (fun c1333 => ?_) (fun c1333 => ?_)
    · have hf := gf hf c1333
      exact J1348 _ _ _ _ hf hI (lv_sub hl [2, 3, 4, 5, 6] rfl)
    · have hf := gt hf c1333
      refine lv_aload_n hx hb dL_law_1336 rfl (lv_at hl 5 rfl) ?_
      refine lv_iconst (v := 0) hx hb dL_law_1337 rfl ?_
      refine r_lald hC hI dL_law_1338 ?_
      refine lv_iload hx hb dL_law_1339 (lv_at hl 0 rfl) ?_
      refine lv_i2l hx hb dL_law_1341 rfl ?_
      refine W.lcmp hx hb dL_law_1342 ?_
      refine lv_if_eq (tgt := 1348) hx hb dL_law_1343 (by decide) (fun c1343 => ?_) (fun c1343 => ?_)
      · have hf := gt hf c1343
        exact J1348 _ _ _ _ hf hI (lv_sub hl [2, 3, 4, 5, 6] rfl)
      · have hf := gf hf c1343
        refine lv_iconst (v := 0) hx hb dL_law_1346 rfl ?_
        cases hf
  · have hf := gf hf c1326
    refine lv_iconst (v := 0) hx hb dL_law_1329 rfl ?_
    cases hf

def f_law_C18 (xs : Nat → Int32) (N : Nat) (V : Mem) (x4_23 : Int32) : Option Mem :=
  if ib (x4_23 + 1) N = true then
    if ib (x4_23 + 2) N = true then
      bd (f_L_letterIn V (xs (x4_23 + 1).toNatClampNeg) (xs (x4_23 + 2).toNatClampNeg)) fun r1365 V1365 =>
      if ib (x4_23 + 1) N = true then
        if ib (x4_23 + 2) N = true then
          bd (f_X10_letterIn V1365 (xs (x4_23 + 1).toNatClampNeg) (xs (x4_23 + 2).toNatClampNeg)) fun r1383 V1383 =>
          bd (f_X10_thrown V1383) fun r1389 V1389 =>
          if r1389 = r1365 then
            jn (α := Mem → Option Mem) (fun j1416 =>
              if r1365 = 0 then
                if (lg_cmp ((V1389 265 0).toInt64) ((r1383).toInt64)) = 0 then
                  j1416 V1389
                else
                  none
              else
                j1416 V1389
            ) (fun (V1416 : Mem) =>
              some V1416
            )
          else
            none
        else none
      else none
    else none
  else none
set_option maxRecDepth 100000 in
set_option maxHeartbeats 4000000 in
theorem lc_18 {p : Program} {l : Launch} {e : Env} {s : State} {m : MethodId} {below : List Frame} {meth : Method} {c : Code} {H : Heap} {locs : List Loc} {cells slots : Nat} {Q : State → Prop} {E : En} {ad : Nat → Nat} {V Vz : Mem} {ls : Array Slot} {xs : Nat → Int32} {N b0 : Nat} {x4_23 : Int32} (hT : l.stackTraces = false) (hS : SF E) (hFr : Fr E) (hX : Sc E s b0 N xs) (hC : Cx p s m #[Value.ref b0] c meth E "LetterRepositoryLaw" cL_law 9 (some .boolean)) (hf : f_law_C18 xs N V x4_23 = some Vz) (hI : In E ad V s H locs) (hl : lv_has ls 9 [(0, .ref b0), (1, .ref (ad 248)), (2, .ref (ad 253)), (3, .ref (ad 265)), (4, .int x4_23)]) (hc1 : cells + 20 ≤ 601024) (hc2 : slots + 1374 ≤ 7293034) (kk : ∀ (H : Heap) (locs : List Loc) (ls : Array Slot), In E ad Vz s H locs → lv_has ls 9 [(0, .ref b0), (1, .ref (ad 248)), (2, .ref (ad 253)), (3, .ref (ad 265)), (4, .int x4_23)] → W p l e room_1 s m #[Value.ref b0] below meth c H locs (cells + 20) (slots + 1374) Q (F0 m 3519 ls [])) : W p l e room_1 s m #[Value.ref b0] below meth c H locs cells slots Q (F0 m 1351 ls []) := by
  have hx := hC.1
  have hb := hC.2.1
  unfold f_law_C18 at hf
  refine lv_aload_n hx hb dL_law_1351 rfl (lv_at hl 1 rfl) ?_
  refine lv_aload_n hx hb dL_law_1352 rfl (lv_at hl 0 rfl) ?_
  refine lv_iload hx hb dL_law_1353 (lv_at hl 4 rfl) ?_
  refine lv_iconst (v := 1) hx hb dL_law_1355 rfl ?_
  refine lv_iadd hx hb dL_law_1356 ?_
  obtain ⟨h1357, hf⟩ := gi hf
  refine r_scr hC hI hX (ib_in h1357) dL_law_1357 ?_
  refine lv_aload_n hx hb dL_law_1358 rfl (lv_at hl 0 rfl) ?_
  refine lv_iload hx hb dL_law_1359 (lv_at hl 4 rfl) ?_
  refine lv_iconst (v := 2) hx hb dL_law_1361 rfl ?_
  refine lv_iadd hx hb dL_law_1362 ?_
  obtain ⟨h1363, hf⟩ := gi hf
  refine r_scr hC hI hX (ib_in h1363) dL_law_1363 ?_
  refine lv_aload_n hx hb dL_law_1364 rfl (lv_at hl 3 rfl) ?_
  obtain ⟨r1365, V1365, q1365, hf⟩ := gbd hf
  refine kl_L_letterIn hS hT hC hI hl.1 q1365 tw_4_170 ⟨Nat.le_of_ble_eq_true rfl, Nat.le_of_ble_eq_true rfl⟩ ⟨by show cells + 2 ≤ 601024; omega, by show slots + 12 ≤ 7293034; omega⟩ (Nat.le_of_ble_eq_true rfl) dL_law_1365 (fun H locs hI => ?_)
  refine lv_istore (lv' := [(5, .int r1365), (0, .ref b0), (1, .ref (ad 248)), (2, .ref (ad 253)), (3, .ref (ad 265)), (4, .int x4_23)]) hx hb dL_law_1368 hl (Nat.lt_of_lt_of_eq (by decide) rfl) rfl (fun ls hl => ?_)
  refine lv_aload_n hx hb dL_law_1370 rfl (lv_at hl 3 rfl) ?_
  refine lv_aload_n hx hb dL_law_1371 rfl (lv_at hl 1 rfl) ?_
  refine lv_iload hx hb dL_law_1372 (lv_at hl 5 rfl) ?_
  refine lv_iconst (v := 1) hx hb dL_law_1374 rfl ?_
  refine lv_iadd hx hb dL_law_1375 ?_
  obtain ⟨h1376, hf⟩ := gi hf
  refine r_scr hC hI hX (ib_in h1376) dL_law_1376 ?_
  refine lv_aload_n hx hb dL_law_1377 rfl (lv_at hl 1 rfl) ?_
  refine lv_iload hx hb dL_law_1378 (lv_at hl 5 rfl) ?_
  refine lv_iconst (v := 2) hx hb dL_law_1380 rfl ?_
  refine lv_iadd hx hb dL_law_1381 ?_
  obtain ⟨h1382, hf⟩ := gi hf
  refine r_scr hC hI hX (ib_in h1382) dL_law_1382 ?_
  obtain ⟨r1383, V1383, q1383, hf⟩ := gbd hf
  refine k_X10_letterIn hC hI hl.1 q1383 tw_9_8 ⟨Nat.le_of_ble_eq_true rfl, Nat.le_of_ble_eq_true rfl⟩ ⟨by show cells + 2 ≤ 601024; omega, by show slots + 12 ≤ 7293034; omega⟩ (Nat.le_of_ble_eq_true rfl) dL_law_1383 (fun H locs hI => ?_)
  refine lv_istore (lv' := [(6, .int r1383), (5, .int r1365), (0, .ref b0), (1, .ref (ad 248)), (2, .ref (ad 253)), (3, .ref (ad 265)), (4, .int x4_23)]) hx hb dL_law_1386 hl (Nat.lt_of_lt_of_eq (by decide) rfl) rfl (fun ls hl => ?_)
  refine lv_aload_n hx hb dL_law_1388 rfl (lv_at hl 4 rfl) ?_
  obtain ⟨r1389, V1389, q1389, hf⟩ := gbd hf
  refine k_X10_thrown hC hI hl.1 q1389 tw_8_17 ⟨Nat.le_of_ble_eq_true rfl, Nat.le_of_ble_eq_true rfl⟩ ⟨by show cells + 2 ≤ 601024; omega, by show slots + 12 ≤ 7293034; omega⟩ (Nat.le_of_ble_eq_true rfl) dL_law_1389 (fun H locs hI => ?_)
  refine lv_iload hx hb dL_law_1392 (lv_at hl 1 rfl) ?_
  refine lv_icmp_eq (tgt := 1399) hx hb dL_law_1394 (by decide) (fun c1394 => ?_) (fun c1394 => ?_)
  · have hf := gt hf c1394
    refine lv_iload hx hb dL_law_1399 (lv_at hl 1 rfl) ?_
    obtain ⟨j1416, hj1416, hf⟩ := gj hf
    have J1416 : ∀ (V1416 : Mem) (H : Heap) (locs : List Loc) (ls : Array Slot), j1416 V1416 = some Vz → In E ad V1416 s H locs → lv_has ls 9 [(0, .ref b0), (1, .ref (ad 248)), (2, .ref (ad 253)), (3, .ref (ad 265)), (4, .int x4_23)] → W p l e room_1 s m #[Value.ref b0] below meth c H locs (cells + 2) (slots + 12) Q (F0 m 1416 ls []) := by
      intro V1416 H locs ls hf hI hl
      rw [hj1416] at hf
      dsimp only at hf
      refine lv_goto (tgt := 3519) hx hb dL_law_1416 (by decide) ?_
      cases hf
      refine x_wid (c2 := cells + 20) (s2 := slots + 1374) (by omega) (by omega) ?_
      exact kk _ _ _ hI (lv_sub hl [0, 1, 2, 3, 4] rfl)
    refine lv_if_ne (tgt := 1416) hx hb dL_law_1401 (by decide) (fun c1401 => ?_) (fun c1401 => ?_)
    · have hf := gf hf c1401
      exact J1416 _ _ _ _ hf hI (lv_sub hl [2, 3, 4, 5, 6] rfl)
    · have hf := gt hf c1401
      refine lv_aload_n hx hb dL_law_1404 rfl (lv_at hl 5 rfl) ?_
      refine lv_iconst (v := 0) hx hb dL_law_1405 rfl ?_
      refine r_lald hC hI dL_law_1406 ?_
      refine lv_iload hx hb dL_law_1407 (lv_at hl 0 rfl) ?_
      refine lv_i2l hx hb dL_law_1409 rfl ?_
      refine W.lcmp hx hb dL_law_1410 ?_
      refine lv_if_eq (tgt := 1416) hx hb dL_law_1411 (by decide) (fun c1411 => ?_) (fun c1411 => ?_)
      · have hf := gt hf c1411
        exact J1416 _ _ _ _ hf hI (lv_sub hl [2, 3, 4, 5, 6] rfl)
      · have hf := gf hf c1411
        refine lv_iconst (v := 0) hx hb dL_law_1414 rfl ?_
        cases hf
  · have hf := gf hf c1394
    refine lv_iconst (v := 0) hx hb dL_law_1397 rfl ?_
    cases hf

def f_law_C19 (xs : Nat → Int32) (N : Nat) (V : Mem) (x4_23 : Int32) : Option Mem :=
  if ib (x4_23 + 1) N = true then
    if ib (x4_23 + 2) N = true then
      bd (f_L_isAncestor V (xs (x4_23 + 1).toNatClampNeg) (xs (x4_23 + 2).toNatClampNeg)) fun r1433 V1433 =>
      if ib (x4_23 + 1) N = true then
        if ib (x4_23 + 2) N = true then
          bd (f_X10_isAncestor V1433 (xs (x4_23 + 1).toNatClampNeg) (xs (x4_23 + 2).toNatClampNeg)) fun r1451 V1451 =>
          bd (f_X10_thrown V1451) fun r1457 V1457 =>
          if r1457 = r1433 then
            jn (α := Mem → Option Mem) (fun j1491 =>
              if r1433 = 0 then
                jn (α := Mem → Int64 → Option Mem) (fun j1485 =>
                  if r1451 = 0 then
                    j1485 V1457 0
                  else
                    j1485 V1457 1
                ) (fun (V1485 : Mem) (s0_1485 : Int64) =>
                  if (lg_cmp ((V1457 265 0).toInt64) s0_1485) = 0 then
                    j1491 V1485
                  else
                    none
                )
              else
                j1491 V1457
            ) (fun (V1491 : Mem) =>
              some V1491
            )
          else
            none
        else none
      else none
    else none
  else none
set_option maxRecDepth 100000 in
set_option maxHeartbeats 4000000 in
theorem lc_19 {p : Program} {l : Launch} {e : Env} {s : State} {m : MethodId} {below : List Frame} {meth : Method} {c : Code} {H : Heap} {locs : List Loc} {cells slots : Nat} {Q : State → Prop} {E : En} {ad : Nat → Nat} {V Vz : Mem} {ls : Array Slot} {xs : Nat → Int32} {N b0 : Nat} {x4_23 : Int32} (hT : l.stackTraces = false) (hS : SF E) (hFr : Fr E) (hX : Sc E s b0 N xs) (hC : Cx p s m #[Value.ref b0] c meth E "LetterRepositoryLaw" cL_law 9 (some .boolean)) (hf : f_law_C19 xs N V x4_23 = some Vz) (hI : In E ad V s H locs) (hl : lv_has ls 9 [(0, .ref b0), (1, .ref (ad 248)), (2, .ref (ad 253)), (3, .ref (ad 265)), (4, .int x4_23)]) (hc1 : cells + 20 ≤ 601024) (hc2 : slots + 1374 ≤ 7293034) (kk : ∀ (H : Heap) (locs : List Loc) (ls : Array Slot), In E ad Vz s H locs → lv_has ls 9 [(0, .ref b0), (1, .ref (ad 248)), (2, .ref (ad 253)), (3, .ref (ad 265)), (4, .int x4_23)] → W p l e room_1 s m #[Value.ref b0] below meth c H locs (cells + 20) (slots + 1374) Q (F0 m 3519 ls [])) : W p l e room_1 s m #[Value.ref b0] below meth c H locs cells slots Q (F0 m 1419 ls []) := by
  have hx := hC.1
  have hb := hC.2.1
  unfold f_law_C19 at hf
  refine lv_aload_n hx hb dL_law_1419 rfl (lv_at hl 1 rfl) ?_
  refine lv_aload_n hx hb dL_law_1420 rfl (lv_at hl 0 rfl) ?_
  refine lv_iload hx hb dL_law_1421 (lv_at hl 4 rfl) ?_
  refine lv_iconst (v := 1) hx hb dL_law_1423 rfl ?_
  refine lv_iadd hx hb dL_law_1424 ?_
  obtain ⟨h1425, hf⟩ := gi hf
  refine r_scr hC hI hX (ib_in h1425) dL_law_1425 ?_
  refine lv_aload_n hx hb dL_law_1426 rfl (lv_at hl 0 rfl) ?_
  refine lv_iload hx hb dL_law_1427 (lv_at hl 4 rfl) ?_
  refine lv_iconst (v := 2) hx hb dL_law_1429 rfl ?_
  refine lv_iadd hx hb dL_law_1430 ?_
  obtain ⟨h1431, hf⟩ := gi hf
  refine r_scr hC hI hX (ib_in h1431) dL_law_1431 ?_
  refine lv_aload_n hx hb dL_law_1432 rfl (lv_at hl 3 rfl) ?_
  obtain ⟨r1433, V1433, q1433, hf⟩ := gbd hf
  refine kl_L_isAncestor hS hT hC hI hl.1 q1433 tw_4_183 ⟨Nat.le_of_ble_eq_true rfl, Nat.le_of_ble_eq_true rfl⟩ ⟨by show cells + 2 ≤ 601024; omega, by show slots + 12 ≤ 7293034; omega⟩ (Nat.le_of_ble_eq_true rfl) dL_law_1433 (fun H locs hI => ?_)
  refine lv_istore (lv' := [(5, .int r1433), (0, .ref b0), (1, .ref (ad 248)), (2, .ref (ad 253)), (3, .ref (ad 265)), (4, .int x4_23)]) hx hb dL_law_1436 hl (Nat.lt_of_lt_of_eq (by decide) rfl) rfl (fun ls hl => ?_)
  refine lv_aload_n hx hb dL_law_1438 rfl (lv_at hl 3 rfl) ?_
  refine lv_aload_n hx hb dL_law_1439 rfl (lv_at hl 1 rfl) ?_
  refine lv_iload hx hb dL_law_1440 (lv_at hl 5 rfl) ?_
  refine lv_iconst (v := 1) hx hb dL_law_1442 rfl ?_
  refine lv_iadd hx hb dL_law_1443 ?_
  obtain ⟨h1444, hf⟩ := gi hf
  refine r_scr hC hI hX (ib_in h1444) dL_law_1444 ?_
  refine lv_aload_n hx hb dL_law_1445 rfl (lv_at hl 1 rfl) ?_
  refine lv_iload hx hb dL_law_1446 (lv_at hl 5 rfl) ?_
  refine lv_iconst (v := 2) hx hb dL_law_1448 rfl ?_
  refine lv_iadd hx hb dL_law_1449 ?_
  obtain ⟨h1450, hf⟩ := gi hf
  refine r_scr hC hI hX (ib_in h1450) dL_law_1450 ?_
  obtain ⟨r1451, V1451, q1451, hf⟩ := gbd hf
  refine k_X10_isAncestor hC hI hl.1 q1451 tw_9_12 ⟨Nat.le_of_ble_eq_true rfl, Nat.le_of_ble_eq_true rfl⟩ ⟨by show cells + 2 ≤ 601024; omega, by show slots + 12 ≤ 7293034; omega⟩ (Nat.le_of_ble_eq_true rfl) dL_law_1451 (fun H locs hI => ?_)
  refine lv_istore (lv' := [(6, .int r1451), (5, .int r1433), (0, .ref b0), (1, .ref (ad 248)), (2, .ref (ad 253)), (3, .ref (ad 265)), (4, .int x4_23)]) hx hb dL_law_1454 hl (Nat.lt_of_lt_of_eq (by decide) rfl) rfl (fun ls hl => ?_)
  refine lv_aload_n hx hb dL_law_1456 rfl (lv_at hl 4 rfl) ?_
  obtain ⟨r1457, V1457, q1457, hf⟩ := gbd hf
  refine k_X10_thrown hC hI hl.1 q1457 tw_8_17 ⟨Nat.le_of_ble_eq_true rfl, Nat.le_of_ble_eq_true rfl⟩ ⟨by show cells + 2 ≤ 601024; omega, by show slots + 12 ≤ 7293034; omega⟩ (Nat.le_of_ble_eq_true rfl) dL_law_1457 (fun H locs hI => ?_)
  refine lv_iload hx hb dL_law_1460 (lv_at hl 1 rfl) ?_
  refine lv_icmp_eq (tgt := 1467) hx hb dL_law_1462 (by decide) (fun c1462 => ?_) (fun c1462 => ?_)
  · have hf := gt hf c1462
    refine lv_iload hx hb dL_law_1467 (lv_at hl 1 rfl) ?_
    obtain ⟨j1491, hj1491, hf⟩ := gj hf
    have J1491 : ∀ (V1491 : Mem) (H : Heap) (locs : List Loc) (ls : Array Slot), j1491 V1491 = some Vz → In E ad V1491 s H locs → lv_has ls 9 [(0, .ref b0), (1, .ref (ad 248)), (2, .ref (ad 253)), (3, .ref (ad 265)), (4, .int x4_23)] → W p l e room_1 s m #[Value.ref b0] below meth c H locs (cells + 2) (slots + 12) Q (F0 m 1491 ls []) := by
      intro V1491 H locs ls hf hI hl
      rw [hj1491] at hf
      dsimp only at hf
      refine lv_goto (tgt := 3519) hx hb dL_law_1491 (by decide) ?_
      cases hf
      refine x_wid (c2 := cells + 20) (s2 := slots + 1374) (by omega) (by omega) ?_
      exact kk _ _ _ hI (lv_sub hl [0, 1, 2, 3, 4] rfl)
    refine lv_if_ne (tgt := 1491) hx hb dL_law_1469 (by decide) (fun c1469 => ?_) (fun c1469 => ?_)
    · have hf := gf hf c1469
      exact J1491 _ _ _ _ hf hI (lv_sub hl [2, 3, 4, 5, 6] rfl)
    · have hf := gt hf c1469
      refine lv_aload_n hx hb dL_law_1472 rfl (lv_at hl 5 rfl) ?_
      refine lv_iconst (v := 0) hx hb dL_law_1473 rfl ?_
      refine r_lald hC hI dL_law_1474 ?_
      refine lv_iload hx hb dL_law_1475 (lv_at hl 0 rfl) ?_
      obtain ⟨j1485, hj1485, hf⟩ := gj hf
      have J1485 : ∀ (V1485 : Mem) (s0_1485 : Int64) (H : Heap) (locs : List Loc) (ls : Array Slot), j1485 V1485 s0_1485 = some Vz → In E ad V1485 s H locs → lv_has ls 9 [(0, .ref b0), (1, .ref (ad 248)), (2, .ref (ad 253)), (3, .ref (ad 265)), (4, .int x4_23)] → W p l e room_1 s m #[Value.ref b0] below meth c H locs (cells + 2) (slots + 12) Q (F0 m 1485 ls [.long s0_1485, .long ((V1457 265 0).toInt64)]) := by
        intro V1485 s0_1485 H locs ls hf hI hl
        rw [hj1485] at hf
        dsimp only at hf
        refine W.lcmp hx hb dL_law_1485 ?_
        refine lv_if_eq (tgt := 1491) hx hb dL_law_1486 (by decide) (fun c1486 => ?_) (fun c1486 => ?_)
        · have hf := gt hf c1486
          exact J1491 _ _ _ _ hf hI (lv_sub hl [0, 1, 2, 3, 4] rfl)
        · have hf := gf hf c1486
          refine lv_iconst (v := 0) hx hb dL_law_1489 rfl ?_
          cases hf
      refine lv_if_eq (tgt := 1484) hx hb dL_law_1477 (by decide) (fun c1477 => ?_) (fun c1477 => ?_)
      · have hf := gt hf c1477
        refine lv_lconst (v := 0) hx hb dL_law_1484 rfl ?_
        exact J1485 _ _ _ _ _ hf hI (lv_sub hl [2, 3, 4, 5, 6] rfl)
      · have hf := gf hf c1477
        refine lv_lconst (v := 1) hx hb dL_law_1480 rfl ?_
        refine lv_goto (tgt := 1485) hx hb dL_law_1481 (by decide) ?_
        exact J1485 _ _ _ _ _ hf hI (lv_sub hl [2, 3, 4, 5, 6] rfl)
  · have hf := gf hf c1462
    refine lv_iconst (v := 0) hx hb dL_law_1465 rfl ?_
    cases hf

def f_law_C20 (xs : Nat → Int32) (N : Nat) (V : Mem) (x4_23 : Int32) : Option Mem :=
  if ib (x4_23 + 1) N = true then
    bd (f_L_ancestorCount V (xs (x4_23 + 1).toNatClampNeg)) fun r1502 V1502 =>
    if ib (x4_23 + 1) N = true then
      bd (f_X10_ancestorCount V1502 (xs (x4_23 + 1).toNatClampNeg)) fun r1514 V1514 =>
      bd (f_X10_thrown V1514) fun r1520 V1520 =>
      if r1520 = r1502 then
        jn (α := Mem → Option Mem) (fun j1547 =>
          if r1502 = 0 then
            if (lg_cmp ((V1520 265 0).toInt64) ((r1514).toInt64)) = 0 then
              j1547 V1520
            else
              none
          else
            j1547 V1520
        ) (fun (V1547 : Mem) =>
          some V1547
        )
      else
        none
    else none
  else none
set_option maxRecDepth 100000 in
set_option maxHeartbeats 4000000 in
theorem lc_20 {p : Program} {l : Launch} {e : Env} {s : State} {m : MethodId} {below : List Frame} {meth : Method} {c : Code} {H : Heap} {locs : List Loc} {cells slots : Nat} {Q : State → Prop} {E : En} {ad : Nat → Nat} {V Vz : Mem} {ls : Array Slot} {xs : Nat → Int32} {N b0 : Nat} {x4_23 : Int32} (hT : l.stackTraces = false) (hS : SF E) (hFr : Fr E) (hX : Sc E s b0 N xs) (hC : Cx p s m #[Value.ref b0] c meth E "LetterRepositoryLaw" cL_law 9 (some .boolean)) (hf : f_law_C20 xs N V x4_23 = some Vz) (hI : In E ad V s H locs) (hl : lv_has ls 9 [(0, .ref b0), (1, .ref (ad 248)), (2, .ref (ad 253)), (3, .ref (ad 265)), (4, .int x4_23)]) (hc1 : cells + 20 ≤ 601024) (hc2 : slots + 1374 ≤ 7293034) (kk : ∀ (H : Heap) (locs : List Loc) (ls : Array Slot), In E ad Vz s H locs → lv_has ls 9 [(0, .ref b0), (1, .ref (ad 248)), (2, .ref (ad 253)), (3, .ref (ad 265)), (4, .int x4_23)] → W p l e room_1 s m #[Value.ref b0] below meth c H locs (cells + 20) (slots + 1374) Q (F0 m 3519 ls [])) : W p l e room_1 s m #[Value.ref b0] below meth c H locs cells slots Q (F0 m 1494 ls []) := by
  have hx := hC.1
  have hb := hC.2.1
  unfold f_law_C20 at hf
  refine lv_aload_n hx hb dL_law_1494 rfl (lv_at hl 1 rfl) ?_
  refine lv_aload_n hx hb dL_law_1495 rfl (lv_at hl 0 rfl) ?_
  refine lv_iload hx hb dL_law_1496 (lv_at hl 4 rfl) ?_
  refine lv_iconst (v := 1) hx hb dL_law_1498 rfl ?_
  refine lv_iadd hx hb dL_law_1499 ?_
  obtain ⟨h1500, hf⟩ := gi hf
  refine r_scr hC hI hX (ib_in h1500) dL_law_1500 ?_
  refine lv_aload_n hx hb dL_law_1501 rfl (lv_at hl 3 rfl) ?_
  obtain ⟨r1502, V1502, q1502, hf⟩ := gbd hf
  refine kl_L_ancestorCount hS hT hC hI hl.1 q1502 tw_4_192 ⟨Nat.le_of_ble_eq_true rfl, Nat.le_of_ble_eq_true rfl⟩ ⟨by show cells + 1 ≤ 601024; omega, by show slots + 6 ≤ 7293034; omega⟩ (Nat.le_of_ble_eq_true rfl) dL_law_1502 (fun H locs hI => ?_)
  refine lv_istore (lv' := [(5, .int r1502), (0, .ref b0), (1, .ref (ad 248)), (2, .ref (ad 253)), (3, .ref (ad 265)), (4, .int x4_23)]) hx hb dL_law_1505 hl (Nat.lt_of_lt_of_eq (by decide) rfl) rfl (fun ls hl => ?_)
  refine lv_aload_n hx hb dL_law_1507 rfl (lv_at hl 3 rfl) ?_
  refine lv_aload_n hx hb dL_law_1508 rfl (lv_at hl 1 rfl) ?_
  refine lv_iload hx hb dL_law_1509 (lv_at hl 5 rfl) ?_
  refine lv_iconst (v := 1) hx hb dL_law_1511 rfl ?_
  refine lv_iadd hx hb dL_law_1512 ?_
  obtain ⟨h1513, hf⟩ := gi hf
  refine r_scr hC hI hX (ib_in h1513) dL_law_1513 ?_
  obtain ⟨r1514, V1514, q1514, hf⟩ := gbd hf
  refine k_X10_ancestorCount hC hI hl.1 q1514 tw_9_20 ⟨Nat.le_of_ble_eq_true rfl, Nat.le_of_ble_eq_true rfl⟩ ⟨by show cells + 1 ≤ 601024; omega, by show slots + 6 ≤ 7293034; omega⟩ (Nat.le_of_ble_eq_true rfl) dL_law_1514 (fun H locs hI => ?_)
  refine lv_istore (lv' := [(6, .int r1514), (5, .int r1502), (0, .ref b0), (1, .ref (ad 248)), (2, .ref (ad 253)), (3, .ref (ad 265)), (4, .int x4_23)]) hx hb dL_law_1517 hl (Nat.lt_of_lt_of_eq (by decide) rfl) rfl (fun ls hl => ?_)
  refine lv_aload_n hx hb dL_law_1519 rfl (lv_at hl 4 rfl) ?_
  obtain ⟨r1520, V1520, q1520, hf⟩ := gbd hf
  refine k_X10_thrown hC hI hl.1 q1520 tw_8_17 ⟨Nat.le_of_ble_eq_true rfl, Nat.le_of_ble_eq_true rfl⟩ ⟨by show cells + 1 ≤ 601024; omega, by show slots + 6 ≤ 7293034; omega⟩ (Nat.le_of_ble_eq_true rfl) dL_law_1520 (fun H locs hI => ?_)
  refine lv_iload hx hb dL_law_1523 (lv_at hl 1 rfl) ?_
  refine lv_icmp_eq (tgt := 1530) hx hb dL_law_1525 (by decide) (fun c1525 => ?_) (fun c1525 => ?_)
  · have hf := gt hf c1525
    refine lv_iload hx hb dL_law_1530 (lv_at hl 1 rfl) ?_
    obtain ⟨j1547, hj1547, hf⟩ := gj hf
    have J1547 : ∀ (V1547 : Mem) (H : Heap) (locs : List Loc) (ls : Array Slot), j1547 V1547 = some Vz → In E ad V1547 s H locs → lv_has ls 9 [(0, .ref b0), (1, .ref (ad 248)), (2, .ref (ad 253)), (3, .ref (ad 265)), (4, .int x4_23)] → W p l e room_1 s m #[Value.ref b0] below meth c H locs (cells + 1) (slots + 6) Q (F0 m 1547 ls []) := by
      intro V1547 H locs ls hf hI hl
      rw [hj1547] at hf
      dsimp only at hf
      refine lv_goto (tgt := 3519) hx hb dL_law_1547 (by decide) ?_
      cases hf
      refine x_wid (c2 := cells + 20) (s2 := slots + 1374) (by omega) (by omega) ?_
      exact kk _ _ _ hI (lv_sub hl [0, 1, 2, 3, 4] rfl)
    refine lv_if_ne (tgt := 1547) hx hb dL_law_1532 (by decide) (fun c1532 => ?_) (fun c1532 => ?_)
    · have hf := gf hf c1532
      exact J1547 _ _ _ _ hf hI (lv_sub hl [2, 3, 4, 5, 6] rfl)
    · have hf := gt hf c1532
      refine lv_aload_n hx hb dL_law_1535 rfl (lv_at hl 5 rfl) ?_
      refine lv_iconst (v := 0) hx hb dL_law_1536 rfl ?_
      refine r_lald hC hI dL_law_1537 ?_
      refine lv_iload hx hb dL_law_1538 (lv_at hl 0 rfl) ?_
      refine lv_i2l hx hb dL_law_1540 rfl ?_
      refine W.lcmp hx hb dL_law_1541 ?_
      refine lv_if_eq (tgt := 1547) hx hb dL_law_1542 (by decide) (fun c1542 => ?_) (fun c1542 => ?_)
      · have hf := gt hf c1542
        exact J1547 _ _ _ _ hf hI (lv_sub hl [2, 3, 4, 5, 6] rfl)
      · have hf := gf hf c1542
        refine lv_iconst (v := 0) hx hb dL_law_1545 rfl ?_
        cases hf
  · have hf := gf hf c1525
    refine lv_iconst (v := 0) hx hb dL_law_1528 rfl ?_
    cases hf

def f_law_C21 (xs : Nat → Int32) (N : Nat) (V : Mem) (x4_23 : Int32) : Option Mem :=
  if ib (x4_23 + 1) N = true then
    if ib (x4_23 + 2) N = true then
      bd (f_L_commonAncestor V (xs (x4_23 + 1).toNatClampNeg) (xs (x4_23 + 2).toNatClampNeg)) fun r1564 V1564 =>
      if ib (x4_23 + 1) N = true then
        if ib (x4_23 + 2) N = true then
          bd (f_X10_commonAncestor V1564 (xs (x4_23 + 1).toNatClampNeg) (xs (x4_23 + 2).toNatClampNeg)) fun r1582 V1582 =>
          bd (f_X10_thrown V1582) fun r1588 V1588 =>
          if r1588 = r1564 then
            jn (α := Mem → Option Mem) (fun j1615 =>
              if r1564 = 0 then
                if (lg_cmp ((V1588 265 0).toInt64) ((r1582).toInt64)) = 0 then
                  j1615 V1588
                else
                  none
              else
                j1615 V1588
            ) (fun (V1615 : Mem) =>
              some V1615
            )
          else
            none
        else none
      else none
    else none
  else none
set_option maxRecDepth 100000 in
set_option maxHeartbeats 4000000 in
theorem lc_21 {p : Program} {l : Launch} {e : Env} {s : State} {m : MethodId} {below : List Frame} {meth : Method} {c : Code} {H : Heap} {locs : List Loc} {cells slots : Nat} {Q : State → Prop} {E : En} {ad : Nat → Nat} {V Vz : Mem} {ls : Array Slot} {xs : Nat → Int32} {N b0 : Nat} {x4_23 : Int32} (hT : l.stackTraces = false) (hS : SF E) (hFr : Fr E) (hX : Sc E s b0 N xs) (hC : Cx p s m #[Value.ref b0] c meth E "LetterRepositoryLaw" cL_law 9 (some .boolean)) (hf : f_law_C21 xs N V x4_23 = some Vz) (hI : In E ad V s H locs) (hl : lv_has ls 9 [(0, .ref b0), (1, .ref (ad 248)), (2, .ref (ad 253)), (3, .ref (ad 265)), (4, .int x4_23)]) (hc1 : cells + 20 ≤ 601024) (hc2 : slots + 1374 ≤ 7293034) (kk : ∀ (H : Heap) (locs : List Loc) (ls : Array Slot), In E ad Vz s H locs → lv_has ls 9 [(0, .ref b0), (1, .ref (ad 248)), (2, .ref (ad 253)), (3, .ref (ad 265)), (4, .int x4_23)] → W p l e room_1 s m #[Value.ref b0] below meth c H locs (cells + 20) (slots + 1374) Q (F0 m 3519 ls [])) : W p l e room_1 s m #[Value.ref b0] below meth c H locs cells slots Q (F0 m 1550 ls []) := by
  have hx := hC.1
  have hb := hC.2.1
  unfold f_law_C21 at hf
  refine lv_aload_n hx hb dL_law_1550 rfl (lv_at hl 1 rfl) ?_
  refine lv_aload_n hx hb dL_law_1551 rfl (lv_at hl 0 rfl) ?_
  refine lv_iload hx hb dL_law_1552 (lv_at hl 4 rfl) ?_
  refine lv_iconst (v := 1) hx hb dL_law_1554 rfl ?_
  refine lv_iadd hx hb dL_law_1555 ?_
  obtain ⟨h1556, hf⟩ := gi hf
  refine r_scr hC hI hX (ib_in h1556) dL_law_1556 ?_
  refine lv_aload_n hx hb dL_law_1557 rfl (lv_at hl 0 rfl) ?_
  refine lv_iload hx hb dL_law_1558 (lv_at hl 4 rfl) ?_
  refine lv_iconst (v := 2) hx hb dL_law_1560 rfl ?_
  refine lv_iadd hx hb dL_law_1561 ?_
  obtain ⟨h1562, hf⟩ := gi hf
  refine r_scr hC hI hX (ib_in h1562) dL_law_1562 ?_
  refine lv_aload_n hx hb dL_law_1563 rfl (lv_at hl 3 rfl) ?_
  obtain ⟨r1564, V1564, q1564, hf⟩ := gbd hf
  refine kl_L_commonAncestor hS hT hC hI hl.1 q1564 tw_4_199 ⟨Nat.le_of_ble_eq_true rfl, Nat.le_of_ble_eq_true rfl⟩ ⟨by show cells + 2 ≤ 601024; omega, by show slots + 12 ≤ 7293034; omega⟩ (Nat.le_of_ble_eq_true rfl) dL_law_1564 (fun H locs hI => ?_)
  refine lv_istore (lv' := [(5, .int r1564), (0, .ref b0), (1, .ref (ad 248)), (2, .ref (ad 253)), (3, .ref (ad 265)), (4, .int x4_23)]) hx hb dL_law_1567 hl (Nat.lt_of_lt_of_eq (by decide) rfl) rfl (fun ls hl => ?_)
  refine lv_aload_n hx hb dL_law_1569 rfl (lv_at hl 3 rfl) ?_
  refine lv_aload_n hx hb dL_law_1570 rfl (lv_at hl 1 rfl) ?_
  refine lv_iload hx hb dL_law_1571 (lv_at hl 5 rfl) ?_
  refine lv_iconst (v := 1) hx hb dL_law_1573 rfl ?_
  refine lv_iadd hx hb dL_law_1574 ?_
  obtain ⟨h1575, hf⟩ := gi hf
  refine r_scr hC hI hX (ib_in h1575) dL_law_1575 ?_
  refine lv_aload_n hx hb dL_law_1576 rfl (lv_at hl 1 rfl) ?_
  refine lv_iload hx hb dL_law_1577 (lv_at hl 5 rfl) ?_
  refine lv_iconst (v := 2) hx hb dL_law_1579 rfl ?_
  refine lv_iadd hx hb dL_law_1580 ?_
  obtain ⟨h1581, hf⟩ := gi hf
  refine r_scr hC hI hX (ib_in h1581) dL_law_1581 ?_
  obtain ⟨r1582, V1582, q1582, hf⟩ := gbd hf
  refine k_X10_commonAncestor hC hI hl.1 q1582 tw_9_24 ⟨Nat.le_of_ble_eq_true rfl, Nat.le_of_ble_eq_true rfl⟩ ⟨by show cells + 2 ≤ 601024; omega, by show slots + 12 ≤ 7293034; omega⟩ (Nat.le_of_ble_eq_true rfl) dL_law_1582 (fun H locs hI => ?_)
  refine lv_istore (lv' := [(6, .int r1582), (5, .int r1564), (0, .ref b0), (1, .ref (ad 248)), (2, .ref (ad 253)), (3, .ref (ad 265)), (4, .int x4_23)]) hx hb dL_law_1585 hl (Nat.lt_of_lt_of_eq (by decide) rfl) rfl (fun ls hl => ?_)
  refine lv_aload_n hx hb dL_law_1587 rfl (lv_at hl 4 rfl) ?_
  obtain ⟨r1588, V1588, q1588, hf⟩ := gbd hf
  refine k_X10_thrown hC hI hl.1 q1588 tw_8_17 ⟨Nat.le_of_ble_eq_true rfl, Nat.le_of_ble_eq_true rfl⟩ ⟨by show cells + 2 ≤ 601024; omega, by show slots + 12 ≤ 7293034; omega⟩ (Nat.le_of_ble_eq_true rfl) dL_law_1588 (fun H locs hI => ?_)
  refine lv_iload hx hb dL_law_1591 (lv_at hl 1 rfl) ?_
  refine lv_icmp_eq (tgt := 1598) hx hb dL_law_1593 (by decide) (fun c1593 => ?_) (fun c1593 => ?_)
  · have hf := gt hf c1593
    refine lv_iload hx hb dL_law_1598 (lv_at hl 1 rfl) ?_
    obtain ⟨j1615, hj1615, hf⟩ := gj hf
    have J1615 : ∀ (V1615 : Mem) (H : Heap) (locs : List Loc) (ls : Array Slot), j1615 V1615 = some Vz → In E ad V1615 s H locs → lv_has ls 9 [(0, .ref b0), (1, .ref (ad 248)), (2, .ref (ad 253)), (3, .ref (ad 265)), (4, .int x4_23)] → W p l e room_1 s m #[Value.ref b0] below meth c H locs (cells + 2) (slots + 12) Q (F0 m 1615 ls []) := by
      intro V1615 H locs ls hf hI hl
      rw [hj1615] at hf
      dsimp only at hf
      refine lv_goto (tgt := 3519) hx hb dL_law_1615 (by decide) ?_
      cases hf
      refine x_wid (c2 := cells + 20) (s2 := slots + 1374) (by omega) (by omega) ?_
      exact kk _ _ _ hI (lv_sub hl [0, 1, 2, 3, 4] rfl)
    refine lv_if_ne (tgt := 1615) hx hb dL_law_1600 (by decide) (fun c1600 => ?_) (fun c1600 => ?_)
    · have hf := gf hf c1600
      exact J1615 _ _ _ _ hf hI (lv_sub hl [2, 3, 4, 5, 6] rfl)
    · have hf := gt hf c1600
      refine lv_aload_n hx hb dL_law_1603 rfl (lv_at hl 5 rfl) ?_
      refine lv_iconst (v := 0) hx hb dL_law_1604 rfl ?_
      refine r_lald hC hI dL_law_1605 ?_
      refine lv_iload hx hb dL_law_1606 (lv_at hl 0 rfl) ?_
      refine lv_i2l hx hb dL_law_1608 rfl ?_
      refine W.lcmp hx hb dL_law_1609 ?_
      refine lv_if_eq (tgt := 1615) hx hb dL_law_1610 (by decide) (fun c1610 => ?_) (fun c1610 => ?_)
      · have hf := gt hf c1610
        exact J1615 _ _ _ _ hf hI (lv_sub hl [2, 3, 4, 5, 6] rfl)
      · have hf := gf hf c1610
        refine lv_iconst (v := 0) hx hb dL_law_1613 rfl ?_
        cases hf
  · have hf := gf hf c1593
    refine lv_iconst (v := 0) hx hb dL_law_1596 rfl ?_
    cases hf

def f_law_C22 (xs : Nat → Int32) (N : Nat) (V : Mem) (x4_23 : Int32) : Option Mem :=
  if ib (x4_23 + 1) N = true then
    if ib (x4_23 + 2) N = true then
      bd (f_L_commonAncestorBySets V (xs (x4_23 + 1).toNatClampNeg) (xs (x4_23 + 2).toNatClampNeg)) fun r1632 V1632 =>
      if ib (x4_23 + 1) N = true then
        if ib (x4_23 + 2) N = true then
          bd (f_X10_commonAncestorBySets V1632 (xs (x4_23 + 1).toNatClampNeg) (xs (x4_23 + 2).toNatClampNeg)) fun r1650 V1650 =>
          bd (f_X10_thrown V1650) fun r1656 V1656 =>
          if r1656 = r1632 then
            jn (α := Mem → Option Mem) (fun j1683 =>
              if r1632 = 0 then
                if (lg_cmp ((V1656 265 0).toInt64) ((r1650).toInt64)) = 0 then
                  j1683 V1656
                else
                  none
              else
                j1683 V1656
            ) (fun (V1683 : Mem) =>
              some V1683
            )
          else
            none
        else none
      else none
    else none
  else none
set_option maxRecDepth 100000 in
set_option maxHeartbeats 4000000 in
theorem lc_22 {p : Program} {l : Launch} {e : Env} {s : State} {m : MethodId} {below : List Frame} {meth : Method} {c : Code} {H : Heap} {locs : List Loc} {cells slots : Nat} {Q : State → Prop} {E : En} {ad : Nat → Nat} {V Vz : Mem} {ls : Array Slot} {xs : Nat → Int32} {N b0 : Nat} {x4_23 : Int32} (hT : l.stackTraces = false) (hS : SF E) (hFr : Fr E) (hX : Sc E s b0 N xs) (hC : Cx p s m #[Value.ref b0] c meth E "LetterRepositoryLaw" cL_law 9 (some .boolean)) (hf : f_law_C22 xs N V x4_23 = some Vz) (hI : In E ad V s H locs) (hl : lv_has ls 9 [(0, .ref b0), (1, .ref (ad 248)), (2, .ref (ad 253)), (3, .ref (ad 265)), (4, .int x4_23)]) (hc1 : cells + 20 ≤ 601024) (hc2 : slots + 1374 ≤ 7293034) (kk : ∀ (H : Heap) (locs : List Loc) (ls : Array Slot), In E ad Vz s H locs → lv_has ls 9 [(0, .ref b0), (1, .ref (ad 248)), (2, .ref (ad 253)), (3, .ref (ad 265)), (4, .int x4_23)] → W p l e room_1 s m #[Value.ref b0] below meth c H locs (cells + 20) (slots + 1374) Q (F0 m 3519 ls [])) : W p l e room_1 s m #[Value.ref b0] below meth c H locs cells slots Q (F0 m 1618 ls []) := by
  have hx := hC.1
  have hb := hC.2.1
  unfold f_law_C22 at hf
  refine lv_aload_n hx hb dL_law_1618 rfl (lv_at hl 1 rfl) ?_
  refine lv_aload_n hx hb dL_law_1619 rfl (lv_at hl 0 rfl) ?_
  refine lv_iload hx hb dL_law_1620 (lv_at hl 4 rfl) ?_
  refine lv_iconst (v := 1) hx hb dL_law_1622 rfl ?_
  refine lv_iadd hx hb dL_law_1623 ?_
  obtain ⟨h1624, hf⟩ := gi hf
  refine r_scr hC hI hX (ib_in h1624) dL_law_1624 ?_
  refine lv_aload_n hx hb dL_law_1625 rfl (lv_at hl 0 rfl) ?_
  refine lv_iload hx hb dL_law_1626 (lv_at hl 4 rfl) ?_
  refine lv_iconst (v := 2) hx hb dL_law_1628 rfl ?_
  refine lv_iadd hx hb dL_law_1629 ?_
  obtain ⟨h1630, hf⟩ := gi hf
  refine r_scr hC hI hX (ib_in h1630) dL_law_1630 ?_
  refine lv_aload_n hx hb dL_law_1631 rfl (lv_at hl 3 rfl) ?_
  obtain ⟨r1632, V1632, q1632, hf⟩ := gbd hf
  refine kl_L_commonAncestorBySets hS hT hC hI hl.1 q1632 tw_4_207 ⟨Nat.le_of_ble_eq_true rfl, Nat.le_of_ble_eq_true rfl⟩ ⟨by show cells + 2 ≤ 601024; omega, by show slots + 12 ≤ 7293034; omega⟩ (Nat.le_of_ble_eq_true rfl) dL_law_1632 (fun H locs hI => ?_)
  refine lv_istore (lv' := [(5, .int r1632), (0, .ref b0), (1, .ref (ad 248)), (2, .ref (ad 253)), (3, .ref (ad 265)), (4, .int x4_23)]) hx hb dL_law_1635 hl (Nat.lt_of_lt_of_eq (by decide) rfl) rfl (fun ls hl => ?_)
  refine lv_aload_n hx hb dL_law_1637 rfl (lv_at hl 3 rfl) ?_
  refine lv_aload_n hx hb dL_law_1638 rfl (lv_at hl 1 rfl) ?_
  refine lv_iload hx hb dL_law_1639 (lv_at hl 5 rfl) ?_
  refine lv_iconst (v := 1) hx hb dL_law_1641 rfl ?_
  refine lv_iadd hx hb dL_law_1642 ?_
  obtain ⟨h1643, hf⟩ := gi hf
  refine r_scr hC hI hX (ib_in h1643) dL_law_1643 ?_
  refine lv_aload_n hx hb dL_law_1644 rfl (lv_at hl 1 rfl) ?_
  refine lv_iload hx hb dL_law_1645 (lv_at hl 5 rfl) ?_
  refine lv_iconst (v := 2) hx hb dL_law_1647 rfl ?_
  refine lv_iadd hx hb dL_law_1648 ?_
  obtain ⟨h1649, hf⟩ := gi hf
  refine r_scr hC hI hX (ib_in h1649) dL_law_1649 ?_
  obtain ⟨r1650, V1650, q1650, hf⟩ := gbd hf
  refine k_X10_commonAncestorBySets hC hI hl.1 q1650 tw_9_28 ⟨Nat.le_of_ble_eq_true rfl, Nat.le_of_ble_eq_true rfl⟩ ⟨by show cells + 2 ≤ 601024; omega, by show slots + 12 ≤ 7293034; omega⟩ (Nat.le_of_ble_eq_true rfl) dL_law_1650 (fun H locs hI => ?_)
  refine lv_istore (lv' := [(6, .int r1650), (5, .int r1632), (0, .ref b0), (1, .ref (ad 248)), (2, .ref (ad 253)), (3, .ref (ad 265)), (4, .int x4_23)]) hx hb dL_law_1653 hl (Nat.lt_of_lt_of_eq (by decide) rfl) rfl (fun ls hl => ?_)
  refine lv_aload_n hx hb dL_law_1655 rfl (lv_at hl 4 rfl) ?_
  obtain ⟨r1656, V1656, q1656, hf⟩ := gbd hf
  refine k_X10_thrown hC hI hl.1 q1656 tw_8_17 ⟨Nat.le_of_ble_eq_true rfl, Nat.le_of_ble_eq_true rfl⟩ ⟨by show cells + 2 ≤ 601024; omega, by show slots + 12 ≤ 7293034; omega⟩ (Nat.le_of_ble_eq_true rfl) dL_law_1656 (fun H locs hI => ?_)
  refine lv_iload hx hb dL_law_1659 (lv_at hl 1 rfl) ?_
  refine lv_icmp_eq (tgt := 1666) hx hb dL_law_1661 (by decide) (fun c1661 => ?_) (fun c1661 => ?_)
  · have hf := gt hf c1661
    refine lv_iload hx hb dL_law_1666 (lv_at hl 1 rfl) ?_
    obtain ⟨j1683, hj1683, hf⟩ := gj hf
    have J1683 : ∀ (V1683 : Mem) (H : Heap) (locs : List Loc) (ls : Array Slot), j1683 V1683 = some Vz → In E ad V1683 s H locs → lv_has ls 9 [(0, .ref b0), (1, .ref (ad 248)), (2, .ref (ad 253)), (3, .ref (ad 265)), (4, .int x4_23)] → W p l e room_1 s m #[Value.ref b0] below meth c H locs (cells + 2) (slots + 12) Q (F0 m 1683 ls []) := by
      intro V1683 H locs ls hf hI hl
      rw [hj1683] at hf
      dsimp only at hf
      refine lv_goto (tgt := 3519) hx hb dL_law_1683 (by decide) ?_
      cases hf
      refine x_wid (c2 := cells + 20) (s2 := slots + 1374) (by omega) (by omega) ?_
      exact kk _ _ _ hI (lv_sub hl [0, 1, 2, 3, 4] rfl)
    refine lv_if_ne (tgt := 1683) hx hb dL_law_1668 (by decide) (fun c1668 => ?_) (fun c1668 => ?_)
    · have hf := gf hf c1668
      exact J1683 _ _ _ _ hf hI (lv_sub hl [2, 3, 4, 5, 6] rfl)
    · have hf := gt hf c1668
      refine lv_aload_n hx hb dL_law_1671 rfl (lv_at hl 5 rfl) ?_
      refine lv_iconst (v := 0) hx hb dL_law_1672 rfl ?_
      refine r_lald hC hI dL_law_1673 ?_
      refine lv_iload hx hb dL_law_1674 (lv_at hl 0 rfl) ?_
      refine lv_i2l hx hb dL_law_1676 rfl ?_
      refine W.lcmp hx hb dL_law_1677 ?_
      refine lv_if_eq (tgt := 1683) hx hb dL_law_1678 (by decide) (fun c1678 => ?_) (fun c1678 => ?_)
      · have hf := gt hf c1678
        exact J1683 _ _ _ _ hf hI (lv_sub hl [2, 3, 4, 5, 6] rfl)
      · have hf := gf hf c1678
        refine lv_iconst (v := 0) hx hb dL_law_1681 rfl ?_
        cases hf
  · have hf := gf hf c1661
    refine lv_iconst (v := 0) hx hb dL_law_1664 rfl ?_
    cases hf

def f_law_C23 (xs : Nat → Int32) (N : Nat) (V : Mem) (x4_23 : Int32) : Option Mem :=
  if ib (x4_23 + 1) N = true then
    if ib (x4_23 + 2) N = true then
      bd (f_L_distance V (xs (x4_23 + 1).toNatClampNeg) (xs (x4_23 + 2).toNatClampNeg)) fun r1700 V1700 =>
      if ib (x4_23 + 1) N = true then
        if ib (x4_23 + 2) N = true then
          bd (f_X10_distance V1700 (xs (x4_23 + 1).toNatClampNeg) (xs (x4_23 + 2).toNatClampNeg)) fun r1718 V1718 =>
          bd (f_X10_thrown V1718) fun r1724 V1724 =>
          if r1724 = r1700 then
            jn (α := Mem → Option Mem) (fun j1751 =>
              if r1700 = 0 then
                if (lg_cmp ((V1724 265 0).toInt64) ((r1718).toInt64)) = 0 then
                  j1751 V1724
                else
                  none
              else
                j1751 V1724
            ) (fun (V1751 : Mem) =>
              some V1751
            )
          else
            none
        else none
      else none
    else none
  else none
set_option maxRecDepth 100000 in
set_option maxHeartbeats 4000000 in
theorem lc_23 {p : Program} {l : Launch} {e : Env} {s : State} {m : MethodId} {below : List Frame} {meth : Method} {c : Code} {H : Heap} {locs : List Loc} {cells slots : Nat} {Q : State → Prop} {E : En} {ad : Nat → Nat} {V Vz : Mem} {ls : Array Slot} {xs : Nat → Int32} {N b0 : Nat} {x4_23 : Int32} (hT : l.stackTraces = false) (hS : SF E) (hFr : Fr E) (hX : Sc E s b0 N xs) (hC : Cx p s m #[Value.ref b0] c meth E "LetterRepositoryLaw" cL_law 9 (some .boolean)) (hf : f_law_C23 xs N V x4_23 = some Vz) (hI : In E ad V s H locs) (hl : lv_has ls 9 [(0, .ref b0), (1, .ref (ad 248)), (2, .ref (ad 253)), (3, .ref (ad 265)), (4, .int x4_23)]) (hc1 : cells + 20 ≤ 601024) (hc2 : slots + 1374 ≤ 7293034) (kk : ∀ (H : Heap) (locs : List Loc) (ls : Array Slot), In E ad Vz s H locs → lv_has ls 9 [(0, .ref b0), (1, .ref (ad 248)), (2, .ref (ad 253)), (3, .ref (ad 265)), (4, .int x4_23)] → W p l e room_1 s m #[Value.ref b0] below meth c H locs (cells + 20) (slots + 1374) Q (F0 m 3519 ls [])) : W p l e room_1 s m #[Value.ref b0] below meth c H locs cells slots Q (F0 m 1686 ls []) := by
  have hx := hC.1
  have hb := hC.2.1
  unfold f_law_C23 at hf
  refine lv_aload_n hx hb dL_law_1686 rfl (lv_at hl 1 rfl) ?_
  refine lv_aload_n hx hb dL_law_1687 rfl (lv_at hl 0 rfl) ?_
  refine lv_iload hx hb dL_law_1688 (lv_at hl 4 rfl) ?_
  refine lv_iconst (v := 1) hx hb dL_law_1690 rfl ?_
  refine lv_iadd hx hb dL_law_1691 ?_
  obtain ⟨h1692, hf⟩ := gi hf
  refine r_scr hC hI hX (ib_in h1692) dL_law_1692 ?_
  refine lv_aload_n hx hb dL_law_1693 rfl (lv_at hl 0 rfl) ?_
  refine lv_iload hx hb dL_law_1694 (lv_at hl 4 rfl) ?_
  refine lv_iconst (v := 2) hx hb dL_law_1696 rfl ?_
  refine lv_iadd hx hb dL_law_1697 ?_
  obtain ⟨h1698, hf⟩ := gi hf
  refine r_scr hC hI hX (ib_in h1698) dL_law_1698 ?_
  refine lv_aload_n hx hb dL_law_1699 rfl (lv_at hl 3 rfl) ?_
  obtain ⟨r1700, V1700, q1700, hf⟩ := gbd hf
  refine kl_L_distance hS hT hC hI hl.1 q1700 tw_4_215 ⟨Nat.le_of_ble_eq_true rfl, Nat.le_of_ble_eq_true rfl⟩ ⟨by show cells + 2 ≤ 601024; omega, by show slots + 12 ≤ 7293034; omega⟩ (Nat.le_of_ble_eq_true rfl) dL_law_1700 (fun H locs hI => ?_)
  refine lv_istore (lv' := [(5, .int r1700), (0, .ref b0), (1, .ref (ad 248)), (2, .ref (ad 253)), (3, .ref (ad 265)), (4, .int x4_23)]) hx hb dL_law_1703 hl (Nat.lt_of_lt_of_eq (by decide) rfl) rfl (fun ls hl => ?_)
  refine lv_aload_n hx hb dL_law_1705 rfl (lv_at hl 3 rfl) ?_
  refine lv_aload_n hx hb dL_law_1706 rfl (lv_at hl 1 rfl) ?_
  refine lv_iload hx hb dL_law_1707 (lv_at hl 5 rfl) ?_
  refine lv_iconst (v := 1) hx hb dL_law_1709 rfl ?_
  refine lv_iadd hx hb dL_law_1710 ?_
  obtain ⟨h1711, hf⟩ := gi hf
  refine r_scr hC hI hX (ib_in h1711) dL_law_1711 ?_
  refine lv_aload_n hx hb dL_law_1712 rfl (lv_at hl 1 rfl) ?_
  refine lv_iload hx hb dL_law_1713 (lv_at hl 5 rfl) ?_
  refine lv_iconst (v := 2) hx hb dL_law_1715 rfl ?_
  refine lv_iadd hx hb dL_law_1716 ?_
  obtain ⟨h1717, hf⟩ := gi hf
  refine r_scr hC hI hX (ib_in h1717) dL_law_1717 ?_
  obtain ⟨r1718, V1718, q1718, hf⟩ := gbd hf
  refine k_X10_distance hC hI hl.1 q1718 tw_9_33 ⟨Nat.le_of_ble_eq_true rfl, Nat.le_of_ble_eq_true rfl⟩ ⟨by show cells + 2 ≤ 601024; omega, by show slots + 12 ≤ 7293034; omega⟩ (Nat.le_of_ble_eq_true rfl) dL_law_1718 (fun H locs hI => ?_)
  refine lv_istore (lv' := [(6, .int r1718), (5, .int r1700), (0, .ref b0), (1, .ref (ad 248)), (2, .ref (ad 253)), (3, .ref (ad 265)), (4, .int x4_23)]) hx hb dL_law_1721 hl (Nat.lt_of_lt_of_eq (by decide) rfl) rfl (fun ls hl => ?_)
  refine lv_aload_n hx hb dL_law_1723 rfl (lv_at hl 4 rfl) ?_
  obtain ⟨r1724, V1724, q1724, hf⟩ := gbd hf
  refine k_X10_thrown hC hI hl.1 q1724 tw_8_17 ⟨Nat.le_of_ble_eq_true rfl, Nat.le_of_ble_eq_true rfl⟩ ⟨by show cells + 2 ≤ 601024; omega, by show slots + 12 ≤ 7293034; omega⟩ (Nat.le_of_ble_eq_true rfl) dL_law_1724 (fun H locs hI => ?_)
  refine lv_iload hx hb dL_law_1727 (lv_at hl 1 rfl) ?_
  refine lv_icmp_eq (tgt := 1734) hx hb dL_law_1729 (by decide) (fun c1729 => ?_) (fun c1729 => ?_)
  · have hf := gt hf c1729
    refine lv_iload hx hb dL_law_1734 (lv_at hl 1 rfl) ?_
    obtain ⟨j1751, hj1751, hf⟩ := gj hf
    have J1751 : ∀ (V1751 : Mem) (H : Heap) (locs : List Loc) (ls : Array Slot), j1751 V1751 = some Vz → In E ad V1751 s H locs → lv_has ls 9 [(0, .ref b0), (1, .ref (ad 248)), (2, .ref (ad 253)), (3, .ref (ad 265)), (4, .int x4_23)] → W p l e room_1 s m #[Value.ref b0] below meth c H locs (cells + 2) (slots + 12) Q (F0 m 1751 ls []) := by
      intro V1751 H locs ls hf hI hl
      rw [hj1751] at hf
      dsimp only at hf
      refine lv_goto (tgt := 3519) hx hb dL_law_1751 (by decide) ?_
      cases hf
      refine x_wid (c2 := cells + 20) (s2 := slots + 1374) (by omega) (by omega) ?_
      exact kk _ _ _ hI (lv_sub hl [0, 1, 2, 3, 4] rfl)
    refine lv_if_ne (tgt := 1751) hx hb dL_law_1736 (by decide) (fun c1736 => ?_) (fun c1736 => ?_)
    · have hf := gf hf c1736
      exact J1751 _ _ _ _ hf hI (lv_sub hl [2, 3, 4, 5, 6] rfl)
    · have hf := gt hf c1736
      refine lv_aload_n hx hb dL_law_1739 rfl (lv_at hl 5 rfl) ?_
      refine lv_iconst (v := 0) hx hb dL_law_1740 rfl ?_
      refine r_lald hC hI dL_law_1741 ?_
      refine lv_iload hx hb dL_law_1742 (lv_at hl 0 rfl) ?_
      refine lv_i2l hx hb dL_law_1744 rfl ?_
      refine W.lcmp hx hb dL_law_1745 ?_
      refine lv_if_eq (tgt := 1751) hx hb dL_law_1746 (by decide) (fun c1746 => ?_) (fun c1746 => ?_)
      · have hf := gt hf c1746
        exact J1751 _ _ _ _ hf hI (lv_sub hl [2, 3, 4, 5, 6] rfl)
      · have hf := gf hf c1746
        refine lv_iconst (v := 0) hx hb dL_law_1749 rfl ?_
        cases hf
  · have hf := gf hf c1729
    refine lv_iconst (v := 0) hx hb dL_law_1732 rfl ?_
    cases hf

def f_law_C24 (xs : Nat → Int32) (N : Nat) (V : Mem) (x4_23 : Int32) : Option Mem :=
  if ib (x4_23 + 1) N = true then
    if ib (x4_23 + 2) N = true then
      bd (f_L_differences V (xs (x4_23 + 1).toNatClampNeg) (xs (x4_23 + 2).toNatClampNeg)) fun r1768 V1768 =>
      if ib (x4_23 + 1) N = true then
        if ib (x4_23 + 2) N = true then
          bd (f_X10_differences V1768 (xs (x4_23 + 1).toNatClampNeg) (xs (x4_23 + 2).toNatClampNeg)) fun r1786 V1786 =>
          bd (f_X10_thrown V1786) fun r1792 V1792 =>
          if r1792 = r1768 then
            jn (α := Mem → Option Mem) (fun j1819 =>
              if r1768 = 0 then
                if (lg_cmp ((V1792 265 0).toInt64) ((r1786).toInt64)) = 0 then
                  j1819 V1792
                else
                  none
              else
                j1819 V1792
            ) (fun (V1819 : Mem) =>
              some V1819
            )
          else
            none
        else none
      else none
    else none
  else none
set_option maxRecDepth 100000 in
set_option maxHeartbeats 4000000 in
theorem lc_24 {p : Program} {l : Launch} {e : Env} {s : State} {m : MethodId} {below : List Frame} {meth : Method} {c : Code} {H : Heap} {locs : List Loc} {cells slots : Nat} {Q : State → Prop} {E : En} {ad : Nat → Nat} {V Vz : Mem} {ls : Array Slot} {xs : Nat → Int32} {N b0 : Nat} {x4_23 : Int32} (hT : l.stackTraces = false) (hS : SF E) (hFr : Fr E) (hX : Sc E s b0 N xs) (hC : Cx p s m #[Value.ref b0] c meth E "LetterRepositoryLaw" cL_law 9 (some .boolean)) (hf : f_law_C24 xs N V x4_23 = some Vz) (hI : In E ad V s H locs) (hl : lv_has ls 9 [(0, .ref b0), (1, .ref (ad 248)), (2, .ref (ad 253)), (3, .ref (ad 265)), (4, .int x4_23)]) (hc1 : cells + 20 ≤ 601024) (hc2 : slots + 1374 ≤ 7293034) (kk : ∀ (H : Heap) (locs : List Loc) (ls : Array Slot), In E ad Vz s H locs → lv_has ls 9 [(0, .ref b0), (1, .ref (ad 248)), (2, .ref (ad 253)), (3, .ref (ad 265)), (4, .int x4_23)] → W p l e room_1 s m #[Value.ref b0] below meth c H locs (cells + 20) (slots + 1374) Q (F0 m 3519 ls [])) : W p l e room_1 s m #[Value.ref b0] below meth c H locs cells slots Q (F0 m 1754 ls []) := by
  have hx := hC.1
  have hb := hC.2.1
  unfold f_law_C24 at hf
  refine lv_aload_n hx hb dL_law_1754 rfl (lv_at hl 1 rfl) ?_
  refine lv_aload_n hx hb dL_law_1755 rfl (lv_at hl 0 rfl) ?_
  refine lv_iload hx hb dL_law_1756 (lv_at hl 4 rfl) ?_
  refine lv_iconst (v := 1) hx hb dL_law_1758 rfl ?_
  refine lv_iadd hx hb dL_law_1759 ?_
  obtain ⟨h1760, hf⟩ := gi hf
  refine r_scr hC hI hX (ib_in h1760) dL_law_1760 ?_
  refine lv_aload_n hx hb dL_law_1761 rfl (lv_at hl 0 rfl) ?_
  refine lv_iload hx hb dL_law_1762 (lv_at hl 4 rfl) ?_
  refine lv_iconst (v := 2) hx hb dL_law_1764 rfl ?_
  refine lv_iadd hx hb dL_law_1765 ?_
  obtain ⟨h1766, hf⟩ := gi hf
  refine r_scr hC hI hX (ib_in h1766) dL_law_1766 ?_
  refine lv_aload_n hx hb dL_law_1767 rfl (lv_at hl 3 rfl) ?_
  obtain ⟨r1768, V1768, q1768, hf⟩ := gbd hf
  refine kl_L_differences hS hT hC hI hl.1 q1768 tw_4_230 ⟨Nat.le_of_ble_eq_true rfl, Nat.le_of_ble_eq_true rfl⟩ ⟨by show cells + 2 ≤ 601024; omega, by show slots + 12 ≤ 7293034; omega⟩ (Nat.le_of_ble_eq_true rfl) dL_law_1768 (fun H locs hI => ?_)
  refine lv_istore (lv' := [(5, .int r1768), (0, .ref b0), (1, .ref (ad 248)), (2, .ref (ad 253)), (3, .ref (ad 265)), (4, .int x4_23)]) hx hb dL_law_1771 hl (Nat.lt_of_lt_of_eq (by decide) rfl) rfl (fun ls hl => ?_)
  refine lv_aload_n hx hb dL_law_1773 rfl (lv_at hl 3 rfl) ?_
  refine lv_aload_n hx hb dL_law_1774 rfl (lv_at hl 1 rfl) ?_
  refine lv_iload hx hb dL_law_1775 (lv_at hl 5 rfl) ?_
  refine lv_iconst (v := 1) hx hb dL_law_1777 rfl ?_
  refine lv_iadd hx hb dL_law_1778 ?_
  obtain ⟨h1779, hf⟩ := gi hf
  refine r_scr hC hI hX (ib_in h1779) dL_law_1779 ?_
  refine lv_aload_n hx hb dL_law_1780 rfl (lv_at hl 1 rfl) ?_
  refine lv_iload hx hb dL_law_1781 (lv_at hl 5 rfl) ?_
  refine lv_iconst (v := 2) hx hb dL_law_1783 rfl ?_
  refine lv_iadd hx hb dL_law_1784 ?_
  obtain ⟨h1785, hf⟩ := gi hf
  refine r_scr hC hI hX (ib_in h1785) dL_law_1785 ?_
  obtain ⟨r1786, V1786, q1786, hf⟩ := gbd hf
  refine k_X10_differences hC hI hl.1 q1786 tw_9_41 ⟨Nat.le_of_ble_eq_true rfl, Nat.le_of_ble_eq_true rfl⟩ ⟨by show cells + 2 ≤ 601024; omega, by show slots + 12 ≤ 7293034; omega⟩ (Nat.le_of_ble_eq_true rfl) dL_law_1786 (fun H locs hI => ?_)
  refine lv_istore (lv' := [(6, .int r1786), (5, .int r1768), (0, .ref b0), (1, .ref (ad 248)), (2, .ref (ad 253)), (3, .ref (ad 265)), (4, .int x4_23)]) hx hb dL_law_1789 hl (Nat.lt_of_lt_of_eq (by decide) rfl) rfl (fun ls hl => ?_)
  refine lv_aload_n hx hb dL_law_1791 rfl (lv_at hl 4 rfl) ?_
  obtain ⟨r1792, V1792, q1792, hf⟩ := gbd hf
  refine k_X10_thrown hC hI hl.1 q1792 tw_8_17 ⟨Nat.le_of_ble_eq_true rfl, Nat.le_of_ble_eq_true rfl⟩ ⟨by show cells + 2 ≤ 601024; omega, by show slots + 12 ≤ 7293034; omega⟩ (Nat.le_of_ble_eq_true rfl) dL_law_1792 (fun H locs hI => ?_)
  refine lv_iload hx hb dL_law_1795 (lv_at hl 1 rfl) ?_
  refine lv_icmp_eq (tgt := 1802) hx hb dL_law_1797 (by decide) (fun c1797 => ?_) (fun c1797 => ?_)
  · have hf := gt hf c1797
    refine lv_iload hx hb dL_law_1802 (lv_at hl 1 rfl) ?_
    obtain ⟨j1819, hj1819, hf⟩ := gj hf
    have J1819 : ∀ (V1819 : Mem) (H : Heap) (locs : List Loc) (ls : Array Slot), j1819 V1819 = some Vz → In E ad V1819 s H locs → lv_has ls 9 [(0, .ref b0), (1, .ref (ad 248)), (2, .ref (ad 253)), (3, .ref (ad 265)), (4, .int x4_23)] → W p l e room_1 s m #[Value.ref b0] below meth c H locs (cells + 2) (slots + 12) Q (F0 m 1819 ls []) := by
      intro V1819 H locs ls hf hI hl
      rw [hj1819] at hf
      dsimp only at hf
      refine lv_goto (tgt := 3519) hx hb dL_law_1819 (by decide) ?_
      cases hf
      refine x_wid (c2 := cells + 20) (s2 := slots + 1374) (by omega) (by omega) ?_
      exact kk _ _ _ hI (lv_sub hl [0, 1, 2, 3, 4] rfl)
    refine lv_if_ne (tgt := 1819) hx hb dL_law_1804 (by decide) (fun c1804 => ?_) (fun c1804 => ?_)
    · have hf := gf hf c1804
      exact J1819 _ _ _ _ hf hI (lv_sub hl [2, 3, 4, 5, 6] rfl)
    · have hf := gt hf c1804
      refine lv_aload_n hx hb dL_law_1807 rfl (lv_at hl 5 rfl) ?_
      refine lv_iconst (v := 0) hx hb dL_law_1808 rfl ?_
      refine r_lald hC hI dL_law_1809 ?_
      refine lv_iload hx hb dL_law_1810 (lv_at hl 0 rfl) ?_
      refine lv_i2l hx hb dL_law_1812 rfl ?_
      refine W.lcmp hx hb dL_law_1813 ?_
      refine lv_if_eq (tgt := 1819) hx hb dL_law_1814 (by decide) (fun c1814 => ?_) (fun c1814 => ?_)
      · have hf := gt hf c1814
        exact J1819 _ _ _ _ hf hI (lv_sub hl [2, 3, 4, 5, 6] rfl)
      · have hf := gf hf c1814
        refine lv_iconst (v := 0) hx hb dL_law_1817 rfl ?_
        cases hf
  · have hf := gf hf c1797
    refine lv_iconst (v := 0) hx hb dL_law_1800 rfl ?_
    cases hf

def f_law_C25 (xs : Nat → Int32) (N : Nat) (V : Mem) (x4_23 : Int32) : Option Mem :=
  if ib (x4_23 + 1) N = true then
    if ib (x4_23 + 2) N = true then
      bd (f_L_originOf V (xs (x4_23 + 1).toNatClampNeg) (xs (x4_23 + 2).toNatClampNeg)) fun r1836 V1836 =>
      if ib (x4_23 + 1) N = true then
        if ib (x4_23 + 2) N = true then
          bd (f_X10_originOf V1836 (xs (x4_23 + 1).toNatClampNeg) (xs (x4_23 + 2).toNatClampNeg)) fun r1854 V1854 =>
          bd (f_X10_thrown V1854) fun r1860 V1860 =>
          if r1860 = r1836 then
            jn (α := Mem → Option Mem) (fun j1887 =>
              if r1836 = 0 then
                if (lg_cmp ((V1860 265 0).toInt64) ((r1854).toInt64)) = 0 then
                  j1887 V1860
                else
                  none
              else
                j1887 V1860
            ) (fun (V1887 : Mem) =>
              some V1887
            )
          else
            none
        else none
      else none
    else none
  else none
set_option maxRecDepth 100000 in
set_option maxHeartbeats 4000000 in
theorem lc_25 {p : Program} {l : Launch} {e : Env} {s : State} {m : MethodId} {below : List Frame} {meth : Method} {c : Code} {H : Heap} {locs : List Loc} {cells slots : Nat} {Q : State → Prop} {E : En} {ad : Nat → Nat} {V Vz : Mem} {ls : Array Slot} {xs : Nat → Int32} {N b0 : Nat} {x4_23 : Int32} (hT : l.stackTraces = false) (hS : SF E) (hFr : Fr E) (hX : Sc E s b0 N xs) (hC : Cx p s m #[Value.ref b0] c meth E "LetterRepositoryLaw" cL_law 9 (some .boolean)) (hf : f_law_C25 xs N V x4_23 = some Vz) (hI : In E ad V s H locs) (hl : lv_has ls 9 [(0, .ref b0), (1, .ref (ad 248)), (2, .ref (ad 253)), (3, .ref (ad 265)), (4, .int x4_23)]) (hc1 : cells + 20 ≤ 601024) (hc2 : slots + 1374 ≤ 7293034) (kk : ∀ (H : Heap) (locs : List Loc) (ls : Array Slot), In E ad Vz s H locs → lv_has ls 9 [(0, .ref b0), (1, .ref (ad 248)), (2, .ref (ad 253)), (3, .ref (ad 265)), (4, .int x4_23)] → W p l e room_1 s m #[Value.ref b0] below meth c H locs (cells + 20) (slots + 1374) Q (F0 m 3519 ls [])) : W p l e room_1 s m #[Value.ref b0] below meth c H locs cells slots Q (F0 m 1822 ls []) := by
  have hx := hC.1
  have hb := hC.2.1
  unfold f_law_C25 at hf
  refine lv_aload_n hx hb dL_law_1822 rfl (lv_at hl 1 rfl) ?_
  refine lv_aload_n hx hb dL_law_1823 rfl (lv_at hl 0 rfl) ?_
  refine lv_iload hx hb dL_law_1824 (lv_at hl 4 rfl) ?_
  refine lv_iconst (v := 1) hx hb dL_law_1826 rfl ?_
  refine lv_iadd hx hb dL_law_1827 ?_
  obtain ⟨h1828, hf⟩ := gi hf
  refine r_scr hC hI hX (ib_in h1828) dL_law_1828 ?_
  refine lv_aload_n hx hb dL_law_1829 rfl (lv_at hl 0 rfl) ?_
  refine lv_iload hx hb dL_law_1830 (lv_at hl 4 rfl) ?_
  refine lv_iconst (v := 2) hx hb dL_law_1832 rfl ?_
  refine lv_iadd hx hb dL_law_1833 ?_
  obtain ⟨h1834, hf⟩ := gi hf
  refine r_scr hC hI hX (ib_in h1834) dL_law_1834 ?_
  refine lv_aload_n hx hb dL_law_1835 rfl (lv_at hl 3 rfl) ?_
  obtain ⟨r1836, V1836, q1836, hf⟩ := gbd hf
  refine kl_L_originOf hS hT hC hI hl.1 q1836 tw_5_1 ⟨Nat.le_of_ble_eq_true rfl, Nat.le_of_ble_eq_true rfl⟩ ⟨by show cells + 2 ≤ 601024; omega, by show slots + 12 ≤ 7293034; omega⟩ (Nat.le_of_ble_eq_true rfl) dL_law_1836 (fun H locs hI => ?_)
  refine lv_istore (lv' := [(5, .int r1836), (0, .ref b0), (1, .ref (ad 248)), (2, .ref (ad 253)), (3, .ref (ad 265)), (4, .int x4_23)]) hx hb dL_law_1839 hl (Nat.lt_of_lt_of_eq (by decide) rfl) rfl (fun ls hl => ?_)
  refine lv_aload_n hx hb dL_law_1841 rfl (lv_at hl 3 rfl) ?_
  refine lv_aload_n hx hb dL_law_1842 rfl (lv_at hl 1 rfl) ?_
  refine lv_iload hx hb dL_law_1843 (lv_at hl 5 rfl) ?_
  refine lv_iconst (v := 1) hx hb dL_law_1845 rfl ?_
  refine lv_iadd hx hb dL_law_1846 ?_
  obtain ⟨h1847, hf⟩ := gi hf
  refine r_scr hC hI hX (ib_in h1847) dL_law_1847 ?_
  refine lv_aload_n hx hb dL_law_1848 rfl (lv_at hl 1 rfl) ?_
  refine lv_iload hx hb dL_law_1849 (lv_at hl 5 rfl) ?_
  refine lv_iconst (v := 2) hx hb dL_law_1851 rfl ?_
  refine lv_iadd hx hb dL_law_1852 ?_
  obtain ⟨h1853, hf⟩ := gi hf
  refine r_scr hC hI hX (ib_in h1853) dL_law_1853 ?_
  obtain ⟨r1854, V1854, q1854, hf⟩ := gbd hf
  refine k_X10_originOf hC hI hl.1 q1854 tw_9_45 ⟨Nat.le_of_ble_eq_true rfl, Nat.le_of_ble_eq_true rfl⟩ ⟨by show cells + 2 ≤ 601024; omega, by show slots + 12 ≤ 7293034; omega⟩ (Nat.le_of_ble_eq_true rfl) dL_law_1854 (fun H locs hI => ?_)
  refine lv_istore (lv' := [(6, .int r1854), (5, .int r1836), (0, .ref b0), (1, .ref (ad 248)), (2, .ref (ad 253)), (3, .ref (ad 265)), (4, .int x4_23)]) hx hb dL_law_1857 hl (Nat.lt_of_lt_of_eq (by decide) rfl) rfl (fun ls hl => ?_)
  refine lv_aload_n hx hb dL_law_1859 rfl (lv_at hl 4 rfl) ?_
  obtain ⟨r1860, V1860, q1860, hf⟩ := gbd hf
  refine k_X10_thrown hC hI hl.1 q1860 tw_8_17 ⟨Nat.le_of_ble_eq_true rfl, Nat.le_of_ble_eq_true rfl⟩ ⟨by show cells + 2 ≤ 601024; omega, by show slots + 12 ≤ 7293034; omega⟩ (Nat.le_of_ble_eq_true rfl) dL_law_1860 (fun H locs hI => ?_)
  refine lv_iload hx hb dL_law_1863 (lv_at hl 1 rfl) ?_
  refine lv_icmp_eq (tgt := 1870) hx hb dL_law_1865 (by decide) (fun c1865 => ?_) (fun c1865 => ?_)
  · have hf := gt hf c1865
    refine lv_iload hx hb dL_law_1870 (lv_at hl 1 rfl) ?_
    obtain ⟨j1887, hj1887, hf⟩ := gj hf
    have J1887 : ∀ (V1887 : Mem) (H : Heap) (locs : List Loc) (ls : Array Slot), j1887 V1887 = some Vz → In E ad V1887 s H locs → lv_has ls 9 [(0, .ref b0), (1, .ref (ad 248)), (2, .ref (ad 253)), (3, .ref (ad 265)), (4, .int x4_23)] → W p l e room_1 s m #[Value.ref b0] below meth c H locs (cells + 2) (slots + 12) Q (F0 m 1887 ls []) := by
      intro V1887 H locs ls hf hI hl
      rw [hj1887] at hf
      dsimp only at hf
      refine lv_goto (tgt := 3519) hx hb dL_law_1887 (by decide) ?_
      cases hf
      refine x_wid (c2 := cells + 20) (s2 := slots + 1374) (by omega) (by omega) ?_
      exact kk _ _ _ hI (lv_sub hl [0, 1, 2, 3, 4] rfl)
    refine lv_if_ne (tgt := 1887) hx hb dL_law_1872 (by decide) (fun c1872 => ?_) (fun c1872 => ?_)
    · have hf := gf hf c1872
      exact J1887 _ _ _ _ hf hI (lv_sub hl [2, 3, 4, 5, 6] rfl)
    · have hf := gt hf c1872
      refine lv_aload_n hx hb dL_law_1875 rfl (lv_at hl 5 rfl) ?_
      refine lv_iconst (v := 0) hx hb dL_law_1876 rfl ?_
      refine r_lald hC hI dL_law_1877 ?_
      refine lv_iload hx hb dL_law_1878 (lv_at hl 0 rfl) ?_
      refine lv_i2l hx hb dL_law_1880 rfl ?_
      refine W.lcmp hx hb dL_law_1881 ?_
      refine lv_if_eq (tgt := 1887) hx hb dL_law_1882 (by decide) (fun c1882 => ?_) (fun c1882 => ?_)
      · have hf := gt hf c1882
        exact J1887 _ _ _ _ hf hI (lv_sub hl [2, 3, 4, 5, 6] rfl)
      · have hf := gf hf c1882
        refine lv_iconst (v := 0) hx hb dL_law_1885 rfl ?_
        cases hf
  · have hf := gf hf c1865
    refine lv_iconst (v := 0) hx hb dL_law_1868 rfl ?_
    cases hf

def f_law_C26 (xs : Nat → Int32) (N : Nat) (V : Mem) (x4_23 : Int32) : Option Mem :=
  if ib (x4_23 + 1) N = true then
    if ib (x4_23 + 2) N = true then
      bd (f_L_originByRecursion V (xs (x4_23 + 1).toNatClampNeg) (xs (x4_23 + 2).toNatClampNeg)) fun r1904 V1904 =>
      if ib (x4_23 + 1) N = true then
        if ib (x4_23 + 2) N = true then
          bd (f_X10_originByRecursion V1904 (xs (x4_23 + 1).toNatClampNeg) (xs (x4_23 + 2).toNatClampNeg)) fun r1922 V1922 =>
          bd (f_X10_thrown V1922) fun r1928 V1928 =>
          if r1928 = r1904 then
            jn (α := Mem → Option Mem) (fun j1955 =>
              if r1904 = 0 then
                if (lg_cmp ((V1928 265 0).toInt64) ((r1922).toInt64)) = 0 then
                  j1955 V1928
                else
                  none
              else
                j1955 V1928
            ) (fun (V1955 : Mem) =>
              some V1955
            )
          else
            none
        else none
      else none
    else none
  else none
set_option maxRecDepth 100000 in
set_option maxHeartbeats 4000000 in
theorem lc_26 {p : Program} {l : Launch} {e : Env} {s : State} {m : MethodId} {below : List Frame} {meth : Method} {c : Code} {H : Heap} {locs : List Loc} {cells slots : Nat} {Q : State → Prop} {E : En} {ad : Nat → Nat} {V Vz : Mem} {ls : Array Slot} {xs : Nat → Int32} {N b0 : Nat} {x4_23 : Int32} (hT : l.stackTraces = false) (hS : SF E) (hFr : Fr E) (hX : Sc E s b0 N xs) (hC : Cx p s m #[Value.ref b0] c meth E "LetterRepositoryLaw" cL_law 9 (some .boolean)) (hf : f_law_C26 xs N V x4_23 = some Vz) (hI : In E ad V s H locs) (hl : lv_has ls 9 [(0, .ref b0), (1, .ref (ad 248)), (2, .ref (ad 253)), (3, .ref (ad 265)), (4, .int x4_23)]) (hc1 : cells + 20 ≤ 601024) (hc2 : slots + 1374 ≤ 7293034) (kk : ∀ (H : Heap) (locs : List Loc) (ls : Array Slot), In E ad Vz s H locs → lv_has ls 9 [(0, .ref b0), (1, .ref (ad 248)), (2, .ref (ad 253)), (3, .ref (ad 265)), (4, .int x4_23)] → W p l e room_1 s m #[Value.ref b0] below meth c H locs (cells + 20) (slots + 1374) Q (F0 m 3519 ls [])) : W p l e room_1 s m #[Value.ref b0] below meth c H locs cells slots Q (F0 m 1890 ls []) := by
  have hx := hC.1
  have hb := hC.2.1
  unfold f_law_C26 at hf
  refine lv_aload_n hx hb dL_law_1890 rfl (lv_at hl 1 rfl) ?_
  refine lv_aload_n hx hb dL_law_1891 rfl (lv_at hl 0 rfl) ?_
  refine lv_iload hx hb dL_law_1892 (lv_at hl 4 rfl) ?_
  refine lv_iconst (v := 1) hx hb dL_law_1894 rfl ?_
  refine lv_iadd hx hb dL_law_1895 ?_
  obtain ⟨h1896, hf⟩ := gi hf
  refine r_scr hC hI hX (ib_in h1896) dL_law_1896 ?_
  refine lv_aload_n hx hb dL_law_1897 rfl (lv_at hl 0 rfl) ?_
  refine lv_iload hx hb dL_law_1898 (lv_at hl 4 rfl) ?_
  refine lv_iconst (v := 2) hx hb dL_law_1900 rfl ?_
  refine lv_iadd hx hb dL_law_1901 ?_
  obtain ⟨h1902, hf⟩ := gi hf
  refine r_scr hC hI hX (ib_in h1902) dL_law_1902 ?_
  refine lv_aload_n hx hb dL_law_1903 rfl (lv_at hl 3 rfl) ?_
  obtain ⟨r1904, V1904, q1904, hf⟩ := gbd hf
  refine kl_L_originByRecursion hS hT hC hI hl.1 q1904 tw_5_9 ⟨Nat.le_of_ble_eq_true rfl, Nat.le_of_ble_eq_true rfl⟩ ⟨by show cells + 2 ≤ 601024; omega, by show slots + 12 ≤ 7293034; omega⟩ (Nat.le_of_ble_eq_true rfl) dL_law_1904 (fun H locs hI => ?_)
  refine lv_istore (lv' := [(5, .int r1904), (0, .ref b0), (1, .ref (ad 248)), (2, .ref (ad 253)), (3, .ref (ad 265)), (4, .int x4_23)]) hx hb dL_law_1907 hl (Nat.lt_of_lt_of_eq (by decide) rfl) rfl (fun ls hl => ?_)
  refine lv_aload_n hx hb dL_law_1909 rfl (lv_at hl 3 rfl) ?_
  refine lv_aload_n hx hb dL_law_1910 rfl (lv_at hl 1 rfl) ?_
  refine lv_iload hx hb dL_law_1911 (lv_at hl 5 rfl) ?_
  refine lv_iconst (v := 1) hx hb dL_law_1913 rfl ?_
  refine lv_iadd hx hb dL_law_1914 ?_
  obtain ⟨h1915, hf⟩ := gi hf
  refine r_scr hC hI hX (ib_in h1915) dL_law_1915 ?_
  refine lv_aload_n hx hb dL_law_1916 rfl (lv_at hl 1 rfl) ?_
  refine lv_iload hx hb dL_law_1917 (lv_at hl 5 rfl) ?_
  refine lv_iconst (v := 2) hx hb dL_law_1919 rfl ?_
  refine lv_iadd hx hb dL_law_1920 ?_
  obtain ⟨h1921, hf⟩ := gi hf
  refine r_scr hC hI hX (ib_in h1921) dL_law_1921 ?_
  obtain ⟨r1922, V1922, q1922, hf⟩ := gbd hf
  refine k_X10_originByRecursion hC hI hl.1 q1922 tw_9_49 ⟨Nat.le_of_ble_eq_true rfl, Nat.le_of_ble_eq_true rfl⟩ ⟨by show cells + 2 ≤ 601024; omega, by show slots + 12 ≤ 7293034; omega⟩ (Nat.le_of_ble_eq_true rfl) dL_law_1922 (fun H locs hI => ?_)
  refine lv_istore (lv' := [(6, .int r1922), (5, .int r1904), (0, .ref b0), (1, .ref (ad 248)), (2, .ref (ad 253)), (3, .ref (ad 265)), (4, .int x4_23)]) hx hb dL_law_1925 hl (Nat.lt_of_lt_of_eq (by decide) rfl) rfl (fun ls hl => ?_)
  refine lv_aload_n hx hb dL_law_1927 rfl (lv_at hl 4 rfl) ?_
  obtain ⟨r1928, V1928, q1928, hf⟩ := gbd hf
  refine k_X10_thrown hC hI hl.1 q1928 tw_8_17 ⟨Nat.le_of_ble_eq_true rfl, Nat.le_of_ble_eq_true rfl⟩ ⟨by show cells + 2 ≤ 601024; omega, by show slots + 12 ≤ 7293034; omega⟩ (Nat.le_of_ble_eq_true rfl) dL_law_1928 (fun H locs hI => ?_)
  refine lv_iload hx hb dL_law_1931 (lv_at hl 1 rfl) ?_
  refine lv_icmp_eq (tgt := 1938) hx hb dL_law_1933 (by decide) (fun c1933 => ?_) (fun c1933 => ?_)
  · have hf := gt hf c1933
    refine lv_iload hx hb dL_law_1938 (lv_at hl 1 rfl) ?_
    obtain ⟨j1955, hj1955, hf⟩ := gj hf
    have J1955 : ∀ (V1955 : Mem) (H : Heap) (locs : List Loc) (ls : Array Slot), j1955 V1955 = some Vz → In E ad V1955 s H locs → lv_has ls 9 [(0, .ref b0), (1, .ref (ad 248)), (2, .ref (ad 253)), (3, .ref (ad 265)), (4, .int x4_23)] → W p l e room_1 s m #[Value.ref b0] below meth c H locs (cells + 2) (slots + 12) Q (F0 m 1955 ls []) := by
      intro V1955 H locs ls hf hI hl
      rw [hj1955] at hf
      dsimp only at hf
      refine lv_goto (tgt := 3519) hx hb dL_law_1955 (by decide) ?_
      cases hf
      refine x_wid (c2 := cells + 20) (s2 := slots + 1374) (by omega) (by omega) ?_
      exact kk _ _ _ hI (lv_sub hl [0, 1, 2, 3, 4] rfl)
    refine lv_if_ne (tgt := 1955) hx hb dL_law_1940 (by decide) (fun c1940 => ?_) (fun c1940 => ?_)
    · have hf := gf hf c1940
      exact J1955 _ _ _ _ hf hI (lv_sub hl [2, 3, 4, 5, 6] rfl)
    · have hf := gt hf c1940
      refine lv_aload_n hx hb dL_law_1943 rfl (lv_at hl 5 rfl) ?_
      refine lv_iconst (v := 0) hx hb dL_law_1944 rfl ?_
      refine r_lald hC hI dL_law_1945 ?_
      refine lv_iload hx hb dL_law_1946 (lv_at hl 0 rfl) ?_
      refine lv_i2l hx hb dL_law_1948 rfl ?_
      refine W.lcmp hx hb dL_law_1949 ?_
      refine lv_if_eq (tgt := 1955) hx hb dL_law_1950 (by decide) (fun c1950 => ?_) (fun c1950 => ?_)
      · have hf := gt hf c1950
        exact J1955 _ _ _ _ hf hI (lv_sub hl [2, 3, 4, 5, 6] rfl)
      · have hf := gf hf c1950
        refine lv_iconst (v := 0) hx hb dL_law_1953 rfl ?_
        cases hf
  · have hf := gf hf c1933
    refine lv_iconst (v := 0) hx hb dL_law_1936 rfl ?_
    cases hf

def f_law_C27 (xs : Nat → Int32) (N : Nat) (V : Mem) (x4_23 : Int32) : Option Mem :=
  if ib (x4_23 + 1) N = true then
    bd (f_L_revisionsBy V (xs (x4_23 + 1).toNatClampNeg)) fun r1966 V1966 =>
    if ib (x4_23 + 1) N = true then
      bd (f_X10_revisionsBy V1966 (xs (x4_23 + 1).toNatClampNeg)) fun r1978 V1978 =>
      bd (f_X10_thrown V1978) fun r1984 V1984 =>
      if r1984 = r1966 then
        jn (α := Mem → Option Mem) (fun j2011 =>
          if r1966 = 0 then
            if (lg_cmp ((V1984 265 0).toInt64) ((r1978).toInt64)) = 0 then
              j2011 V1984
            else
              none
          else
            j2011 V1984
        ) (fun (V2011 : Mem) =>
          some V2011
        )
      else
        none
    else none
  else none
set_option maxRecDepth 100000 in
set_option maxHeartbeats 4000000 in
theorem lc_27 {p : Program} {l : Launch} {e : Env} {s : State} {m : MethodId} {below : List Frame} {meth : Method} {c : Code} {H : Heap} {locs : List Loc} {cells slots : Nat} {Q : State → Prop} {E : En} {ad : Nat → Nat} {V Vz : Mem} {ls : Array Slot} {xs : Nat → Int32} {N b0 : Nat} {x4_23 : Int32} (hT : l.stackTraces = false) (hS : SF E) (hFr : Fr E) (hX : Sc E s b0 N xs) (hC : Cx p s m #[Value.ref b0] c meth E "LetterRepositoryLaw" cL_law 9 (some .boolean)) (hf : f_law_C27 xs N V x4_23 = some Vz) (hI : In E ad V s H locs) (hl : lv_has ls 9 [(0, .ref b0), (1, .ref (ad 248)), (2, .ref (ad 253)), (3, .ref (ad 265)), (4, .int x4_23)]) (hc1 : cells + 20 ≤ 601024) (hc2 : slots + 1374 ≤ 7293034) (kk : ∀ (H : Heap) (locs : List Loc) (ls : Array Slot), In E ad Vz s H locs → lv_has ls 9 [(0, .ref b0), (1, .ref (ad 248)), (2, .ref (ad 253)), (3, .ref (ad 265)), (4, .int x4_23)] → W p l e room_1 s m #[Value.ref b0] below meth c H locs (cells + 20) (slots + 1374) Q (F0 m 3519 ls [])) : W p l e room_1 s m #[Value.ref b0] below meth c H locs cells slots Q (F0 m 1958 ls []) := by
  have hx := hC.1
  have hb := hC.2.1
  unfold f_law_C27 at hf
  refine lv_aload_n hx hb dL_law_1958 rfl (lv_at hl 1 rfl) ?_
  refine lv_aload_n hx hb dL_law_1959 rfl (lv_at hl 0 rfl) ?_
  refine lv_iload hx hb dL_law_1960 (lv_at hl 4 rfl) ?_
  refine lv_iconst (v := 1) hx hb dL_law_1962 rfl ?_
  refine lv_iadd hx hb dL_law_1963 ?_
  obtain ⟨h1964, hf⟩ := gi hf
  refine r_scr hC hI hX (ib_in h1964) dL_law_1964 ?_
  refine lv_aload_n hx hb dL_law_1965 rfl (lv_at hl 3 rfl) ?_
  obtain ⟨r1966, V1966, q1966, hf⟩ := gbd hf
  refine kl_L_revisionsBy hS hT hC hI hl.1 q1966 tw_5_17 ⟨Nat.le_of_ble_eq_true rfl, Nat.le_of_ble_eq_true rfl⟩ ⟨by show cells + 1 ≤ 601024; omega, by show slots + 6 ≤ 7293034; omega⟩ (Nat.le_of_ble_eq_true rfl) dL_law_1966 (fun H locs hI => ?_)
  refine lv_istore (lv' := [(5, .int r1966), (0, .ref b0), (1, .ref (ad 248)), (2, .ref (ad 253)), (3, .ref (ad 265)), (4, .int x4_23)]) hx hb dL_law_1969 hl (Nat.lt_of_lt_of_eq (by decide) rfl) rfl (fun ls hl => ?_)
  refine lv_aload_n hx hb dL_law_1971 rfl (lv_at hl 3 rfl) ?_
  refine lv_aload_n hx hb dL_law_1972 rfl (lv_at hl 1 rfl) ?_
  refine lv_iload hx hb dL_law_1973 (lv_at hl 5 rfl) ?_
  refine lv_iconst (v := 1) hx hb dL_law_1975 rfl ?_
  refine lv_iadd hx hb dL_law_1976 ?_
  obtain ⟨h1977, hf⟩ := gi hf
  refine r_scr hC hI hX (ib_in h1977) dL_law_1977 ?_
  obtain ⟨r1978, V1978, q1978, hf⟩ := gbd hf
  refine k_X10_revisionsBy hC hI hl.1 q1978 tw_9_54 ⟨Nat.le_of_ble_eq_true rfl, Nat.le_of_ble_eq_true rfl⟩ ⟨by show cells + 1 ≤ 601024; omega, by show slots + 6 ≤ 7293034; omega⟩ (Nat.le_of_ble_eq_true rfl) dL_law_1978 (fun H locs hI => ?_)
  refine lv_istore (lv' := [(6, .int r1978), (5, .int r1966), (0, .ref b0), (1, .ref (ad 248)), (2, .ref (ad 253)), (3, .ref (ad 265)), (4, .int x4_23)]) hx hb dL_law_1981 hl (Nat.lt_of_lt_of_eq (by decide) rfl) rfl (fun ls hl => ?_)
  refine lv_aload_n hx hb dL_law_1983 rfl (lv_at hl 4 rfl) ?_
  obtain ⟨r1984, V1984, q1984, hf⟩ := gbd hf
  refine k_X10_thrown hC hI hl.1 q1984 tw_8_17 ⟨Nat.le_of_ble_eq_true rfl, Nat.le_of_ble_eq_true rfl⟩ ⟨by show cells + 1 ≤ 601024; omega, by show slots + 6 ≤ 7293034; omega⟩ (Nat.le_of_ble_eq_true rfl) dL_law_1984 (fun H locs hI => ?_)
  refine lv_iload hx hb dL_law_1987 (lv_at hl 1 rfl) ?_
  refine lv_icmp_eq (tgt := 1994) hx hb dL_law_1989 (by decide) (fun c1989 => ?_) (fun c1989 => ?_)
  · have hf := gt hf c1989
    refine lv_iload hx hb dL_law_1994 (lv_at hl 1 rfl) ?_
    obtain ⟨j2011, hj2011, hf⟩ := gj hf
    have J2011 : ∀ (V2011 : Mem) (H : Heap) (locs : List Loc) (ls : Array Slot), j2011 V2011 = some Vz → In E ad V2011 s H locs → lv_has ls 9 [(0, .ref b0), (1, .ref (ad 248)), (2, .ref (ad 253)), (3, .ref (ad 265)), (4, .int x4_23)] → W p l e room_1 s m #[Value.ref b0] below meth c H locs (cells + 1) (slots + 6) Q (F0 m 2011 ls []) := by
      intro V2011 H locs ls hf hI hl
      rw [hj2011] at hf
      dsimp only at hf
      refine lv_goto (tgt := 3519) hx hb dL_law_2011 (by decide) ?_
      cases hf
      refine x_wid (c2 := cells + 20) (s2 := slots + 1374) (by omega) (by omega) ?_
      exact kk _ _ _ hI (lv_sub hl [0, 1, 2, 3, 4] rfl)
    refine lv_if_ne (tgt := 2011) hx hb dL_law_1996 (by decide) (fun c1996 => ?_) (fun c1996 => ?_)
    · have hf := gf hf c1996
      exact J2011 _ _ _ _ hf hI (lv_sub hl [2, 3, 4, 5, 6] rfl)
    · have hf := gt hf c1996
      refine lv_aload_n hx hb dL_law_1999 rfl (lv_at hl 5 rfl) ?_
      refine lv_iconst (v := 0) hx hb dL_law_2000 rfl ?_
      refine r_lald hC hI dL_law_2001 ?_
      refine lv_iload hx hb dL_law_2002 (lv_at hl 0 rfl) ?_
      refine lv_i2l hx hb dL_law_2004 rfl ?_
      refine W.lcmp hx hb dL_law_2005 ?_
      refine lv_if_eq (tgt := 2011) hx hb dL_law_2006 (by decide) (fun c2006 => ?_) (fun c2006 => ?_)
      · have hf := gt hf c2006
        exact J2011 _ _ _ _ hf hI (lv_sub hl [2, 3, 4, 5, 6] rfl)
      · have hf := gf hf c2006
        refine lv_iconst (v := 0) hx hb dL_law_2009 rfl ?_
        cases hf
  · have hf := gf hf c1989
    refine lv_iconst (v := 0) hx hb dL_law_1992 rfl ?_
    cases hf

def f_law_C28 (xs : Nat → Int32) (N : Nat) (V : Mem) (x4_23 : Int32) : Option Mem :=
  bd (f_X9_busiestAuthor V) fun r2015 V2015 =>
  bd (f_X10_busiestAuthor V2015) fun r2019 V2019 =>
  if r2015 = r2019 then
    some V2019
  else
    none
set_option maxRecDepth 100000 in
set_option maxHeartbeats 4000000 in
theorem lc_28 {p : Program} {l : Launch} {e : Env} {s : State} {m : MethodId} {below : List Frame} {meth : Method} {c : Code} {H : Heap} {locs : List Loc} {cells slots : Nat} {Q : State → Prop} {E : En} {ad : Nat → Nat} {V Vz : Mem} {ls : Array Slot} {xs : Nat → Int32} {N b0 : Nat} {x4_23 : Int32} (hT : l.stackTraces = false) (hS : SF E) (hFr : Fr E) (hX : Sc E s b0 N xs) (hC : Cx p s m #[Value.ref b0] c meth E "LetterRepositoryLaw" cL_law 9 (some .boolean)) (hf : f_law_C28 xs N V x4_23 = some Vz) (hI : In E ad V s H locs) (hl : lv_has ls 9 [(0, .ref b0), (1, .ref (ad 248)), (2, .ref (ad 253)), (3, .ref (ad 265)), (4, .int x4_23)]) (hc1 : cells + 20 ≤ 601024) (hc2 : slots + 1374 ≤ 7293034) (kk : ∀ (H : Heap) (locs : List Loc) (ls : Array Slot), In E ad Vz s H locs → lv_has ls 9 [(0, .ref b0), (1, .ref (ad 248)), (2, .ref (ad 253)), (3, .ref (ad 265)), (4, .int x4_23)] → W p l e room_1 s m #[Value.ref b0] below meth c H locs (cells + 20) (slots + 1374) Q (F0 m 3519 ls [])) : W p l e room_1 s m #[Value.ref b0] below meth c H locs cells slots Q (F0 m 2014 ls []) := by
  have hx := hC.1
  have hb := hC.2.1
  unfold f_law_C28 at hf
  refine lv_aload_n hx hb dL_law_2014 rfl (lv_at hl 1 rfl) ?_
  obtain ⟨r2015, V2015, q2015, hf⟩ := gbd hf
  refine k_X9_busiestAuthor hC hI hl.1 q2015 tw_2_94 ⟨Nat.le_of_ble_eq_true rfl, Nat.le_of_ble_eq_true rfl⟩ ⟨by show cells ≤ 601024; omega, by show slots ≤ 7293034; omega⟩ (Nat.le_of_ble_eq_true rfl) dL_law_2015 (fun H locs hI => ?_)
  refine lv_aload_n hx hb dL_law_2018 rfl (lv_at hl 2 rfl) ?_
  obtain ⟨r2019, V2019, q2019, hf⟩ := gbd hf
  refine k_X10_busiestAuthor hC hI hl.1 q2019 tw_9_62 ⟨Nat.le_of_ble_eq_true rfl, Nat.le_of_ble_eq_true rfl⟩ ⟨by show cells ≤ 601024; omega, by show slots ≤ 7293034; omega⟩ (Nat.le_of_ble_eq_true rfl) dL_law_2019 (fun H locs hI => ?_)
  refine lv_icmp_eq (tgt := 3519) hx hb dL_law_2022 (by decide) (fun c2022 => ?_) (fun c2022 => ?_)
  · have hf := gt hf c2022
    cases hf
    refine x_wid (c2 := cells + 20) (s2 := slots + 1374) (by omega) (by omega) ?_
    exact kk _ _ _ hI (lv_sub hl [0, 1, 2, 3, 4] rfl)
  · have hf := gf hf c2022
    refine lv_iconst (v := 0) hx hb dL_law_2025 rfl ?_
    cases hf

def f_law_C29 (xs : Nat → Int32) (N : Nat) (V : Mem) (x4_23 : Int32) : Option Mem :=
  bd (f_X9_branchCount V) fun r2028 V2028 =>
  bd (f_X10_branchCount V2028) fun r2032 V2032 =>
  if r2028 = r2032 then
    some V2032
  else
    none
set_option maxRecDepth 100000 in
set_option maxHeartbeats 4000000 in
theorem lc_29 {p : Program} {l : Launch} {e : Env} {s : State} {m : MethodId} {below : List Frame} {meth : Method} {c : Code} {H : Heap} {locs : List Loc} {cells slots : Nat} {Q : State → Prop} {E : En} {ad : Nat → Nat} {V Vz : Mem} {ls : Array Slot} {xs : Nat → Int32} {N b0 : Nat} {x4_23 : Int32} (hT : l.stackTraces = false) (hS : SF E) (hFr : Fr E) (hX : Sc E s b0 N xs) (hC : Cx p s m #[Value.ref b0] c meth E "LetterRepositoryLaw" cL_law 9 (some .boolean)) (hf : f_law_C29 xs N V x4_23 = some Vz) (hI : In E ad V s H locs) (hl : lv_has ls 9 [(0, .ref b0), (1, .ref (ad 248)), (2, .ref (ad 253)), (3, .ref (ad 265)), (4, .int x4_23)]) (hc1 : cells + 20 ≤ 601024) (hc2 : slots + 1374 ≤ 7293034) (kk : ∀ (H : Heap) (locs : List Loc) (ls : Array Slot), In E ad Vz s H locs → lv_has ls 9 [(0, .ref b0), (1, .ref (ad 248)), (2, .ref (ad 253)), (3, .ref (ad 265)), (4, .int x4_23)] → W p l e room_1 s m #[Value.ref b0] below meth c H locs (cells + 20) (slots + 1374) Q (F0 m 3519 ls [])) : W p l e room_1 s m #[Value.ref b0] below meth c H locs cells slots Q (F0 m 2027 ls []) := by
  have hx := hC.1
  have hb := hC.2.1
  unfold f_law_C29 at hf
  refine lv_aload_n hx hb dL_law_2027 rfl (lv_at hl 1 rfl) ?_
  obtain ⟨r2028, V2028, q2028, hf⟩ := gbd hf
  refine k_X9_branchCount hC hI hl.1 q2028 tw_2_106 ⟨Nat.le_of_ble_eq_true rfl, Nat.le_of_ble_eq_true rfl⟩ ⟨by show cells ≤ 601024; omega, by show slots ≤ 7293034; omega⟩ (Nat.le_of_ble_eq_true rfl) dL_law_2028 (fun H locs hI => ?_)
  refine lv_aload_n hx hb dL_law_2031 rfl (lv_at hl 2 rfl) ?_
  obtain ⟨r2032, V2032, q2032, hf⟩ := gbd hf
  refine k_X10_branchCount hC hI hl.1 q2032 tw_9_66 ⟨Nat.le_of_ble_eq_true rfl, Nat.le_of_ble_eq_true rfl⟩ ⟨by show cells ≤ 601024; omega, by show slots ≤ 7293034; omega⟩ (Nat.le_of_ble_eq_true rfl) dL_law_2032 (fun H locs hI => ?_)
  refine lv_icmp_eq (tgt := 3519) hx hb dL_law_2035 (by decide) (fun c2035 => ?_) (fun c2035 => ?_)
  · have hf := gt hf c2035
    cases hf
    refine x_wid (c2 := cells + 20) (s2 := slots + 1374) (by omega) (by omega) ?_
    exact kk _ _ _ hI (lv_sub hl [0, 1, 2, 3, 4] rfl)
  · have hf := gf hf c2035
    refine lv_iconst (v := 0) hx hb dL_law_2038 rfl ?_
    cases hf

def f_law_C30 (xs : Nat → Int32) (N : Nat) (V : Mem) (x4_23 : Int32) : Option Mem :=
  if ib (x4_23 + 1) N = true then
    bd (f_L_head V (xs (x4_23 + 1).toNatClampNeg)) fun r2048 V2048 =>
    if ib (x4_23 + 1) N = true then
      bd (f_X10_head V2048 (xs (x4_23 + 1).toNatClampNeg)) fun r2060 V2060 =>
      bd (f_X10_thrown V2060) fun r2066 V2066 =>
      if r2066 = r2048 then
        jn (α := Mem → Option Mem) (fun j2093 =>
          if r2048 = 0 then
            if (lg_cmp ((V2066 265 0).toInt64) ((r2060).toInt64)) = 0 then
              j2093 V2066
            else
              none
          else
            j2093 V2066
        ) (fun (V2093 : Mem) =>
          some V2093
        )
      else
        none
    else none
  else none
set_option maxRecDepth 100000 in
set_option maxHeartbeats 4000000 in
theorem lc_30 {p : Program} {l : Launch} {e : Env} {s : State} {m : MethodId} {below : List Frame} {meth : Method} {c : Code} {H : Heap} {locs : List Loc} {cells slots : Nat} {Q : State → Prop} {E : En} {ad : Nat → Nat} {V Vz : Mem} {ls : Array Slot} {xs : Nat → Int32} {N b0 : Nat} {x4_23 : Int32} (hT : l.stackTraces = false) (hS : SF E) (hFr : Fr E) (hX : Sc E s b0 N xs) (hC : Cx p s m #[Value.ref b0] c meth E "LetterRepositoryLaw" cL_law 9 (some .boolean)) (hf : f_law_C30 xs N V x4_23 = some Vz) (hI : In E ad V s H locs) (hl : lv_has ls 9 [(0, .ref b0), (1, .ref (ad 248)), (2, .ref (ad 253)), (3, .ref (ad 265)), (4, .int x4_23)]) (hc1 : cells + 20 ≤ 601024) (hc2 : slots + 1374 ≤ 7293034) (kk : ∀ (H : Heap) (locs : List Loc) (ls : Array Slot), In E ad Vz s H locs → lv_has ls 9 [(0, .ref b0), (1, .ref (ad 248)), (2, .ref (ad 253)), (3, .ref (ad 265)), (4, .int x4_23)] → W p l e room_1 s m #[Value.ref b0] below meth c H locs (cells + 20) (slots + 1374) Q (F0 m 3519 ls [])) : W p l e room_1 s m #[Value.ref b0] below meth c H locs cells slots Q (F0 m 2040 ls []) := by
  have hx := hC.1
  have hb := hC.2.1
  unfold f_law_C30 at hf
  refine lv_aload_n hx hb dL_law_2040 rfl (lv_at hl 1 rfl) ?_
  refine lv_aload_n hx hb dL_law_2041 rfl (lv_at hl 0 rfl) ?_
  refine lv_iload hx hb dL_law_2042 (lv_at hl 4 rfl) ?_
  refine lv_iconst (v := 1) hx hb dL_law_2044 rfl ?_
  refine lv_iadd hx hb dL_law_2045 ?_
  obtain ⟨h2046, hf⟩ := gi hf
  refine r_scr hC hI hX (ib_in h2046) dL_law_2046 ?_
  refine lv_aload_n hx hb dL_law_2047 rfl (lv_at hl 3 rfl) ?_
  obtain ⟨r2048, V2048, q2048, hf⟩ := gbd hf
  refine kl_L_head hS hT hC hI hl.1 q2048 tw_5_26 ⟨Nat.le_of_ble_eq_true rfl, Nat.le_of_ble_eq_true rfl⟩ ⟨by show cells + 1 ≤ 601024; omega, by show slots + 6 ≤ 7293034; omega⟩ (Nat.le_of_ble_eq_true rfl) dL_law_2048 (fun H locs hI => ?_)
  refine lv_istore (lv' := [(5, .int r2048), (0, .ref b0), (1, .ref (ad 248)), (2, .ref (ad 253)), (3, .ref (ad 265)), (4, .int x4_23)]) hx hb dL_law_2051 hl (Nat.lt_of_lt_of_eq (by decide) rfl) rfl (fun ls hl => ?_)
  refine lv_aload_n hx hb dL_law_2053 rfl (lv_at hl 3 rfl) ?_
  refine lv_aload_n hx hb dL_law_2054 rfl (lv_at hl 1 rfl) ?_
  refine lv_iload hx hb dL_law_2055 (lv_at hl 5 rfl) ?_
  refine lv_iconst (v := 1) hx hb dL_law_2057 rfl ?_
  refine lv_iadd hx hb dL_law_2058 ?_
  obtain ⟨h2059, hf⟩ := gi hf
  refine r_scr hC hI hX (ib_in h2059) dL_law_2059 ?_
  obtain ⟨r2060, V2060, q2060, hf⟩ := gbd hf
  refine k_X10_head hC hI hl.1 q2060 tw_9_70 ⟨Nat.le_of_ble_eq_true rfl, Nat.le_of_ble_eq_true rfl⟩ ⟨by show cells + 1 ≤ 601024; omega, by show slots + 6 ≤ 7293034; omega⟩ (Nat.le_of_ble_eq_true rfl) dL_law_2060 (fun H locs hI => ?_)
  refine lv_istore (lv' := [(6, .int r2060), (5, .int r2048), (0, .ref b0), (1, .ref (ad 248)), (2, .ref (ad 253)), (3, .ref (ad 265)), (4, .int x4_23)]) hx hb dL_law_2063 hl (Nat.lt_of_lt_of_eq (by decide) rfl) rfl (fun ls hl => ?_)
  refine lv_aload_n hx hb dL_law_2065 rfl (lv_at hl 4 rfl) ?_
  obtain ⟨r2066, V2066, q2066, hf⟩ := gbd hf
  refine k_X10_thrown hC hI hl.1 q2066 tw_8_17 ⟨Nat.le_of_ble_eq_true rfl, Nat.le_of_ble_eq_true rfl⟩ ⟨by show cells + 1 ≤ 601024; omega, by show slots + 6 ≤ 7293034; omega⟩ (Nat.le_of_ble_eq_true rfl) dL_law_2066 (fun H locs hI => ?_)
  refine lv_iload hx hb dL_law_2069 (lv_at hl 1 rfl) ?_
  refine lv_icmp_eq (tgt := 2076) hx hb dL_law_2071 (by decide) (fun c2071 => ?_) (fun c2071 => ?_)
  · have hf := gt hf c2071
    refine lv_iload hx hb dL_law_2076 (lv_at hl 1 rfl) ?_
    obtain ⟨j2093, hj2093, hf⟩ := gj hf
    have J2093 : ∀ (V2093 : Mem) (H : Heap) (locs : List Loc) (ls : Array Slot), j2093 V2093 = some Vz → In E ad V2093 s H locs → lv_has ls 9 [(0, .ref b0), (1, .ref (ad 248)), (2, .ref (ad 253)), (3, .ref (ad 265)), (4, .int x4_23)] → W p l e room_1 s m #[Value.ref b0] below meth c H locs (cells + 1) (slots + 6) Q (F0 m 2093 ls []) := by
      intro V2093 H locs ls hf hI hl
      rw [hj2093] at hf
      dsimp only at hf
      refine lv_goto (tgt := 3519) hx hb dL_law_2093 (by decide) ?_
      cases hf
      refine x_wid (c2 := cells + 20) (s2 := slots + 1374) (by omega) (by omega) ?_
      exact kk _ _ _ hI (lv_sub hl [0, 1, 2, 3, 4] rfl)
    refine lv_if_ne (tgt := 2093) hx hb dL_law_2078 (by decide) (fun c2078 => ?_) (fun c2078 => ?_)
    · have hf := gf hf c2078
      exact J2093 _ _ _ _ hf hI (lv_sub hl [2, 3, 4, 5, 6] rfl)
    · have hf := gt hf c2078
      refine lv_aload_n hx hb dL_law_2081 rfl (lv_at hl 5 rfl) ?_
      refine lv_iconst (v := 0) hx hb dL_law_2082 rfl ?_
      refine r_lald hC hI dL_law_2083 ?_
      refine lv_iload hx hb dL_law_2084 (lv_at hl 0 rfl) ?_
      refine lv_i2l hx hb dL_law_2086 rfl ?_
      refine W.lcmp hx hb dL_law_2087 ?_
      refine lv_if_eq (tgt := 2093) hx hb dL_law_2088 (by decide) (fun c2088 => ?_) (fun c2088 => ?_)
      · have hf := gt hf c2088
        exact J2093 _ _ _ _ hf hI (lv_sub hl [2, 3, 4, 5, 6] rfl)
      · have hf := gf hf c2088
        refine lv_iconst (v := 0) hx hb dL_law_2091 rfl ?_
        cases hf
  · have hf := gf hf c2071
    refine lv_iconst (v := 0) hx hb dL_law_2074 rfl ?_
    cases hf

def f_law_C31 (xs : Nat → Int32) (N : Nat) (V : Mem) (x4_23 : Int32) : Option Mem :=
  if ib (x4_23 + 1) N = true then
    if ib (x4_23 + 2) N = true then
      bd (f_L_letterAt V (xs (x4_23 + 1).toNatClampNeg) (xs (x4_23 + 2).toNatClampNeg)) fun r2110 V2110 =>
      if ib (x4_23 + 1) N = true then
        if ib (x4_23 + 2) N = true then
          bd (f_X10_letterAt V2110 (xs (x4_23 + 1).toNatClampNeg) (xs (x4_23 + 2).toNatClampNeg)) fun r2128 V2128 =>
          bd (f_X10_thrown V2128) fun r2134 V2134 =>
          if r2134 = r2110 then
            jn (α := Mem → Option Mem) (fun j2161 =>
              if r2110 = 0 then
                if (lg_cmp ((V2134 265 0).toInt64) ((r2128).toInt64)) = 0 then
                  j2161 V2134
                else
                  none
              else
                j2161 V2134
            ) (fun (V2161 : Mem) =>
              some V2161
            )
          else
            none
        else none
      else none
    else none
  else none
set_option maxRecDepth 100000 in
set_option maxHeartbeats 4000000 in
theorem lc_31 {p : Program} {l : Launch} {e : Env} {s : State} {m : MethodId} {below : List Frame} {meth : Method} {c : Code} {H : Heap} {locs : List Loc} {cells slots : Nat} {Q : State → Prop} {E : En} {ad : Nat → Nat} {V Vz : Mem} {ls : Array Slot} {xs : Nat → Int32} {N b0 : Nat} {x4_23 : Int32} (hT : l.stackTraces = false) (hS : SF E) (hFr : Fr E) (hX : Sc E s b0 N xs) (hC : Cx p s m #[Value.ref b0] c meth E "LetterRepositoryLaw" cL_law 9 (some .boolean)) (hf : f_law_C31 xs N V x4_23 = some Vz) (hI : In E ad V s H locs) (hl : lv_has ls 9 [(0, .ref b0), (1, .ref (ad 248)), (2, .ref (ad 253)), (3, .ref (ad 265)), (4, .int x4_23)]) (hc1 : cells + 20 ≤ 601024) (hc2 : slots + 1374 ≤ 7293034) (kk : ∀ (H : Heap) (locs : List Loc) (ls : Array Slot), In E ad Vz s H locs → lv_has ls 9 [(0, .ref b0), (1, .ref (ad 248)), (2, .ref (ad 253)), (3, .ref (ad 265)), (4, .int x4_23)] → W p l e room_1 s m #[Value.ref b0] below meth c H locs (cells + 20) (slots + 1374) Q (F0 m 3519 ls [])) : W p l e room_1 s m #[Value.ref b0] below meth c H locs cells slots Q (F0 m 2096 ls []) := by
  have hx := hC.1
  have hb := hC.2.1
  unfold f_law_C31 at hf
  refine lv_aload_n hx hb dL_law_2096 rfl (lv_at hl 1 rfl) ?_
  refine lv_aload_n hx hb dL_law_2097 rfl (lv_at hl 0 rfl) ?_
  refine lv_iload hx hb dL_law_2098 (lv_at hl 4 rfl) ?_
  refine lv_iconst (v := 1) hx hb dL_law_2100 rfl ?_
  refine lv_iadd hx hb dL_law_2101 ?_
  obtain ⟨h2102, hf⟩ := gi hf
  refine r_scr hC hI hX (ib_in h2102) dL_law_2102 ?_
  refine lv_aload_n hx hb dL_law_2103 rfl (lv_at hl 0 rfl) ?_
  refine lv_iload hx hb dL_law_2104 (lv_at hl 4 rfl) ?_
  refine lv_iconst (v := 2) hx hb dL_law_2106 rfl ?_
  refine lv_iadd hx hb dL_law_2107 ?_
  obtain ⟨h2108, hf⟩ := gi hf
  refine r_scr hC hI hX (ib_in h2108) dL_law_2108 ?_
  refine lv_aload_n hx hb dL_law_2109 rfl (lv_at hl 3 rfl) ?_
  obtain ⟨r2110, V2110, q2110, hf⟩ := gbd hf
  refine kl_L_letterAt hS hT hC hI hl.1 q2110 tw_5_40 ⟨Nat.le_of_ble_eq_true rfl, Nat.le_of_ble_eq_true rfl⟩ ⟨by show cells + 2 ≤ 601024; omega, by show slots + 12 ≤ 7293034; omega⟩ (Nat.le_of_ble_eq_true rfl) dL_law_2110 (fun H locs hI => ?_)
  refine lv_istore (lv' := [(5, .int r2110), (0, .ref b0), (1, .ref (ad 248)), (2, .ref (ad 253)), (3, .ref (ad 265)), (4, .int x4_23)]) hx hb dL_law_2113 hl (Nat.lt_of_lt_of_eq (by decide) rfl) rfl (fun ls hl => ?_)
  refine lv_aload_n hx hb dL_law_2115 rfl (lv_at hl 3 rfl) ?_
  refine lv_aload_n hx hb dL_law_2116 rfl (lv_at hl 1 rfl) ?_
  refine lv_iload hx hb dL_law_2117 (lv_at hl 5 rfl) ?_
  refine lv_iconst (v := 1) hx hb dL_law_2119 rfl ?_
  refine lv_iadd hx hb dL_law_2120 ?_
  obtain ⟨h2121, hf⟩ := gi hf
  refine r_scr hC hI hX (ib_in h2121) dL_law_2121 ?_
  refine lv_aload_n hx hb dL_law_2122 rfl (lv_at hl 1 rfl) ?_
  refine lv_iload hx hb dL_law_2123 (lv_at hl 5 rfl) ?_
  refine lv_iconst (v := 2) hx hb dL_law_2125 rfl ?_
  refine lv_iadd hx hb dL_law_2126 ?_
  obtain ⟨h2127, hf⟩ := gi hf
  refine r_scr hC hI hX (ib_in h2127) dL_law_2127 ?_
  obtain ⟨r2128, V2128, q2128, hf⟩ := gbd hf
  refine k_X10_letterAt hC hI hl.1 q2128 tw_9_74 ⟨Nat.le_of_ble_eq_true rfl, Nat.le_of_ble_eq_true rfl⟩ ⟨by show cells + 2 ≤ 601024; omega, by show slots + 12 ≤ 7293034; omega⟩ (Nat.le_of_ble_eq_true rfl) dL_law_2128 (fun H locs hI => ?_)
  refine lv_istore (lv' := [(6, .int r2128), (5, .int r2110), (0, .ref b0), (1, .ref (ad 248)), (2, .ref (ad 253)), (3, .ref (ad 265)), (4, .int x4_23)]) hx hb dL_law_2131 hl (Nat.lt_of_lt_of_eq (by decide) rfl) rfl (fun ls hl => ?_)
  refine lv_aload_n hx hb dL_law_2133 rfl (lv_at hl 4 rfl) ?_
  obtain ⟨r2134, V2134, q2134, hf⟩ := gbd hf
  refine k_X10_thrown hC hI hl.1 q2134 tw_8_17 ⟨Nat.le_of_ble_eq_true rfl, Nat.le_of_ble_eq_true rfl⟩ ⟨by show cells + 2 ≤ 601024; omega, by show slots + 12 ≤ 7293034; omega⟩ (Nat.le_of_ble_eq_true rfl) dL_law_2134 (fun H locs hI => ?_)
  refine lv_iload hx hb dL_law_2137 (lv_at hl 1 rfl) ?_
  refine lv_icmp_eq (tgt := 2144) hx hb dL_law_2139 (by decide) (fun c2139 => ?_) (fun c2139 => ?_)
  · have hf := gt hf c2139
    refine lv_iload hx hb dL_law_2144 (lv_at hl 1 rfl) ?_
    obtain ⟨j2161, hj2161, hf⟩ := gj hf
    have J2161 : ∀ (V2161 : Mem) (H : Heap) (locs : List Loc) (ls : Array Slot), j2161 V2161 = some Vz → In E ad V2161 s H locs → lv_has ls 9 [(0, .ref b0), (1, .ref (ad 248)), (2, .ref (ad 253)), (3, .ref (ad 265)), (4, .int x4_23)] → W p l e room_1 s m #[Value.ref b0] below meth c H locs (cells + 2) (slots + 12) Q (F0 m 2161 ls []) := by
      intro V2161 H locs ls hf hI hl
      rw [hj2161] at hf
      dsimp only at hf
      refine lv_goto (tgt := 3519) hx hb dL_law_2161 (by decide) ?_
      cases hf
      refine x_wid (c2 := cells + 20) (s2 := slots + 1374) (by omega) (by omega) ?_
      exact kk _ _ _ hI (lv_sub hl [0, 1, 2, 3, 4] rfl)
    refine lv_if_ne (tgt := 2161) hx hb dL_law_2146 (by decide) (fun c2146 => ?_) (fun c2146 => ?_)
    · have hf := gf hf c2146
      exact J2161 _ _ _ _ hf hI (lv_sub hl [2, 3, 4, 5, 6] rfl)
    · have hf := gt hf c2146
      refine lv_aload_n hx hb dL_law_2149 rfl (lv_at hl 5 rfl) ?_
      refine lv_iconst (v := 0) hx hb dL_law_2150 rfl ?_
      refine r_lald hC hI dL_law_2151 ?_
      refine lv_iload hx hb dL_law_2152 (lv_at hl 0 rfl) ?_
      refine lv_i2l hx hb dL_law_2154 rfl ?_
      refine W.lcmp hx hb dL_law_2155 ?_
      refine lv_if_eq (tgt := 2161) hx hb dL_law_2156 (by decide) (fun c2156 => ?_) (fun c2156 => ?_)
      · have hf := gt hf c2156
        exact J2161 _ _ _ _ hf hI (lv_sub hl [2, 3, 4, 5, 6] rfl)
      · have hf := gf hf c2156
        refine lv_iconst (v := 0) hx hb dL_law_2159 rfl ?_
        cases hf
  · have hf := gf hf c2139
    refine lv_iconst (v := 0) hx hb dL_law_2142 rfl ?_
    cases hf

def f_law_C32 (xs : Nat → Int32) (N : Nat) (V : Mem) (x4_23 : Int32) : Option Mem :=
  if ib (x4_23 + 1) N = true then
    if ib (x4_23 + 2) N = true then
      bd (f_L_isEdited V (xs (x4_23 + 1).toNatClampNeg) (xs (x4_23 + 2).toNatClampNeg)) fun r2178 V2178 =>
      if ib (x4_23 + 1) N = true then
        if ib (x4_23 + 2) N = true then
          bd (f_X10_isEdited V2178 (xs (x4_23 + 1).toNatClampNeg) (xs (x4_23 + 2).toNatClampNeg)) fun r2196 V2196 =>
          bd (f_X10_thrown V2196) fun r2202 V2202 =>
          if r2202 = r2178 then
            jn (α := Mem → Option Mem) (fun j2236 =>
              if r2178 = 0 then
                jn (α := Mem → Int64 → Option Mem) (fun j2230 =>
                  if r2196 = 0 then
                    j2230 V2202 0
                  else
                    j2230 V2202 1
                ) (fun (V2230 : Mem) (s0_2230 : Int64) =>
                  if (lg_cmp ((V2202 265 0).toInt64) s0_2230) = 0 then
                    j2236 V2230
                  else
                    none
                )
              else
                j2236 V2202
            ) (fun (V2236 : Mem) =>
              some V2236
            )
          else
            none
        else none
      else none
    else none
  else none
set_option maxRecDepth 100000 in
set_option maxHeartbeats 4000000 in
theorem lc_32 {p : Program} {l : Launch} {e : Env} {s : State} {m : MethodId} {below : List Frame} {meth : Method} {c : Code} {H : Heap} {locs : List Loc} {cells slots : Nat} {Q : State → Prop} {E : En} {ad : Nat → Nat} {V Vz : Mem} {ls : Array Slot} {xs : Nat → Int32} {N b0 : Nat} {x4_23 : Int32} (hT : l.stackTraces = false) (hS : SF E) (hFr : Fr E) (hX : Sc E s b0 N xs) (hC : Cx p s m #[Value.ref b0] c meth E "LetterRepositoryLaw" cL_law 9 (some .boolean)) (hf : f_law_C32 xs N V x4_23 = some Vz) (hI : In E ad V s H locs) (hl : lv_has ls 9 [(0, .ref b0), (1, .ref (ad 248)), (2, .ref (ad 253)), (3, .ref (ad 265)), (4, .int x4_23)]) (hc1 : cells + 20 ≤ 601024) (hc2 : slots + 1374 ≤ 7293034) (kk : ∀ (H : Heap) (locs : List Loc) (ls : Array Slot), In E ad Vz s H locs → lv_has ls 9 [(0, .ref b0), (1, .ref (ad 248)), (2, .ref (ad 253)), (3, .ref (ad 265)), (4, .int x4_23)] → W p l e room_1 s m #[Value.ref b0] below meth c H locs (cells + 20) (slots + 1374) Q (F0 m 3519 ls [])) : W p l e room_1 s m #[Value.ref b0] below meth c H locs cells slots Q (F0 m 2164 ls []) := by
  have hx := hC.1
  have hb := hC.2.1
  unfold f_law_C32 at hf
  refine lv_aload_n hx hb dL_law_2164 rfl (lv_at hl 1 rfl) ?_
  refine lv_aload_n hx hb dL_law_2165 rfl (lv_at hl 0 rfl) ?_
  refine lv_iload hx hb dL_law_2166 (lv_at hl 4 rfl) ?_
  refine lv_iconst (v := 1) hx hb dL_law_2168 rfl ?_
  refine lv_iadd hx hb dL_law_2169 ?_
  obtain ⟨h2170, hf⟩ := gi hf
  refine r_scr hC hI hX (ib_in h2170) dL_law_2170 ?_
  refine lv_aload_n hx hb dL_law_2171 rfl (lv_at hl 0 rfl) ?_
  refine lv_iload hx hb dL_law_2172 (lv_at hl 4 rfl) ?_
  refine lv_iconst (v := 2) hx hb dL_law_2174 rfl ?_
  refine lv_iadd hx hb dL_law_2175 ?_
  obtain ⟨h2176, hf⟩ := gi hf
  refine r_scr hC hI hX (ib_in h2176) dL_law_2176 ?_
  refine lv_aload_n hx hb dL_law_2177 rfl (lv_at hl 3 rfl) ?_
  obtain ⟨r2178, V2178, q2178, hf⟩ := gbd hf
  refine kl_L_isEdited hS hT hC hI hl.1 q2178 tw_5_48 ⟨Nat.le_of_ble_eq_true rfl, Nat.le_of_ble_eq_true rfl⟩ ⟨by show cells + 2 ≤ 601024; omega, by show slots + 12 ≤ 7293034; omega⟩ (Nat.le_of_ble_eq_true rfl) dL_law_2178 (fun H locs hI => ?_)
  refine lv_istore (lv' := [(5, .int r2178), (0, .ref b0), (1, .ref (ad 248)), (2, .ref (ad 253)), (3, .ref (ad 265)), (4, .int x4_23)]) hx hb dL_law_2181 hl (Nat.lt_of_lt_of_eq (by decide) rfl) rfl (fun ls hl => ?_)
  refine lv_aload_n hx hb dL_law_2183 rfl (lv_at hl 3 rfl) ?_
  refine lv_aload_n hx hb dL_law_2184 rfl (lv_at hl 1 rfl) ?_
  refine lv_iload hx hb dL_law_2185 (lv_at hl 5 rfl) ?_
  refine lv_iconst (v := 1) hx hb dL_law_2187 rfl ?_
  refine lv_iadd hx hb dL_law_2188 ?_
  obtain ⟨h2189, hf⟩ := gi hf
  refine r_scr hC hI hX (ib_in h2189) dL_law_2189 ?_
  refine lv_aload_n hx hb dL_law_2190 rfl (lv_at hl 1 rfl) ?_
  refine lv_iload hx hb dL_law_2191 (lv_at hl 5 rfl) ?_
  refine lv_iconst (v := 2) hx hb dL_law_2193 rfl ?_
  refine lv_iadd hx hb dL_law_2194 ?_
  obtain ⟨h2195, hf⟩ := gi hf
  refine r_scr hC hI hX (ib_in h2195) dL_law_2195 ?_
  obtain ⟨r2196, V2196, q2196, hf⟩ := gbd hf
  refine k_X10_isEdited hC hI hl.1 q2196 tw_9_78 ⟨Nat.le_of_ble_eq_true rfl, Nat.le_of_ble_eq_true rfl⟩ ⟨by show cells + 2 ≤ 601024; omega, by show slots + 12 ≤ 7293034; omega⟩ (Nat.le_of_ble_eq_true rfl) dL_law_2196 (fun H locs hI => ?_)
  refine lv_istore (lv' := [(6, .int r2196), (5, .int r2178), (0, .ref b0), (1, .ref (ad 248)), (2, .ref (ad 253)), (3, .ref (ad 265)), (4, .int x4_23)]) hx hb dL_law_2199 hl (Nat.lt_of_lt_of_eq (by decide) rfl) rfl (fun ls hl => ?_)
  refine lv_aload_n hx hb dL_law_2201 rfl (lv_at hl 4 rfl) ?_
  obtain ⟨r2202, V2202, q2202, hf⟩ := gbd hf
  refine k_X10_thrown hC hI hl.1 q2202 tw_8_17 ⟨Nat.le_of_ble_eq_true rfl, Nat.le_of_ble_eq_true rfl⟩ ⟨by show cells + 2 ≤ 601024; omega, by show slots + 12 ≤ 7293034; omega⟩ (Nat.le_of_ble_eq_true rfl) dL_law_2202 (fun H locs hI => ?_)
  refine lv_iload hx hb dL_law_2205 (lv_at hl 1 rfl) ?_
  refine lv_icmp_eq (tgt := 2212) hx hb dL_law_2207 (by decide) (fun c2207 => ?_) (fun c2207 => ?_)
  · have hf := gt hf c2207
    refine lv_iload hx hb dL_law_2212 (lv_at hl 1 rfl) ?_
    obtain ⟨j2236, hj2236, hf⟩ := gj hf
    have J2236 : ∀ (V2236 : Mem) (H : Heap) (locs : List Loc) (ls : Array Slot), j2236 V2236 = some Vz → In E ad V2236 s H locs → lv_has ls 9 [(0, .ref b0), (1, .ref (ad 248)), (2, .ref (ad 253)), (3, .ref (ad 265)), (4, .int x4_23)] → W p l e room_1 s m #[Value.ref b0] below meth c H locs (cells + 2) (slots + 12) Q (F0 m 2236 ls []) := by
      intro V2236 H locs ls hf hI hl
      rw [hj2236] at hf
      dsimp only at hf
      refine lv_goto (tgt := 3519) hx hb dL_law_2236 (by decide) ?_
      cases hf
      refine x_wid (c2 := cells + 20) (s2 := slots + 1374) (by omega) (by omega) ?_
      exact kk _ _ _ hI (lv_sub hl [0, 1, 2, 3, 4] rfl)
    refine lv_if_ne (tgt := 2236) hx hb dL_law_2214 (by decide) (fun c2214 => ?_) (fun c2214 => ?_)
    · have hf := gf hf c2214
      exact J2236 _ _ _ _ hf hI (lv_sub hl [2, 3, 4, 5, 6] rfl)
    · have hf := gt hf c2214
      refine lv_aload_n hx hb dL_law_2217 rfl (lv_at hl 5 rfl) ?_
      refine lv_iconst (v := 0) hx hb dL_law_2218 rfl ?_
      refine r_lald hC hI dL_law_2219 ?_
      refine lv_iload hx hb dL_law_2220 (lv_at hl 0 rfl) ?_
      obtain ⟨j2230, hj2230, hf⟩ := gj hf
      have J2230 : ∀ (V2230 : Mem) (s0_2230 : Int64) (H : Heap) (locs : List Loc) (ls : Array Slot), j2230 V2230 s0_2230 = some Vz → In E ad V2230 s H locs → lv_has ls 9 [(0, .ref b0), (1, .ref (ad 248)), (2, .ref (ad 253)), (3, .ref (ad 265)), (4, .int x4_23)] → W p l e room_1 s m #[Value.ref b0] below meth c H locs (cells + 2) (slots + 12) Q (F0 m 2230 ls [.long s0_2230, .long ((V2202 265 0).toInt64)]) := by
        intro V2230 s0_2230 H locs ls hf hI hl
        rw [hj2230] at hf
        dsimp only at hf
        refine W.lcmp hx hb dL_law_2230 ?_
        refine lv_if_eq (tgt := 2236) hx hb dL_law_2231 (by decide) (fun c2231 => ?_) (fun c2231 => ?_)
        · have hf := gt hf c2231
          exact J2236 _ _ _ _ hf hI (lv_sub hl [0, 1, 2, 3, 4] rfl)
        · have hf := gf hf c2231
          refine lv_iconst (v := 0) hx hb dL_law_2234 rfl ?_
          cases hf
      refine lv_if_eq (tgt := 2229) hx hb dL_law_2222 (by decide) (fun c2222 => ?_) (fun c2222 => ?_)
      · have hf := gt hf c2222
        refine lv_lconst (v := 0) hx hb dL_law_2229 rfl ?_
        exact J2230 _ _ _ _ _ hf hI (lv_sub hl [2, 3, 4, 5, 6] rfl)
      · have hf := gf hf c2222
        refine lv_lconst (v := 1) hx hb dL_law_2225 rfl ?_
        refine lv_goto (tgt := 2230) hx hb dL_law_2226 (by decide) ?_
        exact J2230 _ _ _ _ _ hf hI (lv_sub hl [2, 3, 4, 5, 6] rfl)
  · have hf := gf hf c2207
    refine lv_iconst (v := 0) hx hb dL_law_2210 rfl ?_
    cases hf

def f_law_C33 (xs : Nat → Int32) (N : Nat) (V : Mem) (x4_23 : Int32) : Option Mem :=
  if ib (x4_23 + 1) N = true then
    bd (f_L_editCount V (xs (x4_23 + 1).toNatClampNeg)) fun r2247 V2247 =>
    if ib (x4_23 + 1) N = true then
      bd (f_X10_editCount V2247 (xs (x4_23 + 1).toNatClampNeg)) fun r2259 V2259 =>
      bd (f_X10_thrown V2259) fun r2265 V2265 =>
      if r2265 = r2247 then
        jn (α := Mem → Option Mem) (fun j2292 =>
          if r2247 = 0 then
            if (lg_cmp ((V2265 265 0).toInt64) ((r2259).toInt64)) = 0 then
              j2292 V2265
            else
              none
          else
            j2292 V2265
        ) (fun (V2292 : Mem) =>
          some V2292
        )
      else
        none
    else none
  else none
set_option maxRecDepth 100000 in
set_option maxHeartbeats 4000000 in
theorem lc_33 {p : Program} {l : Launch} {e : Env} {s : State} {m : MethodId} {below : List Frame} {meth : Method} {c : Code} {H : Heap} {locs : List Loc} {cells slots : Nat} {Q : State → Prop} {E : En} {ad : Nat → Nat} {V Vz : Mem} {ls : Array Slot} {xs : Nat → Int32} {N b0 : Nat} {x4_23 : Int32} (hT : l.stackTraces = false) (hS : SF E) (hFr : Fr E) (hX : Sc E s b0 N xs) (hC : Cx p s m #[Value.ref b0] c meth E "LetterRepositoryLaw" cL_law 9 (some .boolean)) (hf : f_law_C33 xs N V x4_23 = some Vz) (hI : In E ad V s H locs) (hl : lv_has ls 9 [(0, .ref b0), (1, .ref (ad 248)), (2, .ref (ad 253)), (3, .ref (ad 265)), (4, .int x4_23)]) (hc1 : cells + 20 ≤ 601024) (hc2 : slots + 1374 ≤ 7293034) (kk : ∀ (H : Heap) (locs : List Loc) (ls : Array Slot), In E ad Vz s H locs → lv_has ls 9 [(0, .ref b0), (1, .ref (ad 248)), (2, .ref (ad 253)), (3, .ref (ad 265)), (4, .int x4_23)] → W p l e room_1 s m #[Value.ref b0] below meth c H locs (cells + 20) (slots + 1374) Q (F0 m 3519 ls [])) : W p l e room_1 s m #[Value.ref b0] below meth c H locs cells slots Q (F0 m 2239 ls []) := by
  have hx := hC.1
  have hb := hC.2.1
  unfold f_law_C33 at hf
  refine lv_aload_n hx hb dL_law_2239 rfl (lv_at hl 1 rfl) ?_
  refine lv_aload_n hx hb dL_law_2240 rfl (lv_at hl 0 rfl) ?_
  refine lv_iload hx hb dL_law_2241 (lv_at hl 4 rfl) ?_
  refine lv_iconst (v := 1) hx hb dL_law_2243 rfl ?_
  refine lv_iadd hx hb dL_law_2244 ?_
  obtain ⟨h2245, hf⟩ := gi hf
  refine r_scr hC hI hX (ib_in h2245) dL_law_2245 ?_
  refine lv_aload_n hx hb dL_law_2246 rfl (lv_at hl 3 rfl) ?_
  obtain ⟨r2247, V2247, q2247, hf⟩ := gbd hf
  refine kl_L_editCount hS hT hC hI hl.1 q2247 tw_5_56 ⟨Nat.le_of_ble_eq_true rfl, Nat.le_of_ble_eq_true rfl⟩ ⟨by show cells + 1 ≤ 601024; omega, by show slots + 6 ≤ 7293034; omega⟩ (Nat.le_of_ble_eq_true rfl) dL_law_2247 (fun H locs hI => ?_)
  refine lv_istore (lv' := [(5, .int r2247), (0, .ref b0), (1, .ref (ad 248)), (2, .ref (ad 253)), (3, .ref (ad 265)), (4, .int x4_23)]) hx hb dL_law_2250 hl (Nat.lt_of_lt_of_eq (by decide) rfl) rfl (fun ls hl => ?_)
  refine lv_aload_n hx hb dL_law_2252 rfl (lv_at hl 3 rfl) ?_
  refine lv_aload_n hx hb dL_law_2253 rfl (lv_at hl 1 rfl) ?_
  refine lv_iload hx hb dL_law_2254 (lv_at hl 5 rfl) ?_
  refine lv_iconst (v := 1) hx hb dL_law_2256 rfl ?_
  refine lv_iadd hx hb dL_law_2257 ?_
  obtain ⟨h2258, hf⟩ := gi hf
  refine r_scr hC hI hX (ib_in h2258) dL_law_2258 ?_
  obtain ⟨r2259, V2259, q2259, hf⟩ := gbd hf
  refine k_X10_editCount hC hI hl.1 q2259 tw_9_82 ⟨Nat.le_of_ble_eq_true rfl, Nat.le_of_ble_eq_true rfl⟩ ⟨by show cells + 1 ≤ 601024; omega, by show slots + 6 ≤ 7293034; omega⟩ (Nat.le_of_ble_eq_true rfl) dL_law_2259 (fun H locs hI => ?_)
  refine lv_istore (lv' := [(6, .int r2259), (5, .int r2247), (0, .ref b0), (1, .ref (ad 248)), (2, .ref (ad 253)), (3, .ref (ad 265)), (4, .int x4_23)]) hx hb dL_law_2262 hl (Nat.lt_of_lt_of_eq (by decide) rfl) rfl (fun ls hl => ?_)
  refine lv_aload_n hx hb dL_law_2264 rfl (lv_at hl 4 rfl) ?_
  obtain ⟨r2265, V2265, q2265, hf⟩ := gbd hf
  refine k_X10_thrown hC hI hl.1 q2265 tw_8_17 ⟨Nat.le_of_ble_eq_true rfl, Nat.le_of_ble_eq_true rfl⟩ ⟨by show cells + 1 ≤ 601024; omega, by show slots + 6 ≤ 7293034; omega⟩ (Nat.le_of_ble_eq_true rfl) dL_law_2265 (fun H locs hI => ?_)
  refine lv_iload hx hb dL_law_2268 (lv_at hl 1 rfl) ?_
  refine lv_icmp_eq (tgt := 2275) hx hb dL_law_2270 (by decide) (fun c2270 => ?_) (fun c2270 => ?_)
  · have hf := gt hf c2270
    refine lv_iload hx hb dL_law_2275 (lv_at hl 1 rfl) ?_
    obtain ⟨j2292, hj2292, hf⟩ := gj hf
    have J2292 : ∀ (V2292 : Mem) (H : Heap) (locs : List Loc) (ls : Array Slot), j2292 V2292 = some Vz → In E ad V2292 s H locs → lv_has ls 9 [(0, .ref b0), (1, .ref (ad 248)), (2, .ref (ad 253)), (3, .ref (ad 265)), (4, .int x4_23)] → W p l e room_1 s m #[Value.ref b0] below meth c H locs (cells + 1) (slots + 6) Q (F0 m 2292 ls []) := by
      intro V2292 H locs ls hf hI hl
      rw [hj2292] at hf
      dsimp only at hf
      refine lv_goto (tgt := 3519) hx hb dL_law_2292 (by decide) ?_
      cases hf
      refine x_wid (c2 := cells + 20) (s2 := slots + 1374) (by omega) (by omega) ?_
      exact kk _ _ _ hI (lv_sub hl [0, 1, 2, 3, 4] rfl)
    refine lv_if_ne (tgt := 2292) hx hb dL_law_2277 (by decide) (fun c2277 => ?_) (fun c2277 => ?_)
    · have hf := gf hf c2277
      exact J2292 _ _ _ _ hf hI (lv_sub hl [2, 3, 4, 5, 6] rfl)
    · have hf := gt hf c2277
      refine lv_aload_n hx hb dL_law_2280 rfl (lv_at hl 5 rfl) ?_
      refine lv_iconst (v := 0) hx hb dL_law_2281 rfl ?_
      refine r_lald hC hI dL_law_2282 ?_
      refine lv_iload hx hb dL_law_2283 (lv_at hl 0 rfl) ?_
      refine lv_i2l hx hb dL_law_2285 rfl ?_
      refine W.lcmp hx hb dL_law_2286 ?_
      refine lv_if_eq (tgt := 2292) hx hb dL_law_2287 (by decide) (fun c2287 => ?_) (fun c2287 => ?_)
      · have hf := gt hf c2287
        exact J2292 _ _ _ _ hf hI (lv_sub hl [2, 3, 4, 5, 6] rfl)
      · have hf := gf hf c2287
        refine lv_iconst (v := 0) hx hb dL_law_2290 rfl ?_
        cases hf
  · have hf := gf hf c2270
    refine lv_iconst (v := 0) hx hb dL_law_2273 rfl ?_
    cases hf

def f_law_C34 (xs : Nat → Int32) (N : Nat) (V : Mem) (x4_23 : Int32) : Option Mem :=
  if ib (x4_23 + 1) N = true then
    bd (f_L_branchByHead V (xs (x4_23 + 1).toNatClampNeg)) fun r2303 V2303 =>
    if ib (x4_23 + 1) N = true then
      bd (f_X10_branchByHead V2303 (xs (x4_23 + 1).toNatClampNeg)) fun r2315 V2315 =>
      bd (f_X10_thrown V2315) fun r2321 V2321 =>
      if r2321 = r2303 then
        jn (α := Mem → Option Mem) (fun j2348 =>
          if r2303 = 0 then
            if (lg_cmp ((V2321 265 0).toInt64) ((r2315).toInt64)) = 0 then
              j2348 V2321
            else
              none
          else
            j2348 V2321
        ) (fun (V2348 : Mem) =>
          some V2348
        )
      else
        none
    else none
  else none
set_option maxRecDepth 100000 in
set_option maxHeartbeats 4000000 in
theorem lc_34 {p : Program} {l : Launch} {e : Env} {s : State} {m : MethodId} {below : List Frame} {meth : Method} {c : Code} {H : Heap} {locs : List Loc} {cells slots : Nat} {Q : State → Prop} {E : En} {ad : Nat → Nat} {V Vz : Mem} {ls : Array Slot} {xs : Nat → Int32} {N b0 : Nat} {x4_23 : Int32} (hT : l.stackTraces = false) (hS : SF E) (hFr : Fr E) (hX : Sc E s b0 N xs) (hC : Cx p s m #[Value.ref b0] c meth E "LetterRepositoryLaw" cL_law 9 (some .boolean)) (hf : f_law_C34 xs N V x4_23 = some Vz) (hI : In E ad V s H locs) (hl : lv_has ls 9 [(0, .ref b0), (1, .ref (ad 248)), (2, .ref (ad 253)), (3, .ref (ad 265)), (4, .int x4_23)]) (hc1 : cells + 20 ≤ 601024) (hc2 : slots + 1374 ≤ 7293034) (kk : ∀ (H : Heap) (locs : List Loc) (ls : Array Slot), In E ad Vz s H locs → lv_has ls 9 [(0, .ref b0), (1, .ref (ad 248)), (2, .ref (ad 253)), (3, .ref (ad 265)), (4, .int x4_23)] → W p l e room_1 s m #[Value.ref b0] below meth c H locs (cells + 20) (slots + 1374) Q (F0 m 3519 ls [])) : W p l e room_1 s m #[Value.ref b0] below meth c H locs cells slots Q (F0 m 2295 ls []) := by
  have hx := hC.1
  have hb := hC.2.1
  unfold f_law_C34 at hf
  refine lv_aload_n hx hb dL_law_2295 rfl (lv_at hl 1 rfl) ?_
  refine lv_aload_n hx hb dL_law_2296 rfl (lv_at hl 0 rfl) ?_
  refine lv_iload hx hb dL_law_2297 (lv_at hl 4 rfl) ?_
  refine lv_iconst (v := 1) hx hb dL_law_2299 rfl ?_
  refine lv_iadd hx hb dL_law_2300 ?_
  obtain ⟨h2301, hf⟩ := gi hf
  refine r_scr hC hI hX (ib_in h2301) dL_law_2301 ?_
  refine lv_aload_n hx hb dL_law_2302 rfl (lv_at hl 3 rfl) ?_
  obtain ⟨r2303, V2303, q2303, hf⟩ := gbd hf
  refine kl_L_branchByHead hS hT hC hI hl.1 q2303 tw_5_64 ⟨Nat.le_of_ble_eq_true rfl, Nat.le_of_ble_eq_true rfl⟩ ⟨by show cells + 1 ≤ 601024; omega, by show slots + 6 ≤ 7293034; omega⟩ (Nat.le_of_ble_eq_true rfl) dL_law_2303 (fun H locs hI => ?_)
  refine lv_istore (lv' := [(5, .int r2303), (0, .ref b0), (1, .ref (ad 248)), (2, .ref (ad 253)), (3, .ref (ad 265)), (4, .int x4_23)]) hx hb dL_law_2306 hl (Nat.lt_of_lt_of_eq (by decide) rfl) rfl (fun ls hl => ?_)
  refine lv_aload_n hx hb dL_law_2308 rfl (lv_at hl 3 rfl) ?_
  refine lv_aload_n hx hb dL_law_2309 rfl (lv_at hl 1 rfl) ?_
  refine lv_iload hx hb dL_law_2310 (lv_at hl 5 rfl) ?_
  refine lv_iconst (v := 1) hx hb dL_law_2312 rfl ?_
  refine lv_iadd hx hb dL_law_2313 ?_
  obtain ⟨h2314, hf⟩ := gi hf
  refine r_scr hC hI hX (ib_in h2314) dL_law_2314 ?_
  obtain ⟨r2315, V2315, q2315, hf⟩ := gbd hf
  refine k_X10_branchByHead hC hI hl.1 q2315 tw_9_86 ⟨Nat.le_of_ble_eq_true rfl, Nat.le_of_ble_eq_true rfl⟩ ⟨by show cells + 1 ≤ 601024; omega, by show slots + 6 ≤ 7293034; omega⟩ (Nat.le_of_ble_eq_true rfl) dL_law_2315 (fun H locs hI => ?_)
  refine lv_istore (lv' := [(6, .int r2315), (5, .int r2303), (0, .ref b0), (1, .ref (ad 248)), (2, .ref (ad 253)), (3, .ref (ad 265)), (4, .int x4_23)]) hx hb dL_law_2318 hl (Nat.lt_of_lt_of_eq (by decide) rfl) rfl (fun ls hl => ?_)
  refine lv_aload_n hx hb dL_law_2320 rfl (lv_at hl 4 rfl) ?_
  obtain ⟨r2321, V2321, q2321, hf⟩ := gbd hf
  refine k_X10_thrown hC hI hl.1 q2321 tw_8_17 ⟨Nat.le_of_ble_eq_true rfl, Nat.le_of_ble_eq_true rfl⟩ ⟨by show cells + 1 ≤ 601024; omega, by show slots + 6 ≤ 7293034; omega⟩ (Nat.le_of_ble_eq_true rfl) dL_law_2321 (fun H locs hI => ?_)
  refine lv_iload hx hb dL_law_2324 (lv_at hl 1 rfl) ?_
  refine lv_icmp_eq (tgt := 2331) hx hb dL_law_2326 (by decide) (fun c2326 => ?_) (fun c2326 => ?_)
  · have hf := gt hf c2326
    refine lv_iload hx hb dL_law_2331 (lv_at hl 1 rfl) ?_
    obtain ⟨j2348, hj2348, hf⟩ := gj hf
    have J2348 : ∀ (V2348 : Mem) (H : Heap) (locs : List Loc) (ls : Array Slot), j2348 V2348 = some Vz → In E ad V2348 s H locs → lv_has ls 9 [(0, .ref b0), (1, .ref (ad 248)), (2, .ref (ad 253)), (3, .ref (ad 265)), (4, .int x4_23)] → W p l e room_1 s m #[Value.ref b0] below meth c H locs (cells + 1) (slots + 6) Q (F0 m 2348 ls []) := by
      intro V2348 H locs ls hf hI hl
      rw [hj2348] at hf
      dsimp only at hf
      refine lv_goto (tgt := 3519) hx hb dL_law_2348 (by decide) ?_
      cases hf
      refine x_wid (c2 := cells + 20) (s2 := slots + 1374) (by omega) (by omega) ?_
      exact kk _ _ _ hI (lv_sub hl [0, 1, 2, 3, 4] rfl)
    refine lv_if_ne (tgt := 2348) hx hb dL_law_2333 (by decide) (fun c2333 => ?_) (fun c2333 => ?_)
    · have hf := gf hf c2333
      exact J2348 _ _ _ _ hf hI (lv_sub hl [2, 3, 4, 5, 6] rfl)
    · have hf := gt hf c2333
      refine lv_aload_n hx hb dL_law_2336 rfl (lv_at hl 5 rfl) ?_
      refine lv_iconst (v := 0) hx hb dL_law_2337 rfl ?_
      refine r_lald hC hI dL_law_2338 ?_
      refine lv_iload hx hb dL_law_2339 (lv_at hl 0 rfl) ?_
      refine lv_i2l hx hb dL_law_2341 rfl ?_
      refine W.lcmp hx hb dL_law_2342 ?_
      refine lv_if_eq (tgt := 2348) hx hb dL_law_2343 (by decide) (fun c2343 => ?_) (fun c2343 => ?_)
      · have hf := gt hf c2343
        exact J2348 _ _ _ _ hf hI (lv_sub hl [2, 3, 4, 5, 6] rfl)
      · have hf := gf hf c2343
        refine lv_iconst (v := 0) hx hb dL_law_2346 rfl ?_
        cases hf
  · have hf := gf hf c2326
    refine lv_iconst (v := 0) hx hb dL_law_2329 rfl ?_
    cases hf

def f_law_C35 (xs : Nat → Int32) (N : Nat) (V : Mem) (x4_23 : Int32) : Option Mem :=
  if ib (x4_23 + 1) N = true then
    if ib (x4_23 + 2) N = true then
      bd (f_L_conflictCount V (xs (x4_23 + 1).toNatClampNeg) (xs (x4_23 + 2).toNatClampNeg)) fun r2365 V2365 =>
      if ib (x4_23 + 1) N = true then
        if ib (x4_23 + 2) N = true then
          bd (f_X10_conflictCount V2365 (xs (x4_23 + 1).toNatClampNeg) (xs (x4_23 + 2).toNatClampNeg)) fun r2383 V2383 =>
          bd (f_X10_thrown V2383) fun r2389 V2389 =>
          if r2389 = r2365 then
            jn (α := Mem → Option Mem) (fun j2416 =>
              if r2365 = 0 then
                if (lg_cmp ((V2389 265 0).toInt64) ((r2383).toInt64)) = 0 then
                  j2416 V2389
                else
                  none
              else
                j2416 V2389
            ) (fun (V2416 : Mem) =>
              some V2416
            )
          else
            none
        else none
      else none
    else none
  else none
set_option maxRecDepth 100000 in
set_option maxHeartbeats 4000000 in
theorem lc_35 {p : Program} {l : Launch} {e : Env} {s : State} {m : MethodId} {below : List Frame} {meth : Method} {c : Code} {H : Heap} {locs : List Loc} {cells slots : Nat} {Q : State → Prop} {E : En} {ad : Nat → Nat} {V Vz : Mem} {ls : Array Slot} {xs : Nat → Int32} {N b0 : Nat} {x4_23 : Int32} (hT : l.stackTraces = false) (hS : SF E) (hFr : Fr E) (hX : Sc E s b0 N xs) (hC : Cx p s m #[Value.ref b0] c meth E "LetterRepositoryLaw" cL_law 9 (some .boolean)) (hf : f_law_C35 xs N V x4_23 = some Vz) (hI : In E ad V s H locs) (hl : lv_has ls 9 [(0, .ref b0), (1, .ref (ad 248)), (2, .ref (ad 253)), (3, .ref (ad 265)), (4, .int x4_23)]) (hc1 : cells + 20 ≤ 601024) (hc2 : slots + 1374 ≤ 7293034) (kk : ∀ (H : Heap) (locs : List Loc) (ls : Array Slot), In E ad Vz s H locs → lv_has ls 9 [(0, .ref b0), (1, .ref (ad 248)), (2, .ref (ad 253)), (3, .ref (ad 265)), (4, .int x4_23)] → W p l e room_1 s m #[Value.ref b0] below meth c H locs (cells + 20) (slots + 1374) Q (F0 m 3519 ls [])) : W p l e room_1 s m #[Value.ref b0] below meth c H locs cells slots Q (F0 m 2351 ls []) := by
  have hx := hC.1
  have hb := hC.2.1
  unfold f_law_C35 at hf
  refine lv_aload_n hx hb dL_law_2351 rfl (lv_at hl 1 rfl) ?_
  refine lv_aload_n hx hb dL_law_2352 rfl (lv_at hl 0 rfl) ?_
  refine lv_iload hx hb dL_law_2353 (lv_at hl 4 rfl) ?_
  refine lv_iconst (v := 1) hx hb dL_law_2355 rfl ?_
  refine lv_iadd hx hb dL_law_2356 ?_
  obtain ⟨h2357, hf⟩ := gi hf
  refine r_scr hC hI hX (ib_in h2357) dL_law_2357 ?_
  refine lv_aload_n hx hb dL_law_2358 rfl (lv_at hl 0 rfl) ?_
  refine lv_iload hx hb dL_law_2359 (lv_at hl 4 rfl) ?_
  refine lv_iconst (v := 2) hx hb dL_law_2361 rfl ?_
  refine lv_iadd hx hb dL_law_2362 ?_
  obtain ⟨h2363, hf⟩ := gi hf
  refine r_scr hC hI hX (ib_in h2363) dL_law_2363 ?_
  refine lv_aload_n hx hb dL_law_2364 rfl (lv_at hl 3 rfl) ?_
  obtain ⟨r2365, V2365, q2365, hf⟩ := gbd hf
  refine kl_L_conflictCount hS hT hC hI hl.1 q2365 tw_5_80 ⟨Nat.le_of_ble_eq_true rfl, Nat.le_of_ble_eq_true rfl⟩ ⟨by show cells + 1 ≤ 601024; omega, by show slots + 6 ≤ 7293034; omega⟩ (Nat.le_of_ble_eq_true rfl) dL_law_2365 (fun H locs hI => ?_)
  refine lv_istore (lv' := [(5, .int r2365), (0, .ref b0), (1, .ref (ad 248)), (2, .ref (ad 253)), (3, .ref (ad 265)), (4, .int x4_23)]) hx hb dL_law_2368 hl (Nat.lt_of_lt_of_eq (by decide) rfl) rfl (fun ls hl => ?_)
  refine lv_aload_n hx hb dL_law_2370 rfl (lv_at hl 3 rfl) ?_
  refine lv_aload_n hx hb dL_law_2371 rfl (lv_at hl 1 rfl) ?_
  refine lv_iload hx hb dL_law_2372 (lv_at hl 5 rfl) ?_
  refine lv_iconst (v := 1) hx hb dL_law_2374 rfl ?_
  refine lv_iadd hx hb dL_law_2375 ?_
  obtain ⟨h2376, hf⟩ := gi hf
  refine r_scr hC hI hX (ib_in h2376) dL_law_2376 ?_
  refine lv_aload_n hx hb dL_law_2377 rfl (lv_at hl 1 rfl) ?_
  refine lv_iload hx hb dL_law_2378 (lv_at hl 5 rfl) ?_
  refine lv_iconst (v := 2) hx hb dL_law_2380 rfl ?_
  refine lv_iadd hx hb dL_law_2381 ?_
  obtain ⟨h2382, hf⟩ := gi hf
  refine r_scr hC hI hX (ib_in h2382) dL_law_2382 ?_
  obtain ⟨r2383, V2383, q2383, hf⟩ := gbd hf
  refine k_X10_conflictCount hC hI hl.1 q2383 tw_9_90 ⟨Nat.le_of_ble_eq_true rfl, Nat.le_of_ble_eq_true rfl⟩ ⟨by show cells + 1 ≤ 601024; omega, by show slots + 6 ≤ 7293034; omega⟩ (Nat.le_of_ble_eq_true rfl) dL_law_2383 (fun H locs hI => ?_)
  refine lv_istore (lv' := [(6, .int r2383), (5, .int r2365), (0, .ref b0), (1, .ref (ad 248)), (2, .ref (ad 253)), (3, .ref (ad 265)), (4, .int x4_23)]) hx hb dL_law_2386 hl (Nat.lt_of_lt_of_eq (by decide) rfl) rfl (fun ls hl => ?_)
  refine lv_aload_n hx hb dL_law_2388 rfl (lv_at hl 4 rfl) ?_
  obtain ⟨r2389, V2389, q2389, hf⟩ := gbd hf
  refine k_X10_thrown hC hI hl.1 q2389 tw_8_17 ⟨Nat.le_of_ble_eq_true rfl, Nat.le_of_ble_eq_true rfl⟩ ⟨by show cells + 1 ≤ 601024; omega, by show slots + 6 ≤ 7293034; omega⟩ (Nat.le_of_ble_eq_true rfl) dL_law_2389 (fun H locs hI => ?_)
  refine lv_iload hx hb dL_law_2392 (lv_at hl 1 rfl) ?_
  refine lv_icmp_eq (tgt := 2399) hx hb dL_law_2394 (by decide) (fun c2394 => ?_) (fun c2394 => ?_)
  · have hf := gt hf c2394
    refine lv_iload hx hb dL_law_2399 (lv_at hl 1 rfl) ?_
    obtain ⟨j2416, hj2416, hf⟩ := gj hf
    have J2416 : ∀ (V2416 : Mem) (H : Heap) (locs : List Loc) (ls : Array Slot), j2416 V2416 = some Vz → In E ad V2416 s H locs → lv_has ls 9 [(0, .ref b0), (1, .ref (ad 248)), (2, .ref (ad 253)), (3, .ref (ad 265)), (4, .int x4_23)] → W p l e room_1 s m #[Value.ref b0] below meth c H locs (cells + 1) (slots + 6) Q (F0 m 2416 ls []) := by
      intro V2416 H locs ls hf hI hl
      rw [hj2416] at hf
      dsimp only at hf
      refine lv_goto (tgt := 3519) hx hb dL_law_2416 (by decide) ?_
      cases hf
      refine x_wid (c2 := cells + 20) (s2 := slots + 1374) (by omega) (by omega) ?_
      exact kk _ _ _ hI (lv_sub hl [0, 1, 2, 3, 4] rfl)
    refine lv_if_ne (tgt := 2416) hx hb dL_law_2401 (by decide) (fun c2401 => ?_) (fun c2401 => ?_)
    · have hf := gf hf c2401
      exact J2416 _ _ _ _ hf hI (lv_sub hl [2, 3, 4, 5, 6] rfl)
    · have hf := gt hf c2401
      refine lv_aload_n hx hb dL_law_2404 rfl (lv_at hl 5 rfl) ?_
      refine lv_iconst (v := 0) hx hb dL_law_2405 rfl ?_
      refine r_lald hC hI dL_law_2406 ?_
      refine lv_iload hx hb dL_law_2407 (lv_at hl 0 rfl) ?_
      refine lv_i2l hx hb dL_law_2409 rfl ?_
      refine W.lcmp hx hb dL_law_2410 ?_
      refine lv_if_eq (tgt := 2416) hx hb dL_law_2411 (by decide) (fun c2411 => ?_) (fun c2411 => ?_)
      · have hf := gt hf c2411
        exact J2416 _ _ _ _ hf hI (lv_sub hl [2, 3, 4, 5, 6] rfl)
      · have hf := gf hf c2411
        refine lv_iconst (v := 0) hx hb dL_law_2414 rfl ?_
        cases hf
  · have hf := gf hf c2394
    refine lv_iconst (v := 0) hx hb dL_law_2397 rfl ?_
    cases hf

def f_law_C36 (xs : Nat → Int32) (N : Nat) (V : Mem) (x4_23 : Int32) : Option Mem :=
  if ib (x4_23 + 1) N = true then
    if ib (x4_23 + 2) N = true then
      if ib (x4_23 + 3) N = true then
        bd (f_L_conflictAt V (xs (x4_23 + 1).toNatClampNeg) (xs (x4_23 + 2).toNatClampNeg) (xs (x4_23 + 3).toNatClampNeg)) fun r2439 V2439 =>
        if ib (x4_23 + 1) N = true then
          if ib (x4_23 + 2) N = true then
            if ib (x4_23 + 3) N = true then
              bd (f_X10_conflictAt V2439 (xs (x4_23 + 1).toNatClampNeg) (xs (x4_23 + 2).toNatClampNeg) (xs (x4_23 + 3).toNatClampNeg)) fun r2463 V2463 =>
              bd (f_X10_thrown V2463) fun r2469 V2469 =>
              if r2469 = r2439 then
                jn (α := Mem → Option Mem) (fun j2496 =>
                  if r2439 = 0 then
                    if (lg_cmp ((V2469 265 0).toInt64) ((r2463).toInt64)) = 0 then
                      j2496 V2469
                    else
                      none
                  else
                    j2496 V2469
                ) (fun (V2496 : Mem) =>
                  some V2496
                )
              else
                none
            else none
          else none
        else none
      else none
    else none
  else none
set_option maxRecDepth 100000 in
set_option maxHeartbeats 4000000 in
theorem lc_36 {p : Program} {l : Launch} {e : Env} {s : State} {m : MethodId} {below : List Frame} {meth : Method} {c : Code} {H : Heap} {locs : List Loc} {cells slots : Nat} {Q : State → Prop} {E : En} {ad : Nat → Nat} {V Vz : Mem} {ls : Array Slot} {xs : Nat → Int32} {N b0 : Nat} {x4_23 : Int32} (hT : l.stackTraces = false) (hS : SF E) (hFr : Fr E) (hX : Sc E s b0 N xs) (hC : Cx p s m #[Value.ref b0] c meth E "LetterRepositoryLaw" cL_law 9 (some .boolean)) (hf : f_law_C36 xs N V x4_23 = some Vz) (hI : In E ad V s H locs) (hl : lv_has ls 9 [(0, .ref b0), (1, .ref (ad 248)), (2, .ref (ad 253)), (3, .ref (ad 265)), (4, .int x4_23)]) (hc1 : cells + 20 ≤ 601024) (hc2 : slots + 1374 ≤ 7293034) (kk : ∀ (H : Heap) (locs : List Loc) (ls : Array Slot), In E ad Vz s H locs → lv_has ls 9 [(0, .ref b0), (1, .ref (ad 248)), (2, .ref (ad 253)), (3, .ref (ad 265)), (4, .int x4_23)] → W p l e room_1 s m #[Value.ref b0] below meth c H locs (cells + 20) (slots + 1374) Q (F0 m 3519 ls [])) : W p l e room_1 s m #[Value.ref b0] below meth c H locs cells slots Q (F0 m 2419 ls []) := by
  have hx := hC.1
  have hb := hC.2.1
  unfold f_law_C36 at hf
  refine lv_aload_n hx hb dL_law_2419 rfl (lv_at hl 1 rfl) ?_
  refine lv_aload_n hx hb dL_law_2420 rfl (lv_at hl 0 rfl) ?_
  refine lv_iload hx hb dL_law_2421 (lv_at hl 4 rfl) ?_
  refine lv_iconst (v := 1) hx hb dL_law_2423 rfl ?_
  refine lv_iadd hx hb dL_law_2424 ?_
  obtain ⟨h2425, hf⟩ := gi hf
  refine r_scr hC hI hX (ib_in h2425) dL_law_2425 ?_
  refine lv_aload_n hx hb dL_law_2426 rfl (lv_at hl 0 rfl) ?_
  refine lv_iload hx hb dL_law_2427 (lv_at hl 4 rfl) ?_
  refine lv_iconst (v := 2) hx hb dL_law_2429 rfl ?_
  refine lv_iadd hx hb dL_law_2430 ?_
  obtain ⟨h2431, hf⟩ := gi hf
  refine r_scr hC hI hX (ib_in h2431) dL_law_2431 ?_
  refine lv_aload_n hx hb dL_law_2432 rfl (lv_at hl 0 rfl) ?_
  refine lv_iload hx hb dL_law_2433 (lv_at hl 4 rfl) ?_
  refine lv_iconst (v := 3) hx hb dL_law_2435 rfl ?_
  refine lv_iadd hx hb dL_law_2436 ?_
  obtain ⟨h2437, hf⟩ := gi hf
  refine r_scr hC hI hX (ib_in h2437) dL_law_2437 ?_
  refine lv_aload_n hx hb dL_law_2438 rfl (lv_at hl 3 rfl) ?_
  obtain ⟨r2439, V2439, q2439, hf⟩ := gbd hf
  refine kl_L_conflictAt hS hT hC hI hl.1 q2439 tw_5_93 ⟨Nat.le_of_ble_eq_true rfl, Nat.le_of_ble_eq_true rfl⟩ ⟨by show cells + 2 ≤ 601024; omega, by show slots + 12 ≤ 7293034; omega⟩ (Nat.le_of_ble_eq_true rfl) dL_law_2439 (fun H locs hI => ?_)
  refine lv_istore (lv' := [(5, .int r2439), (0, .ref b0), (1, .ref (ad 248)), (2, .ref (ad 253)), (3, .ref (ad 265)), (4, .int x4_23)]) hx hb dL_law_2442 hl (Nat.lt_of_lt_of_eq (by decide) rfl) rfl (fun ls hl => ?_)
  refine lv_aload_n hx hb dL_law_2444 rfl (lv_at hl 3 rfl) ?_
  refine lv_aload_n hx hb dL_law_2445 rfl (lv_at hl 1 rfl) ?_
  refine lv_iload hx hb dL_law_2446 (lv_at hl 5 rfl) ?_
  refine lv_iconst (v := 1) hx hb dL_law_2448 rfl ?_
  refine lv_iadd hx hb dL_law_2449 ?_
  obtain ⟨h2450, hf⟩ := gi hf
  refine r_scr hC hI hX (ib_in h2450) dL_law_2450 ?_
  refine lv_aload_n hx hb dL_law_2451 rfl (lv_at hl 1 rfl) ?_
  refine lv_iload hx hb dL_law_2452 (lv_at hl 5 rfl) ?_
  refine lv_iconst (v := 2) hx hb dL_law_2454 rfl ?_
  refine lv_iadd hx hb dL_law_2455 ?_
  obtain ⟨h2456, hf⟩ := gi hf
  refine r_scr hC hI hX (ib_in h2456) dL_law_2456 ?_
  refine lv_aload_n hx hb dL_law_2457 rfl (lv_at hl 1 rfl) ?_
  refine lv_iload hx hb dL_law_2458 (lv_at hl 5 rfl) ?_
  refine lv_iconst (v := 3) hx hb dL_law_2460 rfl ?_
  refine lv_iadd hx hb dL_law_2461 ?_
  obtain ⟨h2462, hf⟩ := gi hf
  refine r_scr hC hI hX (ib_in h2462) dL_law_2462 ?_
  obtain ⟨r2463, V2463, q2463, hf⟩ := gbd hf
  refine k_X10_conflictAt hC hI hl.1 q2463 tw_9_98 ⟨Nat.le_of_ble_eq_true rfl, Nat.le_of_ble_eq_true rfl⟩ ⟨by show cells + 2 ≤ 601024; omega, by show slots + 12 ≤ 7293034; omega⟩ (Nat.le_of_ble_eq_true rfl) dL_law_2463 (fun H locs hI => ?_)
  refine lv_istore (lv' := [(6, .int r2463), (5, .int r2439), (0, .ref b0), (1, .ref (ad 248)), (2, .ref (ad 253)), (3, .ref (ad 265)), (4, .int x4_23)]) hx hb dL_law_2466 hl (Nat.lt_of_lt_of_eq (by decide) rfl) rfl (fun ls hl => ?_)
  refine lv_aload_n hx hb dL_law_2468 rfl (lv_at hl 4 rfl) ?_
  obtain ⟨r2469, V2469, q2469, hf⟩ := gbd hf
  refine k_X10_thrown hC hI hl.1 q2469 tw_8_17 ⟨Nat.le_of_ble_eq_true rfl, Nat.le_of_ble_eq_true rfl⟩ ⟨by show cells + 2 ≤ 601024; omega, by show slots + 12 ≤ 7293034; omega⟩ (Nat.le_of_ble_eq_true rfl) dL_law_2469 (fun H locs hI => ?_)
  refine lv_iload hx hb dL_law_2472 (lv_at hl 1 rfl) ?_
  refine lv_icmp_eq (tgt := 2479) hx hb dL_law_2474 (by decide) (fun c2474 => ?_) (fun c2474 => ?_)
  · have hf := gt hf c2474
    refine lv_iload hx hb dL_law_2479 (lv_at hl 1 rfl) ?_
    obtain ⟨j2496, hj2496, hf⟩ := gj hf
    have J2496 : ∀ (V2496 : Mem) (H : Heap) (locs : List Loc) (ls : Array Slot), j2496 V2496 = some Vz → In E ad V2496 s H locs → lv_has ls 9 [(0, .ref b0), (1, .ref (ad 248)), (2, .ref (ad 253)), (3, .ref (ad 265)), (4, .int x4_23)] → W p l e room_1 s m #[Value.ref b0] below meth c H locs (cells + 2) (slots + 12) Q (F0 m 2496 ls []) := by
      intro V2496 H locs ls hf hI hl
      rw [hj2496] at hf
      dsimp only at hf
      refine lv_goto (tgt := 3519) hx hb dL_law_2496 (by decide) ?_
      cases hf
      refine x_wid (c2 := cells + 20) (s2 := slots + 1374) (by omega) (by omega) ?_
      exact kk _ _ _ hI (lv_sub hl [0, 1, 2, 3, 4] rfl)
    refine lv_if_ne (tgt := 2496) hx hb dL_law_2481 (by decide) (fun c2481 => ?_) (fun c2481 => ?_)
    · have hf := gf hf c2481
      exact J2496 _ _ _ _ hf hI (lv_sub hl [2, 3, 4, 5, 6] rfl)
    · have hf := gt hf c2481
      refine lv_aload_n hx hb dL_law_2484 rfl (lv_at hl 5 rfl) ?_
      refine lv_iconst (v := 0) hx hb dL_law_2485 rfl ?_
      refine r_lald hC hI dL_law_2486 ?_
      refine lv_iload hx hb dL_law_2487 (lv_at hl 0 rfl) ?_
      refine lv_i2l hx hb dL_law_2489 rfl ?_
      refine W.lcmp hx hb dL_law_2490 ?_
      refine lv_if_eq (tgt := 2496) hx hb dL_law_2491 (by decide) (fun c2491 => ?_) (fun c2491 => ?_)
      · have hf := gt hf c2491
        exact J2496 _ _ _ _ hf hI (lv_sub hl [2, 3, 4, 5, 6] rfl)
      · have hf := gf hf c2491
        refine lv_iconst (v := 0) hx hb dL_law_2494 rfl ?_
        cases hf
  · have hf := gf hf c2474
    refine lv_iconst (v := 0) hx hb dL_law_2477 rfl ?_
    cases hf

def f_law_C37 (xs : Nat → Int32) (N : Nat) (V : Mem) (x4_23 : Int32) : Option Mem :=
  if ib (x4_23 + 1) N = true then
    if ib (x4_23 + 2) N = true then
      bd (f_L_canMerge V (xs (x4_23 + 1).toNatClampNeg) (xs (x4_23 + 2).toNatClampNeg)) fun r2513 V2513 =>
      if ib (x4_23 + 1) N = true then
        if ib (x4_23 + 2) N = true then
          bd (f_X10_canMerge V2513 (xs (x4_23 + 1).toNatClampNeg) (xs (x4_23 + 2).toNatClampNeg)) fun r2531 V2531 =>
          bd (f_X10_thrown V2531) fun r2537 V2537 =>
          if r2537 = r2513 then
            jn (α := Mem → Option Mem) (fun j2571 =>
              if r2513 = 0 then
                jn (α := Mem → Int64 → Option Mem) (fun j2565 =>
                  if r2531 = 0 then
                    j2565 V2537 0
                  else
                    j2565 V2537 1
                ) (fun (V2565 : Mem) (s0_2565 : Int64) =>
                  if (lg_cmp ((V2537 265 0).toInt64) s0_2565) = 0 then
                    j2571 V2565
                  else
                    none
                )
              else
                j2571 V2537
            ) (fun (V2571 : Mem) =>
              some V2571
            )
          else
            none
        else none
      else none
    else none
  else none
set_option maxRecDepth 100000 in
set_option maxHeartbeats 4000000 in
theorem lc_37 {p : Program} {l : Launch} {e : Env} {s : State} {m : MethodId} {below : List Frame} {meth : Method} {c : Code} {H : Heap} {locs : List Loc} {cells slots : Nat} {Q : State → Prop} {E : En} {ad : Nat → Nat} {V Vz : Mem} {ls : Array Slot} {xs : Nat → Int32} {N b0 : Nat} {x4_23 : Int32} (hT : l.stackTraces = false) (hS : SF E) (hFr : Fr E) (hX : Sc E s b0 N xs) (hC : Cx p s m #[Value.ref b0] c meth E "LetterRepositoryLaw" cL_law 9 (some .boolean)) (hf : f_law_C37 xs N V x4_23 = some Vz) (hI : In E ad V s H locs) (hl : lv_has ls 9 [(0, .ref b0), (1, .ref (ad 248)), (2, .ref (ad 253)), (3, .ref (ad 265)), (4, .int x4_23)]) (hc1 : cells + 20 ≤ 601024) (hc2 : slots + 1374 ≤ 7293034) (kk : ∀ (H : Heap) (locs : List Loc) (ls : Array Slot), In E ad Vz s H locs → lv_has ls 9 [(0, .ref b0), (1, .ref (ad 248)), (2, .ref (ad 253)), (3, .ref (ad 265)), (4, .int x4_23)] → W p l e room_1 s m #[Value.ref b0] below meth c H locs (cells + 20) (slots + 1374) Q (F0 m 3519 ls [])) : W p l e room_1 s m #[Value.ref b0] below meth c H locs cells slots Q (F0 m 2499 ls []) := by
  have hx := hC.1
  have hb := hC.2.1
  unfold f_law_C37 at hf
  refine lv_aload_n hx hb dL_law_2499 rfl (lv_at hl 1 rfl) ?_
  refine lv_aload_n hx hb dL_law_2500 rfl (lv_at hl 0 rfl) ?_
  refine lv_iload hx hb dL_law_2501 (lv_at hl 4 rfl) ?_
  refine lv_iconst (v := 1) hx hb dL_law_2503 rfl ?_
  refine lv_iadd hx hb dL_law_2504 ?_
  obtain ⟨h2505, hf⟩ := gi hf
  refine r_scr hC hI hX (ib_in h2505) dL_law_2505 ?_
  refine lv_aload_n hx hb dL_law_2506 rfl (lv_at hl 0 rfl) ?_
  refine lv_iload hx hb dL_law_2507 (lv_at hl 4 rfl) ?_
  refine lv_iconst (v := 2) hx hb dL_law_2509 rfl ?_
  refine lv_iadd hx hb dL_law_2510 ?_
  obtain ⟨h2511, hf⟩ := gi hf
  refine r_scr hC hI hX (ib_in h2511) dL_law_2511 ?_
  refine lv_aload_n hx hb dL_law_2512 rfl (lv_at hl 3 rfl) ?_
  obtain ⟨r2513, V2513, q2513, hf⟩ := gbd hf
  refine kl_L_canMerge hS hT hC hI hl.1 q2513 tw_5_104 ⟨Nat.le_of_ble_eq_true rfl, Nat.le_of_ble_eq_true rfl⟩ ⟨by show cells + 1 ≤ 601024; omega, by show slots + 6 ≤ 7293034; omega⟩ (Nat.le_of_ble_eq_true rfl) dL_law_2513 (fun H locs hI => ?_)
  refine lv_istore (lv' := [(5, .int r2513), (0, .ref b0), (1, .ref (ad 248)), (2, .ref (ad 253)), (3, .ref (ad 265)), (4, .int x4_23)]) hx hb dL_law_2516 hl (Nat.lt_of_lt_of_eq (by decide) rfl) rfl (fun ls hl => ?_)
  refine lv_aload_n hx hb dL_law_2518 rfl (lv_at hl 3 rfl) ?_
  refine lv_aload_n hx hb dL_law_2519 rfl (lv_at hl 1 rfl) ?_
  refine lv_iload hx hb dL_law_2520 (lv_at hl 5 rfl) ?_
  refine lv_iconst (v := 1) hx hb dL_law_2522 rfl ?_
  refine lv_iadd hx hb dL_law_2523 ?_
  obtain ⟨h2524, hf⟩ := gi hf
  refine r_scr hC hI hX (ib_in h2524) dL_law_2524 ?_
  refine lv_aload_n hx hb dL_law_2525 rfl (lv_at hl 1 rfl) ?_
  refine lv_iload hx hb dL_law_2526 (lv_at hl 5 rfl) ?_
  refine lv_iconst (v := 2) hx hb dL_law_2528 rfl ?_
  refine lv_iadd hx hb dL_law_2529 ?_
  obtain ⟨h2530, hf⟩ := gi hf
  refine r_scr hC hI hX (ib_in h2530) dL_law_2530 ?_
  obtain ⟨r2531, V2531, q2531, hf⟩ := gbd hf
  refine k_X10_canMerge hC hI hl.1 q2531 tw_9_102 ⟨Nat.le_of_ble_eq_true rfl, Nat.le_of_ble_eq_true rfl⟩ ⟨by show cells + 1 ≤ 601024; omega, by show slots + 6 ≤ 7293034; omega⟩ (Nat.le_of_ble_eq_true rfl) dL_law_2531 (fun H locs hI => ?_)
  refine lv_istore (lv' := [(6, .int r2531), (5, .int r2513), (0, .ref b0), (1, .ref (ad 248)), (2, .ref (ad 253)), (3, .ref (ad 265)), (4, .int x4_23)]) hx hb dL_law_2534 hl (Nat.lt_of_lt_of_eq (by decide) rfl) rfl (fun ls hl => ?_)
  refine lv_aload_n hx hb dL_law_2536 rfl (lv_at hl 4 rfl) ?_
  obtain ⟨r2537, V2537, q2537, hf⟩ := gbd hf
  refine k_X10_thrown hC hI hl.1 q2537 tw_8_17 ⟨Nat.le_of_ble_eq_true rfl, Nat.le_of_ble_eq_true rfl⟩ ⟨by show cells + 1 ≤ 601024; omega, by show slots + 6 ≤ 7293034; omega⟩ (Nat.le_of_ble_eq_true rfl) dL_law_2537 (fun H locs hI => ?_)
  refine lv_iload hx hb dL_law_2540 (lv_at hl 1 rfl) ?_
  refine lv_icmp_eq (tgt := 2547) hx hb dL_law_2542 (by decide) (fun c2542 => ?_) (fun c2542 => ?_)
  · have hf := gt hf c2542
    refine lv_iload hx hb dL_law_2547 (lv_at hl 1 rfl) ?_
    obtain ⟨j2571, hj2571, hf⟩ := gj hf
    have J2571 : ∀ (V2571 : Mem) (H : Heap) (locs : List Loc) (ls : Array Slot), j2571 V2571 = some Vz → In E ad V2571 s H locs → lv_has ls 9 [(0, .ref b0), (1, .ref (ad 248)), (2, .ref (ad 253)), (3, .ref (ad 265)), (4, .int x4_23)] → W p l e room_1 s m #[Value.ref b0] below meth c H locs (cells + 1) (slots + 6) Q (F0 m 2571 ls []) := by
      intro V2571 H locs ls hf hI hl
      rw [hj2571] at hf
      dsimp only at hf
      refine lv_goto (tgt := 3519) hx hb dL_law_2571 (by decide) ?_
      cases hf
      refine x_wid (c2 := cells + 20) (s2 := slots + 1374) (by omega) (by omega) ?_
      exact kk _ _ _ hI (lv_sub hl [0, 1, 2, 3, 4] rfl)
    refine lv_if_ne (tgt := 2571) hx hb dL_law_2549 (by decide) (fun c2549 => ?_) (fun c2549 => ?_)
    · have hf := gf hf c2549
      exact J2571 _ _ _ _ hf hI (lv_sub hl [2, 3, 4, 5, 6] rfl)
    · have hf := gt hf c2549
      refine lv_aload_n hx hb dL_law_2552 rfl (lv_at hl 5 rfl) ?_
      refine lv_iconst (v := 0) hx hb dL_law_2553 rfl ?_
      refine r_lald hC hI dL_law_2554 ?_
      refine lv_iload hx hb dL_law_2555 (lv_at hl 0 rfl) ?_
      obtain ⟨j2565, hj2565, hf⟩ := gj hf
      have J2565 : ∀ (V2565 : Mem) (s0_2565 : Int64) (H : Heap) (locs : List Loc) (ls : Array Slot), j2565 V2565 s0_2565 = some Vz → In E ad V2565 s H locs → lv_has ls 9 [(0, .ref b0), (1, .ref (ad 248)), (2, .ref (ad 253)), (3, .ref (ad 265)), (4, .int x4_23)] → W p l e room_1 s m #[Value.ref b0] below meth c H locs (cells + 1) (slots + 6) Q (F0 m 2565 ls [.long s0_2565, .long ((V2537 265 0).toInt64)]) := by
        intro V2565 s0_2565 H locs ls hf hI hl
        rw [hj2565] at hf
        dsimp only at hf
        refine W.lcmp hx hb dL_law_2565 ?_
        refine lv_if_eq (tgt := 2571) hx hb dL_law_2566 (by decide) (fun c2566 => ?_) (fun c2566 => ?_)
        · have hf := gt hf c2566
          exact J2571 _ _ _ _ hf hI (lv_sub hl [0, 1, 2, 3, 4] rfl)
        · have hf := gf hf c2566
          refine lv_iconst (v := 0) hx hb dL_law_2569 rfl ?_
          cases hf
      refine lv_if_eq (tgt := 2564) hx hb dL_law_2557 (by decide) (fun c2557 => ?_) (fun c2557 => ?_)
      · have hf := gt hf c2557
        refine lv_lconst (v := 0) hx hb dL_law_2564 rfl ?_
        exact J2565 _ _ _ _ _ hf hI (lv_sub hl [2, 3, 4, 5, 6] rfl)
      · have hf := gf hf c2557
        refine lv_lconst (v := 1) hx hb dL_law_2560 rfl ?_
        refine lv_goto (tgt := 2565) hx hb dL_law_2561 (by decide) ?_
        exact J2565 _ _ _ _ _ hf hI (lv_sub hl [2, 3, 4, 5, 6] rfl)
  · have hf := gf hf c2542
    refine lv_iconst (v := 0) hx hb dL_law_2545 rfl ?_
    cases hf

def f_law_C38 (xs : Nat → Int32) (N : Nat) (V : Mem) (x4_23 : Int32) : Option Mem :=
  if ib (x4_23 + 1) N = true then
    if ib (x4_23 + 2) N = true then
      if ib (x4_23 + 3) N = true then
        bd (f_L_mergedLetter V (xs (x4_23 + 1).toNatClampNeg) (xs (x4_23 + 2).toNatClampNeg) (xs (x4_23 + 3).toNatClampNeg)) fun r2594 V2594 =>
        if ib (x4_23 + 1) N = true then
          if ib (x4_23 + 2) N = true then
            if ib (x4_23 + 3) N = true then
              bd (f_X10_mergedLetter V2594 (xs (x4_23 + 1).toNatClampNeg) (xs (x4_23 + 2).toNatClampNeg) (xs (x4_23 + 3).toNatClampNeg)) fun r2618 V2618 =>
              bd (f_X10_thrown V2618) fun r2624 V2624 =>
              if r2624 = r2594 then
                jn (α := Mem → Option Mem) (fun j2651 =>
                  if r2594 = 0 then
                    if (lg_cmp ((V2624 265 0).toInt64) ((r2618).toInt64)) = 0 then
                      j2651 V2624
                    else
                      none
                  else
                    j2651 V2624
                ) (fun (V2651 : Mem) =>
                  some V2651
                )
              else
                none
            else none
          else none
        else none
      else none
    else none
  else none
set_option maxRecDepth 100000 in
set_option maxHeartbeats 4000000 in
theorem lc_38 {p : Program} {l : Launch} {e : Env} {s : State} {m : MethodId} {below : List Frame} {meth : Method} {c : Code} {H : Heap} {locs : List Loc} {cells slots : Nat} {Q : State → Prop} {E : En} {ad : Nat → Nat} {V Vz : Mem} {ls : Array Slot} {xs : Nat → Int32} {N b0 : Nat} {x4_23 : Int32} (hT : l.stackTraces = false) (hS : SF E) (hFr : Fr E) (hX : Sc E s b0 N xs) (hC : Cx p s m #[Value.ref b0] c meth E "LetterRepositoryLaw" cL_law 9 (some .boolean)) (hf : f_law_C38 xs N V x4_23 = some Vz) (hI : In E ad V s H locs) (hl : lv_has ls 9 [(0, .ref b0), (1, .ref (ad 248)), (2, .ref (ad 253)), (3, .ref (ad 265)), (4, .int x4_23)]) (hc1 : cells + 20 ≤ 601024) (hc2 : slots + 1374 ≤ 7293034) (kk : ∀ (H : Heap) (locs : List Loc) (ls : Array Slot), In E ad Vz s H locs → lv_has ls 9 [(0, .ref b0), (1, .ref (ad 248)), (2, .ref (ad 253)), (3, .ref (ad 265)), (4, .int x4_23)] → W p l e room_1 s m #[Value.ref b0] below meth c H locs (cells + 20) (slots + 1374) Q (F0 m 3519 ls [])) : W p l e room_1 s m #[Value.ref b0] below meth c H locs cells slots Q (F0 m 2574 ls []) := by
  have hx := hC.1
  have hb := hC.2.1
  unfold f_law_C38 at hf
  refine lv_aload_n hx hb dL_law_2574 rfl (lv_at hl 1 rfl) ?_
  refine lv_aload_n hx hb dL_law_2575 rfl (lv_at hl 0 rfl) ?_
  refine lv_iload hx hb dL_law_2576 (lv_at hl 4 rfl) ?_
  refine lv_iconst (v := 1) hx hb dL_law_2578 rfl ?_
  refine lv_iadd hx hb dL_law_2579 ?_
  obtain ⟨h2580, hf⟩ := gi hf
  refine r_scr hC hI hX (ib_in h2580) dL_law_2580 ?_
  refine lv_aload_n hx hb dL_law_2581 rfl (lv_at hl 0 rfl) ?_
  refine lv_iload hx hb dL_law_2582 (lv_at hl 4 rfl) ?_
  refine lv_iconst (v := 2) hx hb dL_law_2584 rfl ?_
  refine lv_iadd hx hb dL_law_2585 ?_
  obtain ⟨h2586, hf⟩ := gi hf
  refine r_scr hC hI hX (ib_in h2586) dL_law_2586 ?_
  refine lv_aload_n hx hb dL_law_2587 rfl (lv_at hl 0 rfl) ?_
  refine lv_iload hx hb dL_law_2588 (lv_at hl 4 rfl) ?_
  refine lv_iconst (v := 3) hx hb dL_law_2590 rfl ?_
  refine lv_iadd hx hb dL_law_2591 ?_
  obtain ⟨h2592, hf⟩ := gi hf
  refine r_scr hC hI hX (ib_in h2592) dL_law_2592 ?_
  refine lv_aload_n hx hb dL_law_2593 rfl (lv_at hl 3 rfl) ?_
  obtain ⟨r2594, V2594, q2594, hf⟩ := gbd hf
  refine kl_L_mergedLetter hS hT hC hI hl.1 q2594 tw_5_112 ⟨Nat.le_of_ble_eq_true rfl, Nat.le_of_ble_eq_true rfl⟩ ⟨by show cells + 3 ≤ 601024; omega, by show slots + 18 ≤ 7293034; omega⟩ (Nat.le_of_ble_eq_true rfl) dL_law_2594 (fun H locs hI => ?_)
  refine lv_istore (lv' := [(5, .int r2594), (0, .ref b0), (1, .ref (ad 248)), (2, .ref (ad 253)), (3, .ref (ad 265)), (4, .int x4_23)]) hx hb dL_law_2597 hl (Nat.lt_of_lt_of_eq (by decide) rfl) rfl (fun ls hl => ?_)
  refine lv_aload_n hx hb dL_law_2599 rfl (lv_at hl 3 rfl) ?_
  refine lv_aload_n hx hb dL_law_2600 rfl (lv_at hl 1 rfl) ?_
  refine lv_iload hx hb dL_law_2601 (lv_at hl 5 rfl) ?_
  refine lv_iconst (v := 1) hx hb dL_law_2603 rfl ?_
  refine lv_iadd hx hb dL_law_2604 ?_
  obtain ⟨h2605, hf⟩ := gi hf
  refine r_scr hC hI hX (ib_in h2605) dL_law_2605 ?_
  refine lv_aload_n hx hb dL_law_2606 rfl (lv_at hl 1 rfl) ?_
  refine lv_iload hx hb dL_law_2607 (lv_at hl 5 rfl) ?_
  refine lv_iconst (v := 2) hx hb dL_law_2609 rfl ?_
  refine lv_iadd hx hb dL_law_2610 ?_
  obtain ⟨h2611, hf⟩ := gi hf
  refine r_scr hC hI hX (ib_in h2611) dL_law_2611 ?_
  refine lv_aload_n hx hb dL_law_2612 rfl (lv_at hl 1 rfl) ?_
  refine lv_iload hx hb dL_law_2613 (lv_at hl 5 rfl) ?_
  refine lv_iconst (v := 3) hx hb dL_law_2615 rfl ?_
  refine lv_iadd hx hb dL_law_2616 ?_
  obtain ⟨h2617, hf⟩ := gi hf
  refine r_scr hC hI hX (ib_in h2617) dL_law_2617 ?_
  obtain ⟨r2618, V2618, q2618, hf⟩ := gbd hf
  refine k_X10_mergedLetter hC hI hl.1 q2618 tw_9_106 ⟨Nat.le_of_ble_eq_true rfl, Nat.le_of_ble_eq_true rfl⟩ ⟨by show cells + 3 ≤ 601024; omega, by show slots + 18 ≤ 7293034; omega⟩ (Nat.le_of_ble_eq_true rfl) dL_law_2618 (fun H locs hI => ?_)
  refine lv_istore (lv' := [(6, .int r2618), (5, .int r2594), (0, .ref b0), (1, .ref (ad 248)), (2, .ref (ad 253)), (3, .ref (ad 265)), (4, .int x4_23)]) hx hb dL_law_2621 hl (Nat.lt_of_lt_of_eq (by decide) rfl) rfl (fun ls hl => ?_)
  refine lv_aload_n hx hb dL_law_2623 rfl (lv_at hl 4 rfl) ?_
  obtain ⟨r2624, V2624, q2624, hf⟩ := gbd hf
  refine k_X10_thrown hC hI hl.1 q2624 tw_8_17 ⟨Nat.le_of_ble_eq_true rfl, Nat.le_of_ble_eq_true rfl⟩ ⟨by show cells + 3 ≤ 601024; omega, by show slots + 18 ≤ 7293034; omega⟩ (Nat.le_of_ble_eq_true rfl) dL_law_2624 (fun H locs hI => ?_)
  refine lv_iload hx hb dL_law_2627 (lv_at hl 1 rfl) ?_
  refine lv_icmp_eq (tgt := 2634) hx hb dL_law_2629 (by decide) (fun c2629 => ?_) (fun c2629 => ?_)
  · have hf := gt hf c2629
    refine lv_iload hx hb dL_law_2634 (lv_at hl 1 rfl) ?_
    obtain ⟨j2651, hj2651, hf⟩ := gj hf
    have J2651 : ∀ (V2651 : Mem) (H : Heap) (locs : List Loc) (ls : Array Slot), j2651 V2651 = some Vz → In E ad V2651 s H locs → lv_has ls 9 [(0, .ref b0), (1, .ref (ad 248)), (2, .ref (ad 253)), (3, .ref (ad 265)), (4, .int x4_23)] → W p l e room_1 s m #[Value.ref b0] below meth c H locs (cells + 3) (slots + 18) Q (F0 m 2651 ls []) := by
      intro V2651 H locs ls hf hI hl
      rw [hj2651] at hf
      dsimp only at hf
      refine lv_goto (tgt := 3519) hx hb dL_law_2651 (by decide) ?_
      cases hf
      refine x_wid (c2 := cells + 20) (s2 := slots + 1374) (by omega) (by omega) ?_
      exact kk _ _ _ hI (lv_sub hl [0, 1, 2, 3, 4] rfl)
    refine lv_if_ne (tgt := 2651) hx hb dL_law_2636 (by decide) (fun c2636 => ?_) (fun c2636 => ?_)
    · have hf := gf hf c2636
      exact J2651 _ _ _ _ hf hI (lv_sub hl [2, 3, 4, 5, 6] rfl)
    · have hf := gt hf c2636
      refine lv_aload_n hx hb dL_law_2639 rfl (lv_at hl 5 rfl) ?_
      refine lv_iconst (v := 0) hx hb dL_law_2640 rfl ?_
      refine r_lald hC hI dL_law_2641 ?_
      refine lv_iload hx hb dL_law_2642 (lv_at hl 0 rfl) ?_
      refine lv_i2l hx hb dL_law_2644 rfl ?_
      refine W.lcmp hx hb dL_law_2645 ?_
      refine lv_if_eq (tgt := 2651) hx hb dL_law_2646 (by decide) (fun c2646 => ?_) (fun c2646 => ?_)
      · have hf := gt hf c2646
        exact J2651 _ _ _ _ hf hI (lv_sub hl [2, 3, 4, 5, 6] rfl)
      · have hf := gf hf c2646
        refine lv_iconst (v := 0) hx hb dL_law_2649 rfl ?_
        cases hf
  · have hf := gf hf c2629
    refine lv_iconst (v := 0) hx hb dL_law_2632 rfl ?_
    cases hf

def f_law_C39 (xs : Nat → Int32) (N : Nat) (V : Mem) (x4_23 : Int32) : Option Mem :=
  if ib (x4_23 + 1) N = true then
    if ib (x4_23 + 2) N = true then
      bd (f_L_canPick V (xs (x4_23 + 1).toNatClampNeg) (xs (x4_23 + 2).toNatClampNeg)) fun r2668 V2668 =>
      if ib (x4_23 + 1) N = true then
        if ib (x4_23 + 2) N = true then
          bd (f_X10_canPick V2668 (xs (x4_23 + 1).toNatClampNeg) (xs (x4_23 + 2).toNatClampNeg)) fun r2686 V2686 =>
          bd (f_X10_thrown V2686) fun r2692 V2692 =>
          if r2692 = r2668 then
            jn (α := Mem → Option Mem) (fun j2726 =>
              if r2668 = 0 then
                jn (α := Mem → Int64 → Option Mem) (fun j2720 =>
                  if r2686 = 0 then
                    j2720 V2692 0
                  else
                    j2720 V2692 1
                ) (fun (V2720 : Mem) (s0_2720 : Int64) =>
                  if (lg_cmp ((V2692 265 0).toInt64) s0_2720) = 0 then
                    j2726 V2720
                  else
                    none
                )
              else
                j2726 V2692
            ) (fun (V2726 : Mem) =>
              some V2726
            )
          else
            none
        else none
      else none
    else none
  else none
set_option maxRecDepth 100000 in
set_option maxHeartbeats 4000000 in
theorem lc_39 {p : Program} {l : Launch} {e : Env} {s : State} {m : MethodId} {below : List Frame} {meth : Method} {c : Code} {H : Heap} {locs : List Loc} {cells slots : Nat} {Q : State → Prop} {E : En} {ad : Nat → Nat} {V Vz : Mem} {ls : Array Slot} {xs : Nat → Int32} {N b0 : Nat} {x4_23 : Int32} (hT : l.stackTraces = false) (hS : SF E) (hFr : Fr E) (hX : Sc E s b0 N xs) (hC : Cx p s m #[Value.ref b0] c meth E "LetterRepositoryLaw" cL_law 9 (some .boolean)) (hf : f_law_C39 xs N V x4_23 = some Vz) (hI : In E ad V s H locs) (hl : lv_has ls 9 [(0, .ref b0), (1, .ref (ad 248)), (2, .ref (ad 253)), (3, .ref (ad 265)), (4, .int x4_23)]) (hc1 : cells + 20 ≤ 601024) (hc2 : slots + 1374 ≤ 7293034) (kk : ∀ (H : Heap) (locs : List Loc) (ls : Array Slot), In E ad Vz s H locs → lv_has ls 9 [(0, .ref b0), (1, .ref (ad 248)), (2, .ref (ad 253)), (3, .ref (ad 265)), (4, .int x4_23)] → W p l e room_1 s m #[Value.ref b0] below meth c H locs (cells + 20) (slots + 1374) Q (F0 m 3519 ls [])) : W p l e room_1 s m #[Value.ref b0] below meth c H locs cells slots Q (F0 m 2654 ls []) := by
  have hx := hC.1
  have hb := hC.2.1
  unfold f_law_C39 at hf
  refine lv_aload_n hx hb dL_law_2654 rfl (lv_at hl 1 rfl) ?_
  refine lv_aload_n hx hb dL_law_2655 rfl (lv_at hl 0 rfl) ?_
  refine lv_iload hx hb dL_law_2656 (lv_at hl 4 rfl) ?_
  refine lv_iconst (v := 1) hx hb dL_law_2658 rfl ?_
  refine lv_iadd hx hb dL_law_2659 ?_
  obtain ⟨h2660, hf⟩ := gi hf
  refine r_scr hC hI hX (ib_in h2660) dL_law_2660 ?_
  refine lv_aload_n hx hb dL_law_2661 rfl (lv_at hl 0 rfl) ?_
  refine lv_iload hx hb dL_law_2662 (lv_at hl 4 rfl) ?_
  refine lv_iconst (v := 2) hx hb dL_law_2664 rfl ?_
  refine lv_iadd hx hb dL_law_2665 ?_
  obtain ⟨h2666, hf⟩ := gi hf
  refine r_scr hC hI hX (ib_in h2666) dL_law_2666 ?_
  refine lv_aload_n hx hb dL_law_2667 rfl (lv_at hl 3 rfl) ?_
  obtain ⟨r2668, V2668, q2668, hf⟩ := gbd hf
  refine kl_L_canPick hS hT hC hI hl.1 q2668 tw_5_121 ⟨Nat.le_of_ble_eq_true rfl, Nat.le_of_ble_eq_true rfl⟩ ⟨by show cells + 2 ≤ 601024; omega, by show slots + 12 ≤ 7293034; omega⟩ (Nat.le_of_ble_eq_true rfl) dL_law_2668 (fun H locs hI => ?_)
  refine lv_istore (lv' := [(5, .int r2668), (0, .ref b0), (1, .ref (ad 248)), (2, .ref (ad 253)), (3, .ref (ad 265)), (4, .int x4_23)]) hx hb dL_law_2671 hl (Nat.lt_of_lt_of_eq (by decide) rfl) rfl (fun ls hl => ?_)
  refine lv_aload_n hx hb dL_law_2673 rfl (lv_at hl 3 rfl) ?_
  refine lv_aload_n hx hb dL_law_2674 rfl (lv_at hl 1 rfl) ?_
  refine lv_iload hx hb dL_law_2675 (lv_at hl 5 rfl) ?_
  refine lv_iconst (v := 1) hx hb dL_law_2677 rfl ?_
  refine lv_iadd hx hb dL_law_2678 ?_
  obtain ⟨h2679, hf⟩ := gi hf
  refine r_scr hC hI hX (ib_in h2679) dL_law_2679 ?_
  refine lv_aload_n hx hb dL_law_2680 rfl (lv_at hl 1 rfl) ?_
  refine lv_iload hx hb dL_law_2681 (lv_at hl 5 rfl) ?_
  refine lv_iconst (v := 2) hx hb dL_law_2683 rfl ?_
  refine lv_iadd hx hb dL_law_2684 ?_
  obtain ⟨h2685, hf⟩ := gi hf
  refine r_scr hC hI hX (ib_in h2685) dL_law_2685 ?_
  obtain ⟨r2686, V2686, q2686, hf⟩ := gbd hf
  refine k_X10_canPick hC hI hl.1 q2686 tw_9_110 ⟨Nat.le_of_ble_eq_true rfl, Nat.le_of_ble_eq_true rfl⟩ ⟨by show cells + 2 ≤ 601024; omega, by show slots + 12 ≤ 7293034; omega⟩ (Nat.le_of_ble_eq_true rfl) dL_law_2686 (fun H locs hI => ?_)
  refine lv_istore (lv' := [(6, .int r2686), (5, .int r2668), (0, .ref b0), (1, .ref (ad 248)), (2, .ref (ad 253)), (3, .ref (ad 265)), (4, .int x4_23)]) hx hb dL_law_2689 hl (Nat.lt_of_lt_of_eq (by decide) rfl) rfl (fun ls hl => ?_)
  refine lv_aload_n hx hb dL_law_2691 rfl (lv_at hl 4 rfl) ?_
  obtain ⟨r2692, V2692, q2692, hf⟩ := gbd hf
  refine k_X10_thrown hC hI hl.1 q2692 tw_8_17 ⟨Nat.le_of_ble_eq_true rfl, Nat.le_of_ble_eq_true rfl⟩ ⟨by show cells + 2 ≤ 601024; omega, by show slots + 12 ≤ 7293034; omega⟩ (Nat.le_of_ble_eq_true rfl) dL_law_2692 (fun H locs hI => ?_)
  refine lv_iload hx hb dL_law_2695 (lv_at hl 1 rfl) ?_
  refine lv_icmp_eq (tgt := 2702) hx hb dL_law_2697 (by decide) (fun c2697 => ?_) (fun c2697 => ?_)
  · have hf := gt hf c2697
    refine lv_iload hx hb dL_law_2702 (lv_at hl 1 rfl) ?_
    obtain ⟨j2726, hj2726, hf⟩ := gj hf
    have J2726 : ∀ (V2726 : Mem) (H : Heap) (locs : List Loc) (ls : Array Slot), j2726 V2726 = some Vz → In E ad V2726 s H locs → lv_has ls 9 [(0, .ref b0), (1, .ref (ad 248)), (2, .ref (ad 253)), (3, .ref (ad 265)), (4, .int x4_23)] → W p l e room_1 s m #[Value.ref b0] below meth c H locs (cells + 2) (slots + 12) Q (F0 m 2726 ls []) := by
      intro V2726 H locs ls hf hI hl
      rw [hj2726] at hf
      dsimp only at hf
      refine lv_goto (tgt := 3519) hx hb dL_law_2726 (by decide) ?_
      cases hf
      refine x_wid (c2 := cells + 20) (s2 := slots + 1374) (by omega) (by omega) ?_
      exact kk _ _ _ hI (lv_sub hl [0, 1, 2, 3, 4] rfl)
    refine lv_if_ne (tgt := 2726) hx hb dL_law_2704 (by decide) (fun c2704 => ?_) (fun c2704 => ?_)
    · have hf := gf hf c2704
      exact J2726 _ _ _ _ hf hI (lv_sub hl [2, 3, 4, 5, 6] rfl)
    · have hf := gt hf c2704
      refine lv_aload_n hx hb dL_law_2707 rfl (lv_at hl 5 rfl) ?_
      refine lv_iconst (v := 0) hx hb dL_law_2708 rfl ?_
      refine r_lald hC hI dL_law_2709 ?_
      refine lv_iload hx hb dL_law_2710 (lv_at hl 0 rfl) ?_
      obtain ⟨j2720, hj2720, hf⟩ := gj hf
      have J2720 : ∀ (V2720 : Mem) (s0_2720 : Int64) (H : Heap) (locs : List Loc) (ls : Array Slot), j2720 V2720 s0_2720 = some Vz → In E ad V2720 s H locs → lv_has ls 9 [(0, .ref b0), (1, .ref (ad 248)), (2, .ref (ad 253)), (3, .ref (ad 265)), (4, .int x4_23)] → W p l e room_1 s m #[Value.ref b0] below meth c H locs (cells + 2) (slots + 12) Q (F0 m 2720 ls [.long s0_2720, .long ((V2692 265 0).toInt64)]) := by
        intro V2720 s0_2720 H locs ls hf hI hl
        rw [hj2720] at hf
        dsimp only at hf
        refine W.lcmp hx hb dL_law_2720 ?_
        refine lv_if_eq (tgt := 2726) hx hb dL_law_2721 (by decide) (fun c2721 => ?_) (fun c2721 => ?_)
        · have hf := gt hf c2721
          exact J2726 _ _ _ _ hf hI (lv_sub hl [0, 1, 2, 3, 4] rfl)
        · have hf := gf hf c2721
          refine lv_iconst (v := 0) hx hb dL_law_2724 rfl ?_
          cases hf
      refine lv_if_eq (tgt := 2719) hx hb dL_law_2712 (by decide) (fun c2712 => ?_) (fun c2712 => ?_)
      · have hf := gt hf c2712
        refine lv_lconst (v := 0) hx hb dL_law_2719 rfl ?_
        exact J2720 _ _ _ _ _ hf hI (lv_sub hl [2, 3, 4, 5, 6] rfl)
      · have hf := gf hf c2712
        refine lv_lconst (v := 1) hx hb dL_law_2715 rfl ?_
        refine lv_goto (tgt := 2720) hx hb dL_law_2716 (by decide) ?_
        exact J2720 _ _ _ _ _ hf hI (lv_sub hl [2, 3, 4, 5, 6] rfl)
  · have hf := gf hf c2697
    refine lv_iconst (v := 0) hx hb dL_law_2700 rfl ?_
    cases hf

def f_law_C40 (xs : Nat → Int32) (N : Nat) (V : Mem) (x4_23 : Int32) : Option Mem :=
  bd (f_X9_tagCount V) fun r2730 V2730 =>
  bd (f_X10_tagCount V2730) fun r2734 V2734 =>
  if r2730 = r2734 then
    some V2734
  else
    none
set_option maxRecDepth 100000 in
set_option maxHeartbeats 4000000 in
theorem lc_40 {p : Program} {l : Launch} {e : Env} {s : State} {m : MethodId} {below : List Frame} {meth : Method} {c : Code} {H : Heap} {locs : List Loc} {cells slots : Nat} {Q : State → Prop} {E : En} {ad : Nat → Nat} {V Vz : Mem} {ls : Array Slot} {xs : Nat → Int32} {N b0 : Nat} {x4_23 : Int32} (hT : l.stackTraces = false) (hS : SF E) (hFr : Fr E) (hX : Sc E s b0 N xs) (hC : Cx p s m #[Value.ref b0] c meth E "LetterRepositoryLaw" cL_law 9 (some .boolean)) (hf : f_law_C40 xs N V x4_23 = some Vz) (hI : In E ad V s H locs) (hl : lv_has ls 9 [(0, .ref b0), (1, .ref (ad 248)), (2, .ref (ad 253)), (3, .ref (ad 265)), (4, .int x4_23)]) (hc1 : cells + 20 ≤ 601024) (hc2 : slots + 1374 ≤ 7293034) (kk : ∀ (H : Heap) (locs : List Loc) (ls : Array Slot), In E ad Vz s H locs → lv_has ls 9 [(0, .ref b0), (1, .ref (ad 248)), (2, .ref (ad 253)), (3, .ref (ad 265)), (4, .int x4_23)] → W p l e room_1 s m #[Value.ref b0] below meth c H locs (cells + 20) (slots + 1374) Q (F0 m 3519 ls [])) : W p l e room_1 s m #[Value.ref b0] below meth c H locs cells slots Q (F0 m 2729 ls []) := by
  have hx := hC.1
  have hb := hC.2.1
  unfold f_law_C40 at hf
  refine lv_aload_n hx hb dL_law_2729 rfl (lv_at hl 1 rfl) ?_
  obtain ⟨r2730, V2730, q2730, hf⟩ := gbd hf
  refine k_X9_tagCount hC hI hl.1 q2730 tw_2_110 ⟨Nat.le_of_ble_eq_true rfl, Nat.le_of_ble_eq_true rfl⟩ ⟨by show cells ≤ 601024; omega, by show slots ≤ 7293034; omega⟩ (Nat.le_of_ble_eq_true rfl) dL_law_2730 (fun H locs hI => ?_)
  refine lv_aload_n hx hb dL_law_2733 rfl (lv_at hl 2 rfl) ?_
  obtain ⟨r2734, V2734, q2734, hf⟩ := gbd hf
  refine k_X10_tagCount hC hI hl.1 q2734 tw_9_114 ⟨Nat.le_of_ble_eq_true rfl, Nat.le_of_ble_eq_true rfl⟩ ⟨by show cells ≤ 601024; omega, by show slots ≤ 7293034; omega⟩ (Nat.le_of_ble_eq_true rfl) dL_law_2734 (fun H locs hI => ?_)
  refine lv_icmp_eq (tgt := 3519) hx hb dL_law_2737 (by decide) (fun c2737 => ?_) (fun c2737 => ?_)
  · have hf := gt hf c2737
    cases hf
    refine x_wid (c2 := cells + 20) (s2 := slots + 1374) (by omega) (by omega) ?_
    exact kk _ _ _ hI (lv_sub hl [0, 1, 2, 3, 4] rfl)
  · have hf := gf hf c2737
    refine lv_iconst (v := 0) hx hb dL_law_2740 rfl ?_
    cases hf

def f_law_C41 (xs : Nat → Int32) (N : Nat) (V : Mem) (x4_23 : Int32) : Option Mem :=
  if ib (x4_23 + 1) N = true then
    bd (f_L_taggedRevision V ((((xs (x4_23 + 1).toNatClampNeg) : Int32).toUInt32 % 65536).toInt32)) fun r2751 V2751 =>
    if ib (x4_23 + 1) N = true then
      bd (f_X10_taggedRevision V2751 ((((xs (x4_23 + 1).toNatClampNeg) : Int32).toUInt32 % 65536).toInt32)) fun r2764 V2764 =>
      bd (f_X10_thrown V2764) fun r2770 V2770 =>
      if r2770 = r2751 then
        jn (α := Mem → Option Mem) (fun j2797 =>
          if r2751 = 0 then
            if (lg_cmp ((V2770 265 0).toInt64) ((r2764).toInt64)) = 0 then
              j2797 V2770
            else
              none
          else
            j2797 V2770
        ) (fun (V2797 : Mem) =>
          some V2797
        )
      else
        none
    else none
  else none
set_option maxRecDepth 100000 in
set_option maxHeartbeats 4000000 in
theorem lc_41 {p : Program} {l : Launch} {e : Env} {s : State} {m : MethodId} {below : List Frame} {meth : Method} {c : Code} {H : Heap} {locs : List Loc} {cells slots : Nat} {Q : State → Prop} {E : En} {ad : Nat → Nat} {V Vz : Mem} {ls : Array Slot} {xs : Nat → Int32} {N b0 : Nat} {x4_23 : Int32} (hT : l.stackTraces = false) (hS : SF E) (hFr : Fr E) (hX : Sc E s b0 N xs) (hC : Cx p s m #[Value.ref b0] c meth E "LetterRepositoryLaw" cL_law 9 (some .boolean)) (hf : f_law_C41 xs N V x4_23 = some Vz) (hI : In E ad V s H locs) (hl : lv_has ls 9 [(0, .ref b0), (1, .ref (ad 248)), (2, .ref (ad 253)), (3, .ref (ad 265)), (4, .int x4_23)]) (hc1 : cells + 20 ≤ 601024) (hc2 : slots + 1374 ≤ 7293034) (kk : ∀ (H : Heap) (locs : List Loc) (ls : Array Slot), In E ad Vz s H locs → lv_has ls 9 [(0, .ref b0), (1, .ref (ad 248)), (2, .ref (ad 253)), (3, .ref (ad 265)), (4, .int x4_23)] → W p l e room_1 s m #[Value.ref b0] below meth c H locs (cells + 20) (slots + 1374) Q (F0 m 3519 ls [])) : W p l e room_1 s m #[Value.ref b0] below meth c H locs cells slots Q (F0 m 2742 ls []) := by
  have hx := hC.1
  have hb := hC.2.1
  unfold f_law_C41 at hf
  refine lv_aload_n hx hb dL_law_2742 rfl (lv_at hl 1 rfl) ?_
  refine lv_aload_n hx hb dL_law_2743 rfl (lv_at hl 0 rfl) ?_
  refine lv_iload hx hb dL_law_2744 (lv_at hl 4 rfl) ?_
  refine lv_iconst (v := 1) hx hb dL_law_2746 rfl ?_
  refine lv_iadd hx hb dL_law_2747 ?_
  obtain ⟨h2748, hf⟩ := gi hf
  refine r_scr hC hI hX (ib_in h2748) dL_law_2748 ?_
  refine lv_i2c hx hb dL_law_2749 rfl ?_
  refine lv_aload_n hx hb dL_law_2750 rfl (lv_at hl 3 rfl) ?_
  obtain ⟨r2751, V2751, q2751, hf⟩ := gbd hf
  refine kl_L_taggedRevision hS hT hC hI hl.1 q2751 tw_5_128 ⟨Nat.le_of_ble_eq_true rfl, Nat.le_of_ble_eq_true rfl⟩ ⟨by show cells + 1 ≤ 601024; omega, by show slots + 6 ≤ 7293034; omega⟩ (Nat.le_of_ble_eq_true rfl) dL_law_2751 (fun H locs hI => ?_)
  refine lv_istore (lv' := [(5, .int r2751), (0, .ref b0), (1, .ref (ad 248)), (2, .ref (ad 253)), (3, .ref (ad 265)), (4, .int x4_23)]) hx hb dL_law_2754 hl (Nat.lt_of_lt_of_eq (by decide) rfl) rfl (fun ls hl => ?_)
  refine lv_aload_n hx hb dL_law_2756 rfl (lv_at hl 3 rfl) ?_
  refine lv_aload_n hx hb dL_law_2757 rfl (lv_at hl 1 rfl) ?_
  refine lv_iload hx hb dL_law_2758 (lv_at hl 5 rfl) ?_
  refine lv_iconst (v := 1) hx hb dL_law_2760 rfl ?_
  refine lv_iadd hx hb dL_law_2761 ?_
  obtain ⟨h2762, hf⟩ := gi hf
  refine r_scr hC hI hX (ib_in h2762) dL_law_2762 ?_
  refine lv_i2c hx hb dL_law_2763 rfl ?_
  obtain ⟨r2764, V2764, q2764, hf⟩ := gbd hf
  refine k_X10_taggedRevision hC hI hl.1 q2764 tw_9_118 ⟨Nat.le_of_ble_eq_true rfl, Nat.le_of_ble_eq_true rfl⟩ ⟨by show cells + 1 ≤ 601024; omega, by show slots + 6 ≤ 7293034; omega⟩ (Nat.le_of_ble_eq_true rfl) dL_law_2764 (fun H locs hI => ?_)
  refine lv_istore (lv' := [(6, .int r2764), (5, .int r2751), (0, .ref b0), (1, .ref (ad 248)), (2, .ref (ad 253)), (3, .ref (ad 265)), (4, .int x4_23)]) hx hb dL_law_2767 hl (Nat.lt_of_lt_of_eq (by decide) rfl) rfl (fun ls hl => ?_)
  refine lv_aload_n hx hb dL_law_2769 rfl (lv_at hl 4 rfl) ?_
  obtain ⟨r2770, V2770, q2770, hf⟩ := gbd hf
  refine k_X10_thrown hC hI hl.1 q2770 tw_8_17 ⟨Nat.le_of_ble_eq_true rfl, Nat.le_of_ble_eq_true rfl⟩ ⟨by show cells + 1 ≤ 601024; omega, by show slots + 6 ≤ 7293034; omega⟩ (Nat.le_of_ble_eq_true rfl) dL_law_2770 (fun H locs hI => ?_)
  refine lv_iload hx hb dL_law_2773 (lv_at hl 1 rfl) ?_
  refine lv_icmp_eq (tgt := 2780) hx hb dL_law_2775 (by decide) (fun c2775 => ?_) (fun c2775 => ?_)
  · have hf := gt hf c2775
    refine lv_iload hx hb dL_law_2780 (lv_at hl 1 rfl) ?_
    obtain ⟨j2797, hj2797, hf⟩ := gj hf
    have J2797 : ∀ (V2797 : Mem) (H : Heap) (locs : List Loc) (ls : Array Slot), j2797 V2797 = some Vz → In E ad V2797 s H locs → lv_has ls 9 [(0, .ref b0), (1, .ref (ad 248)), (2, .ref (ad 253)), (3, .ref (ad 265)), (4, .int x4_23)] → W p l e room_1 s m #[Value.ref b0] below meth c H locs (cells + 1) (slots + 6) Q (F0 m 2797 ls []) := by
      intro V2797 H locs ls hf hI hl
      rw [hj2797] at hf
      dsimp only at hf
      refine lv_goto (tgt := 3519) hx hb dL_law_2797 (by decide) ?_
      cases hf
      refine x_wid (c2 := cells + 20) (s2 := slots + 1374) (by omega) (by omega) ?_
      exact kk _ _ _ hI (lv_sub hl [0, 1, 2, 3, 4] rfl)
    refine lv_if_ne (tgt := 2797) hx hb dL_law_2782 (by decide) (fun c2782 => ?_) (fun c2782 => ?_)
    · have hf := gf hf c2782
      exact J2797 _ _ _ _ hf hI (lv_sub hl [2, 3, 4, 5, 6] rfl)
    · have hf := gt hf c2782
      refine lv_aload_n hx hb dL_law_2785 rfl (lv_at hl 5 rfl) ?_
      refine lv_iconst (v := 0) hx hb dL_law_2786 rfl ?_
      refine r_lald hC hI dL_law_2787 ?_
      refine lv_iload hx hb dL_law_2788 (lv_at hl 0 rfl) ?_
      refine lv_i2l hx hb dL_law_2790 rfl ?_
      refine W.lcmp hx hb dL_law_2791 ?_
      refine lv_if_eq (tgt := 2797) hx hb dL_law_2792 (by decide) (fun c2792 => ?_) (fun c2792 => ?_)
      · have hf := gt hf c2792
        exact J2797 _ _ _ _ hf hI (lv_sub hl [2, 3, 4, 5, 6] rfl)
      · have hf := gf hf c2792
        refine lv_iconst (v := 0) hx hb dL_law_2795 rfl ?_
        cases hf
  · have hf := gf hf c2775
    refine lv_iconst (v := 0) hx hb dL_law_2778 rfl ?_
    cases hf

def f_law_C42 (xs : Nat → Int32) (N : Nat) (V : Mem) (x4_23 : Int32) : Option Mem :=
  if ib (x4_23 + 1) N = true then
    bd (f_L_tagOf V (xs (x4_23 + 1).toNatClampNeg)) fun r2808 V2808 =>
    if ib (x4_23 + 1) N = true then
      bd (f_X10_tagOf V2808 (xs (x4_23 + 1).toNatClampNeg)) fun r2820 V2820 =>
      bd (f_X10_thrown V2820) fun r2826 V2826 =>
      if r2826 = r2808 then
        jn (α := Mem → Option Mem) (fun j2853 =>
          if r2808 = 0 then
            if (lg_cmp ((V2826 265 0).toInt64) ((r2820).toInt64)) = 0 then
              j2853 V2826
            else
              none
          else
            j2853 V2826
        ) (fun (V2853 : Mem) =>
          some V2853
        )
      else
        none
    else none
  else none
set_option maxRecDepth 100000 in
set_option maxHeartbeats 4000000 in
theorem lc_42 {p : Program} {l : Launch} {e : Env} {s : State} {m : MethodId} {below : List Frame} {meth : Method} {c : Code} {H : Heap} {locs : List Loc} {cells slots : Nat} {Q : State → Prop} {E : En} {ad : Nat → Nat} {V Vz : Mem} {ls : Array Slot} {xs : Nat → Int32} {N b0 : Nat} {x4_23 : Int32} (hT : l.stackTraces = false) (hS : SF E) (hFr : Fr E) (hX : Sc E s b0 N xs) (hC : Cx p s m #[Value.ref b0] c meth E "LetterRepositoryLaw" cL_law 9 (some .boolean)) (hf : f_law_C42 xs N V x4_23 = some Vz) (hI : In E ad V s H locs) (hl : lv_has ls 9 [(0, .ref b0), (1, .ref (ad 248)), (2, .ref (ad 253)), (3, .ref (ad 265)), (4, .int x4_23)]) (hc1 : cells + 20 ≤ 601024) (hc2 : slots + 1374 ≤ 7293034) (kk : ∀ (H : Heap) (locs : List Loc) (ls : Array Slot), In E ad Vz s H locs → lv_has ls 9 [(0, .ref b0), (1, .ref (ad 248)), (2, .ref (ad 253)), (3, .ref (ad 265)), (4, .int x4_23)] → W p l e room_1 s m #[Value.ref b0] below meth c H locs (cells + 20) (slots + 1374) Q (F0 m 3519 ls [])) : W p l e room_1 s m #[Value.ref b0] below meth c H locs cells slots Q (F0 m 2800 ls []) := by
  have hx := hC.1
  have hb := hC.2.1
  unfold f_law_C42 at hf
  refine lv_aload_n hx hb dL_law_2800 rfl (lv_at hl 1 rfl) ?_
  refine lv_aload_n hx hb dL_law_2801 rfl (lv_at hl 0 rfl) ?_
  refine lv_iload hx hb dL_law_2802 (lv_at hl 4 rfl) ?_
  refine lv_iconst (v := 1) hx hb dL_law_2804 rfl ?_
  refine lv_iadd hx hb dL_law_2805 ?_
  obtain ⟨h2806, hf⟩ := gi hf
  refine r_scr hC hI hX (ib_in h2806) dL_law_2806 ?_
  refine lv_aload_n hx hb dL_law_2807 rfl (lv_at hl 3 rfl) ?_
  obtain ⟨r2808, V2808, q2808, hf⟩ := gbd hf
  refine kl_L_tagOf hS hT hC hI hl.1 q2808 tw_5_136 ⟨Nat.le_of_ble_eq_true rfl, Nat.le_of_ble_eq_true rfl⟩ ⟨by show cells + 2 ≤ 601024; omega, by show slots + 12 ≤ 7293034; omega⟩ (Nat.le_of_ble_eq_true rfl) dL_law_2808 (fun H locs hI => ?_)
  refine lv_istore (lv' := [(5, .int r2808), (0, .ref b0), (1, .ref (ad 248)), (2, .ref (ad 253)), (3, .ref (ad 265)), (4, .int x4_23)]) hx hb dL_law_2811 hl (Nat.lt_of_lt_of_eq (by decide) rfl) rfl (fun ls hl => ?_)
  refine lv_aload_n hx hb dL_law_2813 rfl (lv_at hl 3 rfl) ?_
  refine lv_aload_n hx hb dL_law_2814 rfl (lv_at hl 1 rfl) ?_
  refine lv_iload hx hb dL_law_2815 (lv_at hl 5 rfl) ?_
  refine lv_iconst (v := 1) hx hb dL_law_2817 rfl ?_
  refine lv_iadd hx hb dL_law_2818 ?_
  obtain ⟨h2819, hf⟩ := gi hf
  refine r_scr hC hI hX (ib_in h2819) dL_law_2819 ?_
  obtain ⟨r2820, V2820, q2820, hf⟩ := gbd hf
  refine k_X10_tagOf hC hI hl.1 q2820 tw_9_122 ⟨Nat.le_of_ble_eq_true rfl, Nat.le_of_ble_eq_true rfl⟩ ⟨by show cells + 2 ≤ 601024; omega, by show slots + 12 ≤ 7293034; omega⟩ (Nat.le_of_ble_eq_true rfl) dL_law_2820 (fun H locs hI => ?_)
  refine lv_istore (lv' := [(6, .int r2820), (5, .int r2808), (0, .ref b0), (1, .ref (ad 248)), (2, .ref (ad 253)), (3, .ref (ad 265)), (4, .int x4_23)]) hx hb dL_law_2823 hl (Nat.lt_of_lt_of_eq (by decide) rfl) rfl (fun ls hl => ?_)
  refine lv_aload_n hx hb dL_law_2825 rfl (lv_at hl 4 rfl) ?_
  obtain ⟨r2826, V2826, q2826, hf⟩ := gbd hf
  refine k_X10_thrown hC hI hl.1 q2826 tw_8_17 ⟨Nat.le_of_ble_eq_true rfl, Nat.le_of_ble_eq_true rfl⟩ ⟨by show cells + 2 ≤ 601024; omega, by show slots + 12 ≤ 7293034; omega⟩ (Nat.le_of_ble_eq_true rfl) dL_law_2826 (fun H locs hI => ?_)
  refine lv_iload hx hb dL_law_2829 (lv_at hl 1 rfl) ?_
  refine lv_icmp_eq (tgt := 2836) hx hb dL_law_2831 (by decide) (fun c2831 => ?_) (fun c2831 => ?_)
  · have hf := gt hf c2831
    refine lv_iload hx hb dL_law_2836 (lv_at hl 1 rfl) ?_
    obtain ⟨j2853, hj2853, hf⟩ := gj hf
    have J2853 : ∀ (V2853 : Mem) (H : Heap) (locs : List Loc) (ls : Array Slot), j2853 V2853 = some Vz → In E ad V2853 s H locs → lv_has ls 9 [(0, .ref b0), (1, .ref (ad 248)), (2, .ref (ad 253)), (3, .ref (ad 265)), (4, .int x4_23)] → W p l e room_1 s m #[Value.ref b0] below meth c H locs (cells + 2) (slots + 12) Q (F0 m 2853 ls []) := by
      intro V2853 H locs ls hf hI hl
      rw [hj2853] at hf
      dsimp only at hf
      refine lv_goto (tgt := 3519) hx hb dL_law_2853 (by decide) ?_
      cases hf
      refine x_wid (c2 := cells + 20) (s2 := slots + 1374) (by omega) (by omega) ?_
      exact kk _ _ _ hI (lv_sub hl [0, 1, 2, 3, 4] rfl)
    refine lv_if_ne (tgt := 2853) hx hb dL_law_2838 (by decide) (fun c2838 => ?_) (fun c2838 => ?_)
    · have hf := gf hf c2838
      exact J2853 _ _ _ _ hf hI (lv_sub hl [2, 3, 4, 5, 6] rfl)
    · have hf := gt hf c2838
      refine lv_aload_n hx hb dL_law_2841 rfl (lv_at hl 5 rfl) ?_
      refine lv_iconst (v := 0) hx hb dL_law_2842 rfl ?_
      refine r_lald hC hI dL_law_2843 ?_
      refine lv_iload hx hb dL_law_2844 (lv_at hl 0 rfl) ?_
      refine lv_i2l hx hb dL_law_2846 rfl ?_
      refine W.lcmp hx hb dL_law_2847 ?_
      refine lv_if_eq (tgt := 2853) hx hb dL_law_2848 (by decide) (fun c2848 => ?_) (fun c2848 => ?_)
      · have hf := gt hf c2848
        exact J2853 _ _ _ _ hf hI (lv_sub hl [2, 3, 4, 5, 6] rfl)
      · have hf := gf hf c2848
        refine lv_iconst (v := 0) hx hb dL_law_2851 rfl ?_
        cases hf
  · have hf := gf hf c2831
    refine lv_iconst (v := 0) hx hb dL_law_2834 rfl ?_
    cases hf

def f_law_C43 (xs : Nat → Int32) (N : Nat) (V : Mem) (x4_23 : Int32) : Option Mem :=
  bd (f_X9_usedCount V) fun r2857 V2857 =>
  bd (f_X10_usedCount V2857) fun r2861 V2861 =>
  if r2857 = r2861 then
    some V2861
  else
    none
set_option maxRecDepth 100000 in
set_option maxHeartbeats 4000000 in
theorem lc_43 {p : Program} {l : Launch} {e : Env} {s : State} {m : MethodId} {below : List Frame} {meth : Method} {c : Code} {H : Heap} {locs : List Loc} {cells slots : Nat} {Q : State → Prop} {E : En} {ad : Nat → Nat} {V Vz : Mem} {ls : Array Slot} {xs : Nat → Int32} {N b0 : Nat} {x4_23 : Int32} (hT : l.stackTraces = false) (hS : SF E) (hFr : Fr E) (hX : Sc E s b0 N xs) (hC : Cx p s m #[Value.ref b0] c meth E "LetterRepositoryLaw" cL_law 9 (some .boolean)) (hf : f_law_C43 xs N V x4_23 = some Vz) (hI : In E ad V s H locs) (hl : lv_has ls 9 [(0, .ref b0), (1, .ref (ad 248)), (2, .ref (ad 253)), (3, .ref (ad 265)), (4, .int x4_23)]) (hc1 : cells + 20 ≤ 601024) (hc2 : slots + 1374 ≤ 7293034) (kk : ∀ (H : Heap) (locs : List Loc) (ls : Array Slot), In E ad Vz s H locs → lv_has ls 9 [(0, .ref b0), (1, .ref (ad 248)), (2, .ref (ad 253)), (3, .ref (ad 265)), (4, .int x4_23)] → W p l e room_1 s m #[Value.ref b0] below meth c H locs (cells + 20) (slots + 1374) Q (F0 m 3519 ls [])) : W p l e room_1 s m #[Value.ref b0] below meth c H locs cells slots Q (F0 m 2856 ls []) := by
  have hx := hC.1
  have hb := hC.2.1
  unfold f_law_C43 at hf
  refine lv_aload_n hx hb dL_law_2856 rfl (lv_at hl 1 rfl) ?_
  obtain ⟨r2857, V2857, q2857, hf⟩ := gbd hf
  refine k_X9_usedCount hC hI hl.1 q2857 tw_2_118 ⟨Nat.le_of_ble_eq_true rfl, Nat.le_of_ble_eq_true rfl⟩ ⟨by show cells ≤ 601024; omega, by show slots ≤ 7293034; omega⟩ (Nat.le_of_ble_eq_true rfl) dL_law_2857 (fun H locs hI => ?_)
  refine lv_aload_n hx hb dL_law_2860 rfl (lv_at hl 2 rfl) ?_
  obtain ⟨r2861, V2861, q2861, hf⟩ := gbd hf
  refine k_X10_usedCount hC hI hl.1 q2861 tw_9_126 ⟨Nat.le_of_ble_eq_true rfl, Nat.le_of_ble_eq_true rfl⟩ ⟨by show cells ≤ 601024; omega, by show slots ≤ 7293034; omega⟩ (Nat.le_of_ble_eq_true rfl) dL_law_2861 (fun H locs hI => ?_)
  refine lv_icmp_eq (tgt := 3519) hx hb dL_law_2864 (by decide) (fun c2864 => ?_) (fun c2864 => ?_)
  · have hf := gt hf c2864
    cases hf
    refine x_wid (c2 := cells + 20) (s2 := slots + 1374) (by omega) (by omega) ?_
    exact kk _ _ _ hI (lv_sub hl [0, 1, 2, 3, 4] rfl)
  · have hf := gf hf c2864
    refine lv_iconst (v := 0) hx hb dL_law_2867 rfl ?_
    cases hf

def f_law_C44 (xs : Nat → Int32) (N : Nat) (V : Mem) (x4_23 : Int32) : Option Mem :=
  bd (f_X9_usedCountByMarks V) fun r2870 V2870 =>
  bd (f_X10_usedCountByMarks V2870) fun r2874 V2874 =>
  if r2870 = r2874 then
    some V2874
  else
    none
set_option maxRecDepth 100000 in
set_option maxHeartbeats 4000000 in
theorem lc_44 {p : Program} {l : Launch} {e : Env} {s : State} {m : MethodId} {below : List Frame} {meth : Method} {c : Code} {H : Heap} {locs : List Loc} {cells slots : Nat} {Q : State → Prop} {E : En} {ad : Nat → Nat} {V Vz : Mem} {ls : Array Slot} {xs : Nat → Int32} {N b0 : Nat} {x4_23 : Int32} (hT : l.stackTraces = false) (hS : SF E) (hFr : Fr E) (hX : Sc E s b0 N xs) (hC : Cx p s m #[Value.ref b0] c meth E "LetterRepositoryLaw" cL_law 9 (some .boolean)) (hf : f_law_C44 xs N V x4_23 = some Vz) (hI : In E ad V s H locs) (hl : lv_has ls 9 [(0, .ref b0), (1, .ref (ad 248)), (2, .ref (ad 253)), (3, .ref (ad 265)), (4, .int x4_23)]) (hc1 : cells + 20 ≤ 601024) (hc2 : slots + 1374 ≤ 7293034) (kk : ∀ (H : Heap) (locs : List Loc) (ls : Array Slot), In E ad Vz s H locs → lv_has ls 9 [(0, .ref b0), (1, .ref (ad 248)), (2, .ref (ad 253)), (3, .ref (ad 265)), (4, .int x4_23)] → W p l e room_1 s m #[Value.ref b0] below meth c H locs (cells + 20) (slots + 1374) Q (F0 m 3519 ls [])) : W p l e room_1 s m #[Value.ref b0] below meth c H locs cells slots Q (F0 m 2869 ls []) := by
  have hx := hC.1
  have hb := hC.2.1
  unfold f_law_C44 at hf
  refine lv_aload_n hx hb dL_law_2869 rfl (lv_at hl 1 rfl) ?_
  obtain ⟨r2870, V2870, q2870, hf⟩ := gbd hf
  refine k_X9_usedCountByMarks hC hI hl.1 q2870 tw_2_124 ⟨Nat.le_of_ble_eq_true rfl, Nat.le_of_ble_eq_true rfl⟩ ⟨by show cells ≤ 601024; omega, by show slots ≤ 7293034; omega⟩ (Nat.le_of_ble_eq_true rfl) dL_law_2870 (fun H locs hI => ?_)
  refine lv_aload_n hx hb dL_law_2873 rfl (lv_at hl 2 rfl) ?_
  obtain ⟨r2874, V2874, q2874, hf⟩ := gbd hf
  refine k_X10_usedCountByMarks hC hI hl.1 q2874 tw_9_130 ⟨Nat.le_of_ble_eq_true rfl, Nat.le_of_ble_eq_true rfl⟩ ⟨by show cells ≤ 601024; omega, by show slots ≤ 7293034; omega⟩ (Nat.le_of_ble_eq_true rfl) dL_law_2874 (fun H locs hI => ?_)
  refine lv_icmp_eq (tgt := 3519) hx hb dL_law_2877 (by decide) (fun c2877 => ?_) (fun c2877 => ?_)
  · have hf := gt hf c2877
    cases hf
    refine x_wid (c2 := cells + 20) (s2 := slots + 1374) (by omega) (by omega) ?_
    exact kk _ _ _ hI (lv_sub hl [0, 1, 2, 3, 4] rfl)
  · have hf := gf hf c2877
    refine lv_iconst (v := 0) hx hb dL_law_2880 rfl ?_
    cases hf

def f_law_C45 (xs : Nat → Int32) (N : Nat) (V : Mem) (x4_23 : Int32) : Option Mem :=
  bd (f_X9_meanGeneration V) fun r2883 V2883 =>
  bd (f_X10_meanGeneration V2883) fun r2889 V2889 =>
  jn (α := Mem → Option Mem) (fun j2920 =>
    if (Op.cmpValue (FP.dcmp r2883 r2889) .l) = 0 then
      j2920 V2889
    else
      if (Op.cmpValue (FP.dcmp r2883 r2883) .l) = 0 then
        none
      else
        if (Op.cmpValue (FP.dcmp r2889 r2889) .l) = 0 then
          none
        else
          j2920 V2889
  ) (fun (V2920 : Mem) =>
    some V2920
  )
set_option maxRecDepth 100000 in
set_option maxHeartbeats 4000000 in
theorem lc_45 {p : Program} {l : Launch} {e : Env} {s : State} {m : MethodId} {below : List Frame} {meth : Method} {c : Code} {H : Heap} {locs : List Loc} {cells slots : Nat} {Q : State → Prop} {E : En} {ad : Nat → Nat} {V Vz : Mem} {ls : Array Slot} {xs : Nat → Int32} {N b0 : Nat} {x4_23 : Int32} (hT : l.stackTraces = false) (hS : SF E) (hFr : Fr E) (hX : Sc E s b0 N xs) (hC : Cx p s m #[Value.ref b0] c meth E "LetterRepositoryLaw" cL_law 9 (some .boolean)) (hf : f_law_C45 xs N V x4_23 = some Vz) (hI : In E ad V s H locs) (hl : lv_has ls 9 [(0, .ref b0), (1, .ref (ad 248)), (2, .ref (ad 253)), (3, .ref (ad 265)), (4, .int x4_23)]) (hc1 : cells + 20 ≤ 601024) (hc2 : slots + 1374 ≤ 7293034) (kk : ∀ (H : Heap) (locs : List Loc) (ls : Array Slot), In E ad Vz s H locs → lv_has ls 9 [(0, .ref b0), (1, .ref (ad 248)), (2, .ref (ad 253)), (3, .ref (ad 265)), (4, .int x4_23)] → W p l e room_1 s m #[Value.ref b0] below meth c H locs (cells + 20) (slots + 1374) Q (F0 m 3519 ls [])) : W p l e room_1 s m #[Value.ref b0] below meth c H locs cells slots Q (F0 m 2882 ls []) := by
  have hx := hC.1
  have hb := hC.2.1
  unfold f_law_C45 at hf
  refine lv_aload_n hx hb dL_law_2882 rfl (lv_at hl 1 rfl) ?_
  obtain ⟨r2883, V2883, q2883, hf⟩ := gbd hf
  refine k_X9_meanGeneration hC hI hl.1 q2883 tw_2_140 ⟨Nat.le_of_ble_eq_true rfl, Nat.le_of_ble_eq_true rfl⟩ ⟨by show cells ≤ 601024; omega, by show slots ≤ 7293034; omega⟩ (Nat.le_of_ble_eq_true rfl) dL_law_2883 (fun H locs hI => ?_)
  refine lv_dstore (lv' := [(5, .double r2883), (0, .ref b0), (1, .ref (ad 248)), (2, .ref (ad 253)), (3, .ref (ad 265)), (4, .int x4_23)]) hx hb dL_law_2886 hl (Nat.lt_of_lt_of_eq (by decide) rfl) rfl (fun ls hl => ?_)
  refine lv_aload_n hx hb dL_law_2888 rfl (lv_at hl 3 rfl) ?_
  obtain ⟨r2889, V2889, q2889, hf⟩ := gbd hf
  refine k_X10_meanGeneration hC hI hl.1 q2889 tw_9_135 ⟨Nat.le_of_ble_eq_true rfl, Nat.le_of_ble_eq_true rfl⟩ ⟨by show cells ≤ 601024; omega, by show slots ≤ 7293034; omega⟩ (Nat.le_of_ble_eq_true rfl) dL_law_2889 (fun H locs hI => ?_)
  refine lv_dstore (lv' := [(7, .double r2889), (5, .double r2883), (0, .ref b0), (1, .ref (ad 248)), (2, .ref (ad 253)), (3, .ref (ad 265)), (4, .int x4_23)]) hx hb dL_law_2892 hl (Nat.lt_of_lt_of_eq (by decide) rfl) rfl (fun ls hl => ?_)
  refine lv_dload hx hb dL_law_2894 (lv_at hl 1 rfl) ?_
  refine lv_dload hx hb dL_law_2896 (lv_at hl 0 rfl) ?_
  refine lv_dcmp hx hb dL_law_2898 ?_
  obtain ⟨j2920, hj2920, hf⟩ := gj hf
  have J2920 : ∀ (V2920 : Mem) (H : Heap) (locs : List Loc) (ls : Array Slot), j2920 V2920 = some Vz → In E ad V2920 s H locs → lv_has ls 9 [(0, .ref b0), (1, .ref (ad 248)), (2, .ref (ad 253)), (3, .ref (ad 265)), (4, .int x4_23)] → W p l e room_1 s m #[Value.ref b0] below meth c H locs cells slots Q (F0 m 2920 ls []) := by
    intro V2920 H locs ls hf hI hl
    rw [hj2920] at hf
    dsimp only at hf
    refine lv_goto (tgt := 3519) hx hb dL_law_2920 (by decide) ?_
    cases hf
    refine x_wid (c2 := cells + 20) (s2 := slots + 1374) (by omega) (by omega) ?_
    exact kk _ _ _ hI (lv_sub hl [0, 1, 2, 3, 4] rfl)
  refine lv_if_eq (tgt := 2920) hx hb dL_law_2899 (by decide) (fun c2899 => ?_) (fun c2899 => ?_)
  · have hf := gt hf c2899
    exact J2920 _ _ _ _ hf hI (lv_sub hl [2, 3, 4, 5, 6] rfl)
  · have hf := gf hf c2899
    refine lv_dload hx hb dL_law_2902 (lv_at hl 1 rfl) ?_
    refine lv_dload hx hb dL_law_2904 (lv_at hl 1 rfl) ?_
    refine lv_dcmp hx hb dL_law_2906 ?_
    refine lv_if_eq (tgt := 2918) hx hb dL_law_2907 (by decide) (fun c2907 => ?_) (fun c2907 => ?_)
    · have hf := gt hf c2907
      refine lv_iconst (v := 0) hx hb dL_law_2918 rfl ?_
      cases hf
    · have hf := gf hf c2907
      refine lv_dload hx hb dL_law_2910 (lv_at hl 0 rfl) ?_
      refine lv_dload hx hb dL_law_2912 (lv_at hl 0 rfl) ?_
      refine lv_dcmp hx hb dL_law_2914 ?_
      refine lv_if_ne (tgt := 2920) hx hb dL_law_2915 (by decide) (fun c2915 => ?_) (fun c2915 => ?_)
      · have hf := gf hf c2915
        exact J2920 _ _ _ _ hf hI (lv_sub hl [2, 3, 4, 5, 6] rfl)
      · have hf := gt hf c2915
        refine lv_iconst (v := 0) hx hb dL_law_2918 rfl ?_
        cases hf

def f_law_C46 (xs : Nat → Int32) (N : Nat) (V : Mem) (x4_23 : Int32) : Option Mem :=
  bd (f_X9_archivedShare V) fun r2924 V2924 =>
  if nan64 (FP.f2d r2924) = true then
    bd (f_X10_archivedShare V2924) fun r2931 V2931 =>
    if nan64 (FP.f2d r2931) = true then
      jn (α := Mem → Option Mem) (fun j2963 =>
        if (Op.cmpValue (FP.dcmp (FP.f2d r2924) (FP.f2d r2931)) .l) = 0 then
          j2963 V2931
        else
          if (Op.cmpValue (FP.dcmp (FP.f2d r2924) (FP.f2d r2924)) .l) = 0 then
            none
          else
            if (Op.cmpValue (FP.dcmp (FP.f2d r2931) (FP.f2d r2931)) .l) = 0 then
              none
            else
              j2963 V2931
      ) (fun (V2963 : Mem) =>
        some V2963
      )
    else none
  else none
set_option maxRecDepth 100000 in
set_option maxHeartbeats 4000000 in
theorem lc_46 {p : Program} {l : Launch} {e : Env} {s : State} {m : MethodId} {below : List Frame} {meth : Method} {c : Code} {H : Heap} {locs : List Loc} {cells slots : Nat} {Q : State → Prop} {E : En} {ad : Nat → Nat} {V Vz : Mem} {ls : Array Slot} {xs : Nat → Int32} {N b0 : Nat} {x4_23 : Int32} (hT : l.stackTraces = false) (hS : SF E) (hFr : Fr E) (hX : Sc E s b0 N xs) (hC : Cx p s m #[Value.ref b0] c meth E "LetterRepositoryLaw" cL_law 9 (some .boolean)) (hf : f_law_C46 xs N V x4_23 = some Vz) (hI : In E ad V s H locs) (hl : lv_has ls 9 [(0, .ref b0), (1, .ref (ad 248)), (2, .ref (ad 253)), (3, .ref (ad 265)), (4, .int x4_23)]) (hc1 : cells + 20 ≤ 601024) (hc2 : slots + 1374 ≤ 7293034) (kk : ∀ (H : Heap) (locs : List Loc) (ls : Array Slot), In E ad Vz s H locs → lv_has ls 9 [(0, .ref b0), (1, .ref (ad 248)), (2, .ref (ad 253)), (3, .ref (ad 265)), (4, .int x4_23)] → W p l e room_1 s m #[Value.ref b0] below meth c H locs (cells + 20) (slots + 1374) Q (F0 m 3519 ls [])) : W p l e room_1 s m #[Value.ref b0] below meth c H locs cells slots Q (F0 m 2923 ls []) := by
  have hx := hC.1
  have hb := hC.2.1
  unfold f_law_C46 at hf
  refine lv_aload_n hx hb dL_law_2923 rfl (lv_at hl 1 rfl) ?_
  obtain ⟨r2924, V2924, q2924, hf⟩ := gbd hf
  refine k_X9_archivedShare hC hI hl.1 q2924 tw_2_152 ⟨Nat.le_of_ble_eq_true rfl, Nat.le_of_ble_eq_true rfl⟩ ⟨by show cells ≤ 601024; omega, by show slots ≤ 7293034; omega⟩ (Nat.le_of_ble_eq_true rfl) dL_law_2924 (fun H locs hI => ?_)
  obtain ⟨h2927, hf⟩ := gi hf
  refine lv_f2d hx hb dL_law_2927 (nan64_ok h2927) ?_
  refine lv_dstore (lv' := [(5, .double (FP.f2d r2924)), (0, .ref b0), (1, .ref (ad 248)), (2, .ref (ad 253)), (3, .ref (ad 265)), (4, .int x4_23)]) hx hb dL_law_2928 hl (Nat.lt_of_lt_of_eq (by decide) rfl) rfl (fun ls hl => ?_)
  refine lv_aload_n hx hb dL_law_2930 rfl (lv_at hl 3 rfl) ?_
  obtain ⟨r2931, V2931, q2931, hf⟩ := gbd hf
  refine k_X10_archivedShare hC hI hl.1 q2931 tw_9_139 ⟨Nat.le_of_ble_eq_true rfl, Nat.le_of_ble_eq_true rfl⟩ ⟨by show cells ≤ 601024; omega, by show slots ≤ 7293034; omega⟩ (Nat.le_of_ble_eq_true rfl) dL_law_2931 (fun H locs hI => ?_)
  obtain ⟨h2934, hf⟩ := gi hf
  refine lv_f2d hx hb dL_law_2934 (nan64_ok h2934) ?_
  refine lv_dstore (lv' := [(7, .double (FP.f2d r2931)), (5, .double (FP.f2d r2924)), (0, .ref b0), (1, .ref (ad 248)), (2, .ref (ad 253)), (3, .ref (ad 265)), (4, .int x4_23)]) hx hb dL_law_2935 hl (Nat.lt_of_lt_of_eq (by decide) rfl) rfl (fun ls hl => ?_)
  refine lv_dload hx hb dL_law_2937 (lv_at hl 1 rfl) ?_
  refine lv_dload hx hb dL_law_2939 (lv_at hl 0 rfl) ?_
  refine lv_dcmp hx hb dL_law_2941 ?_
  obtain ⟨j2963, hj2963, hf⟩ := gj hf
  have J2963 : ∀ (V2963 : Mem) (H : Heap) (locs : List Loc) (ls : Array Slot), j2963 V2963 = some Vz → In E ad V2963 s H locs → lv_has ls 9 [(0, .ref b0), (1, .ref (ad 248)), (2, .ref (ad 253)), (3, .ref (ad 265)), (4, .int x4_23)] → W p l e room_1 s m #[Value.ref b0] below meth c H locs cells slots Q (F0 m 2963 ls []) := by
    intro V2963 H locs ls hf hI hl
    rw [hj2963] at hf
    dsimp only at hf
    refine lv_goto (tgt := 3519) hx hb dL_law_2963 (by decide) ?_
    cases hf
    refine x_wid (c2 := cells + 20) (s2 := slots + 1374) (by omega) (by omega) ?_
    exact kk _ _ _ hI (lv_sub hl [0, 1, 2, 3, 4] rfl)
  refine lv_if_eq (tgt := 2963) hx hb dL_law_2942 (by decide) (fun c2942 => ?_) (fun c2942 => ?_)
  · have hf := gt hf c2942
    exact J2963 _ _ _ _ hf hI (lv_sub hl [2, 3, 4, 5, 6] rfl)
  · have hf := gf hf c2942
    refine lv_dload hx hb dL_law_2945 (lv_at hl 1 rfl) ?_
    refine lv_dload hx hb dL_law_2947 (lv_at hl 1 rfl) ?_
    refine lv_dcmp hx hb dL_law_2949 ?_
    refine lv_if_eq (tgt := 2961) hx hb dL_law_2950 (by decide) (fun c2950 => ?_) (fun c2950 => ?_)
    · have hf := gt hf c2950
      refine lv_iconst (v := 0) hx hb dL_law_2961 rfl ?_
      cases hf
    · have hf := gf hf c2950
      refine lv_dload hx hb dL_law_2953 (lv_at hl 0 rfl) ?_
      refine lv_dload hx hb dL_law_2955 (lv_at hl 0 rfl) ?_
      refine lv_dcmp hx hb dL_law_2957 ?_
      refine lv_if_ne (tgt := 2963) hx hb dL_law_2958 (by decide) (fun c2958 => ?_) (fun c2958 => ?_)
      · have hf := gf hf c2958
        exact J2963 _ _ _ _ hf hI (lv_sub hl [2, 3, 4, 5, 6] rfl)
      · have hf := gt hf c2958
        refine lv_iconst (v := 0) hx hb dL_law_2961 rfl ?_
        cases hf

def f_law_C47 (xs : Nat → Int32) (N : Nat) (V : Mem) (x4_23 : Int32) : Option Mem :=
  bd (f_X9_isConsistent V) fun r2967 V2967 =>
  bd (f_X10_isConsistent V2967) fun r2971 V2971 =>
  if r2967 = r2971 then
    some V2971
  else
    none
set_option maxRecDepth 100000 in
set_option maxHeartbeats 4000000 in
theorem lc_47 {p : Program} {l : Launch} {e : Env} {s : State} {m : MethodId} {below : List Frame} {meth : Method} {c : Code} {H : Heap} {locs : List Loc} {cells slots : Nat} {Q : State → Prop} {E : En} {ad : Nat → Nat} {V Vz : Mem} {ls : Array Slot} {xs : Nat → Int32} {N b0 : Nat} {x4_23 : Int32} (hT : l.stackTraces = false) (hS : SF E) (hFr : Fr E) (hX : Sc E s b0 N xs) (hC : Cx p s m #[Value.ref b0] c meth E "LetterRepositoryLaw" cL_law 9 (some .boolean)) (hf : f_law_C47 xs N V x4_23 = some Vz) (hI : In E ad V s H locs) (hl : lv_has ls 9 [(0, .ref b0), (1, .ref (ad 248)), (2, .ref (ad 253)), (3, .ref (ad 265)), (4, .int x4_23)]) (hc1 : cells + 20 ≤ 601024) (hc2 : slots + 1374 ≤ 7293034) (kk : ∀ (H : Heap) (locs : List Loc) (ls : Array Slot), In E ad Vz s H locs → lv_has ls 9 [(0, .ref b0), (1, .ref (ad 248)), (2, .ref (ad 253)), (3, .ref (ad 265)), (4, .int x4_23)] → W p l e room_1 s m #[Value.ref b0] below meth c H locs (cells + 20) (slots + 1374) Q (F0 m 3519 ls [])) : W p l e room_1 s m #[Value.ref b0] below meth c H locs cells slots Q (F0 m 2966 ls []) := by
  have hx := hC.1
  have hb := hC.2.1
  unfold f_law_C47 at hf
  refine lv_aload_n hx hb dL_law_2966 rfl (lv_at hl 1 rfl) ?_
  obtain ⟨r2967, V2967, q2967, hf⟩ := gbd hf
  refine k_X9_isConsistent hC hI hl.1 q2967 tw_2_161 ⟨Nat.le_of_ble_eq_true rfl, Nat.le_of_ble_eq_true rfl⟩ ⟨by show cells ≤ 601024; omega, by show slots ≤ 7293034; omega⟩ (Nat.le_of_ble_eq_true rfl) dL_law_2967 (fun H locs hI => ?_)
  refine lv_aload_n hx hb dL_law_2970 rfl (lv_at hl 2 rfl) ?_
  obtain ⟨r2971, V2971, q2971, hf⟩ := gbd hf
  refine k_X10_isConsistent hC hI hl.1 q2971 tw_9_143 ⟨Nat.le_of_ble_eq_true rfl, Nat.le_of_ble_eq_true rfl⟩ ⟨by show cells ≤ 601024; omega, by show slots ≤ 7293034; omega⟩ (Nat.le_of_ble_eq_true rfl) dL_law_2971 (fun H locs hI => ?_)
  refine lv_icmp_eq (tgt := 3519) hx hb dL_law_2974 (by decide) (fun c2974 => ?_) (fun c2974 => ?_)
  · have hf := gt hf c2974
    cases hf
    refine x_wid (c2 := cells + 20) (s2 := slots + 1374) (by omega) (by omega) ?_
    exact kk _ _ _ hI (lv_sub hl [0, 1, 2, 3, 4] rfl)
  · have hf := gf hf c2974
    refine lv_iconst (v := 0) hx hb dL_law_2977 rfl ?_
    cases hf

def f_law_C48 (xs : Nat → Int32) (N : Nat) (V : Mem) (x4_23 : Int32) : Option Mem :=
  if ib (x4_23 + 1) N = true then
    bd (f_L_formatRevision V (xs (x4_23 + 1).toNatClampNeg)) fun r2987 V2987 =>
    if ib (x4_23 + 1) N = true then
      bd (f_X10_formatRevision V2987 (xs (x4_23 + 1).toNatClampNeg)) fun r2999 V2999 =>
      bd (f_X10_thrown V2999) fun r3005 V3005 =>
      if r3005 = r2987 then
        jn (α := Mem → Option Mem) (fun j3032 =>
          if r2987 = 0 then
            if (lg_cmp ((V3005 265 0).toInt64) ((r2999).toInt64)) = 0 then
              j3032 V3005
            else
              none
          else
            j3032 V3005
        ) (fun (V3032 : Mem) =>
          some V3032
        )
      else
        none
    else none
  else none
set_option maxRecDepth 100000 in
set_option maxHeartbeats 4000000 in
theorem lc_48 {p : Program} {l : Launch} {e : Env} {s : State} {m : MethodId} {below : List Frame} {meth : Method} {c : Code} {H : Heap} {locs : List Loc} {cells slots : Nat} {Q : State → Prop} {E : En} {ad : Nat → Nat} {V Vz : Mem} {ls : Array Slot} {xs : Nat → Int32} {N b0 : Nat} {x4_23 : Int32} (hT : l.stackTraces = false) (hS : SF E) (hFr : Fr E) (hX : Sc E s b0 N xs) (hC : Cx p s m #[Value.ref b0] c meth E "LetterRepositoryLaw" cL_law 9 (some .boolean)) (hf : f_law_C48 xs N V x4_23 = some Vz) (hI : In E ad V s H locs) (hl : lv_has ls 9 [(0, .ref b0), (1, .ref (ad 248)), (2, .ref (ad 253)), (3, .ref (ad 265)), (4, .int x4_23)]) (hc1 : cells + 20 ≤ 601024) (hc2 : slots + 1374 ≤ 7293034) (kk : ∀ (H : Heap) (locs : List Loc) (ls : Array Slot), In E ad Vz s H locs → lv_has ls 9 [(0, .ref b0), (1, .ref (ad 248)), (2, .ref (ad 253)), (3, .ref (ad 265)), (4, .int x4_23)] → W p l e room_1 s m #[Value.ref b0] below meth c H locs (cells + 20) (slots + 1374) Q (F0 m 3519 ls [])) : W p l e room_1 s m #[Value.ref b0] below meth c H locs cells slots Q (F0 m 2979 ls []) := by
  have hx := hC.1
  have hb := hC.2.1
  unfold f_law_C48 at hf
  refine lv_aload_n hx hb dL_law_2979 rfl (lv_at hl 1 rfl) ?_
  refine lv_aload_n hx hb dL_law_2980 rfl (lv_at hl 0 rfl) ?_
  refine lv_iload hx hb dL_law_2981 (lv_at hl 4 rfl) ?_
  refine lv_iconst (v := 1) hx hb dL_law_2983 rfl ?_
  refine lv_iadd hx hb dL_law_2984 ?_
  obtain ⟨h2985, hf⟩ := gi hf
  refine r_scr hC hI hX (ib_in h2985) dL_law_2985 ?_
  refine lv_aload_n hx hb dL_law_2986 rfl (lv_at hl 3 rfl) ?_
  obtain ⟨r2987, V2987, q2987, hf⟩ := gbd hf
  refine kl_L_formatRevision hS hFr hT hC hI hl.1 q2987 tw_5_147 ⟨Nat.le_of_ble_eq_true rfl, Nat.le_of_ble_eq_true rfl⟩ ⟨by show cells + 20 ≤ 601024; omega, by show slots + 1374 ≤ 7293034; omega⟩ (Nat.le_of_ble_eq_true rfl) dL_law_2987 (fun H locs hI => ?_)
  refine lv_istore (lv' := [(5, .int r2987), (0, .ref b0), (1, .ref (ad 248)), (2, .ref (ad 253)), (3, .ref (ad 265)), (4, .int x4_23)]) hx hb dL_law_2990 hl (Nat.lt_of_lt_of_eq (by decide) rfl) rfl (fun ls hl => ?_)
  refine lv_aload_n hx hb dL_law_2992 rfl (lv_at hl 3 rfl) ?_
  refine lv_aload_n hx hb dL_law_2993 rfl (lv_at hl 1 rfl) ?_
  refine lv_iload hx hb dL_law_2994 (lv_at hl 5 rfl) ?_
  refine lv_iconst (v := 1) hx hb dL_law_2996 rfl ?_
  refine lv_iadd hx hb dL_law_2997 ?_
  obtain ⟨h2998, hf⟩ := gi hf
  refine r_scr hC hI hX (ib_in h2998) dL_law_2998 ?_
  obtain ⟨r2999, V2999, q2999, hf⟩ := gbd hf
  refine k_X10_formatRevision hC hI hl.1 q2999 tw_9_147 ⟨Nat.le_of_ble_eq_true rfl, Nat.le_of_ble_eq_true rfl⟩ ⟨by show cells + 20 ≤ 601024; omega, by show slots + 1374 ≤ 7293034; omega⟩ (Nat.le_of_ble_eq_true rfl) dL_law_2999 (fun H locs hI => ?_)
  refine lv_istore (lv' := [(6, .int r2999), (5, .int r2987), (0, .ref b0), (1, .ref (ad 248)), (2, .ref (ad 253)), (3, .ref (ad 265)), (4, .int x4_23)]) hx hb dL_law_3002 hl (Nat.lt_of_lt_of_eq (by decide) rfl) rfl (fun ls hl => ?_)
  refine lv_aload_n hx hb dL_law_3004 rfl (lv_at hl 4 rfl) ?_
  obtain ⟨r3005, V3005, q3005, hf⟩ := gbd hf
  refine k_X10_thrown hC hI hl.1 q3005 tw_8_17 ⟨Nat.le_of_ble_eq_true rfl, Nat.le_of_ble_eq_true rfl⟩ ⟨by show cells + 20 ≤ 601024; omega, by show slots + 1374 ≤ 7293034; omega⟩ (Nat.le_of_ble_eq_true rfl) dL_law_3005 (fun H locs hI => ?_)
  refine lv_iload hx hb dL_law_3008 (lv_at hl 1 rfl) ?_
  refine lv_icmp_eq (tgt := 3015) hx hb dL_law_3010 (by decide) (fun c3010 => ?_) (fun c3010 => ?_)
  · have hf := gt hf c3010
    refine lv_iload hx hb dL_law_3015 (lv_at hl 1 rfl) ?_
    obtain ⟨j3032, hj3032, hf⟩ := gj hf
    have J3032 : ∀ (V3032 : Mem) (H : Heap) (locs : List Loc) (ls : Array Slot), j3032 V3032 = some Vz → In E ad V3032 s H locs → lv_has ls 9 [(0, .ref b0), (1, .ref (ad 248)), (2, .ref (ad 253)), (3, .ref (ad 265)), (4, .int x4_23)] → W p l e room_1 s m #[Value.ref b0] below meth c H locs (cells + 20) (slots + 1374) Q (F0 m 3032 ls []) := by
      intro V3032 H locs ls hf hI hl
      rw [hj3032] at hf
      dsimp only at hf
      refine lv_goto (tgt := 3519) hx hb dL_law_3032 (by decide) ?_
      cases hf
      refine x_wid (c2 := cells + 20) (s2 := slots + 1374) (by omega) (by omega) ?_
      exact kk _ _ _ hI (lv_sub hl [0, 1, 2, 3, 4] rfl)
    refine lv_if_ne (tgt := 3032) hx hb dL_law_3017 (by decide) (fun c3017 => ?_) (fun c3017 => ?_)
    · have hf := gf hf c3017
      exact J3032 _ _ _ _ hf hI (lv_sub hl [2, 3, 4, 5, 6] rfl)
    · have hf := gt hf c3017
      refine lv_aload_n hx hb dL_law_3020 rfl (lv_at hl 5 rfl) ?_
      refine lv_iconst (v := 0) hx hb dL_law_3021 rfl ?_
      refine r_lald hC hI dL_law_3022 ?_
      refine lv_iload hx hb dL_law_3023 (lv_at hl 0 rfl) ?_
      refine lv_i2l hx hb dL_law_3025 rfl ?_
      refine W.lcmp hx hb dL_law_3026 ?_
      refine lv_if_eq (tgt := 3032) hx hb dL_law_3027 (by decide) (fun c3027 => ?_) (fun c3027 => ?_)
      · have hf := gt hf c3027
        exact J3032 _ _ _ _ hf hI (lv_sub hl [2, 3, 4, 5, 6] rfl)
      · have hf := gf hf c3027
        refine lv_iconst (v := 0) hx hb dL_law_3030 rfl ?_
        cases hf
  · have hf := gf hf c3010
    refine lv_iconst (v := 0) hx hb dL_law_3013 rfl ?_
    cases hf

def f_law_C49 (xs : Nat → Int32) (N : Nat) (V : Mem) (x4_23 : Int32) : Option Mem :=
  if ib (x4_23 + 1) N = true then
    bd (f_L_formatBranch V (xs (x4_23 + 1).toNatClampNeg)) fun r3043 V3043 =>
    if ib (x4_23 + 1) N = true then
      bd (f_X10_formatBranch V3043 (xs (x4_23 + 1).toNatClampNeg)) fun r3055 V3055 =>
      bd (f_X10_thrown V3055) fun r3061 V3061 =>
      if r3061 = r3043 then
        jn (α := Mem → Option Mem) (fun j3088 =>
          if r3043 = 0 then
            if (lg_cmp ((V3061 265 0).toInt64) ((r3055).toInt64)) = 0 then
              j3088 V3061
            else
              none
          else
            j3088 V3061
        ) (fun (V3088 : Mem) =>
          some V3088
        )
      else
        none
    else none
  else none
set_option maxRecDepth 100000 in
set_option maxHeartbeats 4000000 in
theorem lc_49 {p : Program} {l : Launch} {e : Env} {s : State} {m : MethodId} {below : List Frame} {meth : Method} {c : Code} {H : Heap} {locs : List Loc} {cells slots : Nat} {Q : State → Prop} {E : En} {ad : Nat → Nat} {V Vz : Mem} {ls : Array Slot} {xs : Nat → Int32} {N b0 : Nat} {x4_23 : Int32} (hT : l.stackTraces = false) (hS : SF E) (hFr : Fr E) (hX : Sc E s b0 N xs) (hC : Cx p s m #[Value.ref b0] c meth E "LetterRepositoryLaw" cL_law 9 (some .boolean)) (hf : f_law_C49 xs N V x4_23 = some Vz) (hI : In E ad V s H locs) (hl : lv_has ls 9 [(0, .ref b0), (1, .ref (ad 248)), (2, .ref (ad 253)), (3, .ref (ad 265)), (4, .int x4_23)]) (hc1 : cells + 20 ≤ 601024) (hc2 : slots + 1374 ≤ 7293034) (kk : ∀ (H : Heap) (locs : List Loc) (ls : Array Slot), In E ad Vz s H locs → lv_has ls 9 [(0, .ref b0), (1, .ref (ad 248)), (2, .ref (ad 253)), (3, .ref (ad 265)), (4, .int x4_23)] → W p l e room_1 s m #[Value.ref b0] below meth c H locs (cells + 20) (slots + 1374) Q (F0 m 3519 ls [])) : W p l e room_1 s m #[Value.ref b0] below meth c H locs cells slots Q (F0 m 3035 ls []) := by
  have hx := hC.1
  have hb := hC.2.1
  unfold f_law_C49 at hf
  refine lv_aload_n hx hb dL_law_3035 rfl (lv_at hl 1 rfl) ?_
  refine lv_aload_n hx hb dL_law_3036 rfl (lv_at hl 0 rfl) ?_
  refine lv_iload hx hb dL_law_3037 (lv_at hl 4 rfl) ?_
  refine lv_iconst (v := 1) hx hb dL_law_3039 rfl ?_
  refine lv_iadd hx hb dL_law_3040 ?_
  obtain ⟨h3041, hf⟩ := gi hf
  refine r_scr hC hI hX (ib_in h3041) dL_law_3041 ?_
  refine lv_aload_n hx hb dL_law_3042 rfl (lv_at hl 3 rfl) ?_
  obtain ⟨r3043, V3043, q3043, hf⟩ := gbd hf
  refine kl_L_formatBranch hS hFr hT hC hI hl.1 q3043 tw_6_216 ⟨Nat.le_of_ble_eq_true rfl, Nat.le_of_ble_eq_true rfl⟩ ⟨by show cells + 15 ≤ 601024; omega, by show slots + 1014 ≤ 7293034; omega⟩ (Nat.le_of_ble_eq_true rfl) dL_law_3043 (fun H locs hI => ?_)
  refine lv_istore (lv' := [(5, .int r3043), (0, .ref b0), (1, .ref (ad 248)), (2, .ref (ad 253)), (3, .ref (ad 265)), (4, .int x4_23)]) hx hb dL_law_3046 hl (Nat.lt_of_lt_of_eq (by decide) rfl) rfl (fun ls hl => ?_)
  refine lv_aload_n hx hb dL_law_3048 rfl (lv_at hl 3 rfl) ?_
  refine lv_aload_n hx hb dL_law_3049 rfl (lv_at hl 1 rfl) ?_
  refine lv_iload hx hb dL_law_3050 (lv_at hl 5 rfl) ?_
  refine lv_iconst (v := 1) hx hb dL_law_3052 rfl ?_
  refine lv_iadd hx hb dL_law_3053 ?_
  obtain ⟨h3054, hf⟩ := gi hf
  refine r_scr hC hI hX (ib_in h3054) dL_law_3054 ?_
  obtain ⟨r3055, V3055, q3055, hf⟩ := gbd hf
  refine k_X10_formatBranch hC hI hl.1 q3055 tw_9_159 ⟨Nat.le_of_ble_eq_true rfl, Nat.le_of_ble_eq_true rfl⟩ ⟨by show cells + 15 ≤ 601024; omega, by show slots + 1014 ≤ 7293034; omega⟩ (Nat.le_of_ble_eq_true rfl) dL_law_3055 (fun H locs hI => ?_)
  refine lv_istore (lv' := [(6, .int r3055), (5, .int r3043), (0, .ref b0), (1, .ref (ad 248)), (2, .ref (ad 253)), (3, .ref (ad 265)), (4, .int x4_23)]) hx hb dL_law_3058 hl (Nat.lt_of_lt_of_eq (by decide) rfl) rfl (fun ls hl => ?_)
  refine lv_aload_n hx hb dL_law_3060 rfl (lv_at hl 4 rfl) ?_
  obtain ⟨r3061, V3061, q3061, hf⟩ := gbd hf
  refine k_X10_thrown hC hI hl.1 q3061 tw_8_17 ⟨Nat.le_of_ble_eq_true rfl, Nat.le_of_ble_eq_true rfl⟩ ⟨by show cells + 15 ≤ 601024; omega, by show slots + 1014 ≤ 7293034; omega⟩ (Nat.le_of_ble_eq_true rfl) dL_law_3061 (fun H locs hI => ?_)
  refine lv_iload hx hb dL_law_3064 (lv_at hl 1 rfl) ?_
  refine lv_icmp_eq (tgt := 3071) hx hb dL_law_3066 (by decide) (fun c3066 => ?_) (fun c3066 => ?_)
  · have hf := gt hf c3066
    refine lv_iload hx hb dL_law_3071 (lv_at hl 1 rfl) ?_
    obtain ⟨j3088, hj3088, hf⟩ := gj hf
    have J3088 : ∀ (V3088 : Mem) (H : Heap) (locs : List Loc) (ls : Array Slot), j3088 V3088 = some Vz → In E ad V3088 s H locs → lv_has ls 9 [(0, .ref b0), (1, .ref (ad 248)), (2, .ref (ad 253)), (3, .ref (ad 265)), (4, .int x4_23)] → W p l e room_1 s m #[Value.ref b0] below meth c H locs (cells + 15) (slots + 1014) Q (F0 m 3088 ls []) := by
      intro V3088 H locs ls hf hI hl
      rw [hj3088] at hf
      dsimp only at hf
      refine lv_goto (tgt := 3519) hx hb dL_law_3088 (by decide) ?_
      cases hf
      refine x_wid (c2 := cells + 20) (s2 := slots + 1374) (by omega) (by omega) ?_
      exact kk _ _ _ hI (lv_sub hl [0, 1, 2, 3, 4] rfl)
    refine lv_if_ne (tgt := 3088) hx hb dL_law_3073 (by decide) (fun c3073 => ?_) (fun c3073 => ?_)
    · have hf := gf hf c3073
      exact J3088 _ _ _ _ hf hI (lv_sub hl [2, 3, 4, 5, 6] rfl)
    · have hf := gt hf c3073
      refine lv_aload_n hx hb dL_law_3076 rfl (lv_at hl 5 rfl) ?_
      refine lv_iconst (v := 0) hx hb dL_law_3077 rfl ?_
      refine r_lald hC hI dL_law_3078 ?_
      refine lv_iload hx hb dL_law_3079 (lv_at hl 0 rfl) ?_
      refine lv_i2l hx hb dL_law_3081 rfl ?_
      refine W.lcmp hx hb dL_law_3082 ?_
      refine lv_if_eq (tgt := 3088) hx hb dL_law_3083 (by decide) (fun c3083 => ?_) (fun c3083 => ?_)
      · have hf := gt hf c3083
        exact J3088 _ _ _ _ hf hI (lv_sub hl [2, 3, 4, 5, 6] rfl)
      · have hf := gf hf c3083
        refine lv_iconst (v := 0) hx hb dL_law_3086 rfl ?_
        cases hf
  · have hf := gf hf c3066
    refine lv_iconst (v := 0) hx hb dL_law_3069 rfl ?_
    cases hf

def f_law_C50 (xs : Nat → Int32) (N : Nat) (V : Mem) (x4_23 : Int32) : Option Mem :=
  if ib (x4_23 + 1) N = true then
    if ib (x4_23 + 2) N = true then
      bd (f_L_formatMerge V (xs (x4_23 + 1).toNatClampNeg) (xs (x4_23 + 2).toNatClampNeg)) fun r3105 V3105 =>
      if ib (x4_23 + 1) N = true then
        if ib (x4_23 + 2) N = true then
          bd (f_X10_formatMerge V3105 (xs (x4_23 + 1).toNatClampNeg) (xs (x4_23 + 2).toNatClampNeg)) fun r3123 V3123 =>
          bd (f_X10_thrown V3123) fun r3129 V3129 =>
          if r3129 = r3105 then
            jn (α := Mem → Option Mem) (fun j3156 =>
              if r3105 = 0 then
                if (lg_cmp ((V3129 265 0).toInt64) ((r3123).toInt64)) = 0 then
                  j3156 V3129
                else
                  none
              else
                j3156 V3129
            ) (fun (V3156 : Mem) =>
              some V3156
            )
          else
            none
        else none
      else none
    else none
  else none
set_option maxRecDepth 100000 in
set_option maxHeartbeats 4000000 in
theorem lc_50 {p : Program} {l : Launch} {e : Env} {s : State} {m : MethodId} {below : List Frame} {meth : Method} {c : Code} {H : Heap} {locs : List Loc} {cells slots : Nat} {Q : State → Prop} {E : En} {ad : Nat → Nat} {V Vz : Mem} {ls : Array Slot} {xs : Nat → Int32} {N b0 : Nat} {x4_23 : Int32} (hT : l.stackTraces = false) (hS : SF E) (hFr : Fr E) (hX : Sc E s b0 N xs) (hC : Cx p s m #[Value.ref b0] c meth E "LetterRepositoryLaw" cL_law 9 (some .boolean)) (hf : f_law_C50 xs N V x4_23 = some Vz) (hI : In E ad V s H locs) (hl : lv_has ls 9 [(0, .ref b0), (1, .ref (ad 248)), (2, .ref (ad 253)), (3, .ref (ad 265)), (4, .int x4_23)]) (hc1 : cells + 20 ≤ 601024) (hc2 : slots + 1374 ≤ 7293034) (kk : ∀ (H : Heap) (locs : List Loc) (ls : Array Slot), In E ad Vz s H locs → lv_has ls 9 [(0, .ref b0), (1, .ref (ad 248)), (2, .ref (ad 253)), (3, .ref (ad 265)), (4, .int x4_23)] → W p l e room_1 s m #[Value.ref b0] below meth c H locs (cells + 20) (slots + 1374) Q (F0 m 3519 ls [])) : W p l e room_1 s m #[Value.ref b0] below meth c H locs cells slots Q (F0 m 3091 ls []) := by
  have hx := hC.1
  have hb := hC.2.1
  unfold f_law_C50 at hf
  refine lv_aload_n hx hb dL_law_3091 rfl (lv_at hl 1 rfl) ?_
  refine lv_aload_n hx hb dL_law_3092 rfl (lv_at hl 0 rfl) ?_
  refine lv_iload hx hb dL_law_3093 (lv_at hl 4 rfl) ?_
  refine lv_iconst (v := 1) hx hb dL_law_3095 rfl ?_
  refine lv_iadd hx hb dL_law_3096 ?_
  obtain ⟨h3097, hf⟩ := gi hf
  refine r_scr hC hI hX (ib_in h3097) dL_law_3097 ?_
  refine lv_aload_n hx hb dL_law_3098 rfl (lv_at hl 0 rfl) ?_
  refine lv_iload hx hb dL_law_3099 (lv_at hl 4 rfl) ?_
  refine lv_iconst (v := 2) hx hb dL_law_3101 rfl ?_
  refine lv_iadd hx hb dL_law_3102 ?_
  obtain ⟨h3103, hf⟩ := gi hf
  refine r_scr hC hI hX (ib_in h3103) dL_law_3103 ?_
  refine lv_aload_n hx hb dL_law_3104 rfl (lv_at hl 3 rfl) ?_
  obtain ⟨r3105, V3105, q3105, hf⟩ := gbd hf
  refine kl_L_formatMerge hS hFr hT hC hI hl.1 q3105 tw_6_223 ⟨Nat.le_of_ble_eq_true rfl, Nat.le_of_ble_eq_true rfl⟩ ⟨by show cells + 10 ≤ 601024; omega, by show slots + 654 ≤ 7293034; omega⟩ (Nat.le_of_ble_eq_true rfl) dL_law_3105 (fun H locs hI => ?_)
  refine lv_istore (lv' := [(5, .int r3105), (0, .ref b0), (1, .ref (ad 248)), (2, .ref (ad 253)), (3, .ref (ad 265)), (4, .int x4_23)]) hx hb dL_law_3108 hl (Nat.lt_of_lt_of_eq (by decide) rfl) rfl (fun ls hl => ?_)
  refine lv_aload_n hx hb dL_law_3110 rfl (lv_at hl 3 rfl) ?_
  refine lv_aload_n hx hb dL_law_3111 rfl (lv_at hl 1 rfl) ?_
  refine lv_iload hx hb dL_law_3112 (lv_at hl 5 rfl) ?_
  refine lv_iconst (v := 1) hx hb dL_law_3114 rfl ?_
  refine lv_iadd hx hb dL_law_3115 ?_
  obtain ⟨h3116, hf⟩ := gi hf
  refine r_scr hC hI hX (ib_in h3116) dL_law_3116 ?_
  refine lv_aload_n hx hb dL_law_3117 rfl (lv_at hl 1 rfl) ?_
  refine lv_iload hx hb dL_law_3118 (lv_at hl 5 rfl) ?_
  refine lv_iconst (v := 2) hx hb dL_law_3120 rfl ?_
  refine lv_iadd hx hb dL_law_3121 ?_
  obtain ⟨h3122, hf⟩ := gi hf
  refine r_scr hC hI hX (ib_in h3122) dL_law_3122 ?_
  obtain ⟨r3123, V3123, q3123, hf⟩ := gbd hf
  refine k_X10_formatMerge hC hI hl.1 q3123 tw_9_163 ⟨Nat.le_of_ble_eq_true rfl, Nat.le_of_ble_eq_true rfl⟩ ⟨by show cells + 10 ≤ 601024; omega, by show slots + 654 ≤ 7293034; omega⟩ (Nat.le_of_ble_eq_true rfl) dL_law_3123 (fun H locs hI => ?_)
  refine lv_istore (lv' := [(6, .int r3123), (5, .int r3105), (0, .ref b0), (1, .ref (ad 248)), (2, .ref (ad 253)), (3, .ref (ad 265)), (4, .int x4_23)]) hx hb dL_law_3126 hl (Nat.lt_of_lt_of_eq (by decide) rfl) rfl (fun ls hl => ?_)
  refine lv_aload_n hx hb dL_law_3128 rfl (lv_at hl 4 rfl) ?_
  obtain ⟨r3129, V3129, q3129, hf⟩ := gbd hf
  refine k_X10_thrown hC hI hl.1 q3129 tw_8_17 ⟨Nat.le_of_ble_eq_true rfl, Nat.le_of_ble_eq_true rfl⟩ ⟨by show cells + 10 ≤ 601024; omega, by show slots + 654 ≤ 7293034; omega⟩ (Nat.le_of_ble_eq_true rfl) dL_law_3129 (fun H locs hI => ?_)
  refine lv_iload hx hb dL_law_3132 (lv_at hl 1 rfl) ?_
  refine lv_icmp_eq (tgt := 3139) hx hb dL_law_3134 (by decide) (fun c3134 => ?_) (fun c3134 => ?_)
  · have hf := gt hf c3134
    refine lv_iload hx hb dL_law_3139 (lv_at hl 1 rfl) ?_
    obtain ⟨j3156, hj3156, hf⟩ := gj hf
    have J3156 : ∀ (V3156 : Mem) (H : Heap) (locs : List Loc) (ls : Array Slot), j3156 V3156 = some Vz → In E ad V3156 s H locs → lv_has ls 9 [(0, .ref b0), (1, .ref (ad 248)), (2, .ref (ad 253)), (3, .ref (ad 265)), (4, .int x4_23)] → W p l e room_1 s m #[Value.ref b0] below meth c H locs (cells + 10) (slots + 654) Q (F0 m 3156 ls []) := by
      intro V3156 H locs ls hf hI hl
      rw [hj3156] at hf
      dsimp only at hf
      refine lv_goto (tgt := 3519) hx hb dL_law_3156 (by decide) ?_
      cases hf
      refine x_wid (c2 := cells + 20) (s2 := slots + 1374) (by omega) (by omega) ?_
      exact kk _ _ _ hI (lv_sub hl [0, 1, 2, 3, 4] rfl)
    refine lv_if_ne (tgt := 3156) hx hb dL_law_3141 (by decide) (fun c3141 => ?_) (fun c3141 => ?_)
    · have hf := gf hf c3141
      exact J3156 _ _ _ _ hf hI (lv_sub hl [2, 3, 4, 5, 6] rfl)
    · have hf := gt hf c3141
      refine lv_aload_n hx hb dL_law_3144 rfl (lv_at hl 5 rfl) ?_
      refine lv_iconst (v := 0) hx hb dL_law_3145 rfl ?_
      refine r_lald hC hI dL_law_3146 ?_
      refine lv_iload hx hb dL_law_3147 (lv_at hl 0 rfl) ?_
      refine lv_i2l hx hb dL_law_3149 rfl ?_
      refine W.lcmp hx hb dL_law_3150 ?_
      refine lv_if_eq (tgt := 3156) hx hb dL_law_3151 (by decide) (fun c3151 => ?_) (fun c3151 => ?_)
      · have hf := gt hf c3151
        exact J3156 _ _ _ _ hf hI (lv_sub hl [2, 3, 4, 5, 6] rfl)
      · have hf := gf hf c3151
        refine lv_iconst (v := 0) hx hb dL_law_3154 rfl ?_
        cases hf
  · have hf := gf hf c3134
    refine lv_iconst (v := 0) hx hb dL_law_3137 rfl ?_
    cases hf

def f_law_C51 (xs : Nat → Int32) (N : Nat) (V : Mem) (x4_23 : Int32) : Option Mem :=
  if ib (x4_23 + 1) N = true then
    bd (f_L_lineChar V (xs (x4_23 + 1).toNatClampNeg)) fun r3167 V3167 =>
    if ib (x4_23 + 1) N = true then
      bd (f_X10_lineChar V3167 (xs (x4_23 + 1).toNatClampNeg)) fun r3179 V3179 =>
      bd (f_X10_thrown V3179) fun r3185 V3185 =>
      if r3185 = r3167 then
        jn (α := Mem → Option Mem) (fun j3212 =>
          if r3167 = 0 then
            if (lg_cmp ((V3185 265 0).toInt64) ((r3179).toInt64)) = 0 then
              j3212 V3185
            else
              none
          else
            j3212 V3185
        ) (fun (V3212 : Mem) =>
          some V3212
        )
      else
        none
    else none
  else none
set_option maxRecDepth 100000 in
set_option maxHeartbeats 4000000 in
theorem lc_51 {p : Program} {l : Launch} {e : Env} {s : State} {m : MethodId} {below : List Frame} {meth : Method} {c : Code} {H : Heap} {locs : List Loc} {cells slots : Nat} {Q : State → Prop} {E : En} {ad : Nat → Nat} {V Vz : Mem} {ls : Array Slot} {xs : Nat → Int32} {N b0 : Nat} {x4_23 : Int32} (hT : l.stackTraces = false) (hS : SF E) (hFr : Fr E) (hX : Sc E s b0 N xs) (hC : Cx p s m #[Value.ref b0] c meth E "LetterRepositoryLaw" cL_law 9 (some .boolean)) (hf : f_law_C51 xs N V x4_23 = some Vz) (hI : In E ad V s H locs) (hl : lv_has ls 9 [(0, .ref b0), (1, .ref (ad 248)), (2, .ref (ad 253)), (3, .ref (ad 265)), (4, .int x4_23)]) (hc1 : cells + 20 ≤ 601024) (hc2 : slots + 1374 ≤ 7293034) (kk : ∀ (H : Heap) (locs : List Loc) (ls : Array Slot), In E ad Vz s H locs → lv_has ls 9 [(0, .ref b0), (1, .ref (ad 248)), (2, .ref (ad 253)), (3, .ref (ad 265)), (4, .int x4_23)] → W p l e room_1 s m #[Value.ref b0] below meth c H locs (cells + 20) (slots + 1374) Q (F0 m 3519 ls [])) : W p l e room_1 s m #[Value.ref b0] below meth c H locs cells slots Q (F0 m 3159 ls []) := by
  have hx := hC.1
  have hb := hC.2.1
  unfold f_law_C51 at hf
  refine lv_aload_n hx hb dL_law_3159 rfl (lv_at hl 1 rfl) ?_
  refine lv_aload_n hx hb dL_law_3160 rfl (lv_at hl 0 rfl) ?_
  refine lv_iload hx hb dL_law_3161 (lv_at hl 4 rfl) ?_
  refine lv_iconst (v := 1) hx hb dL_law_3163 rfl ?_
  refine lv_iadd hx hb dL_law_3164 ?_
  obtain ⟨h3165, hf⟩ := gi hf
  refine r_scr hC hI hX (ib_in h3165) dL_law_3165 ?_
  refine lv_aload_n hx hb dL_law_3166 rfl (lv_at hl 3 rfl) ?_
  obtain ⟨r3167, V3167, q3167, hf⟩ := gbd hf
  refine kl_L_lineChar hS hFr hT hC hI hl.1 q3167 tw_6_230 ⟨Nat.le_of_ble_eq_true rfl, Nat.le_of_ble_eq_true rfl⟩ ⟨by show cells + 1 ≤ 601024; omega, by show slots + 6 ≤ 7293034; omega⟩ (Nat.le_of_ble_eq_true rfl) dL_law_3167 (fun H locs hI => ?_)
  refine lv_istore (lv' := [(5, .int r3167), (0, .ref b0), (1, .ref (ad 248)), (2, .ref (ad 253)), (3, .ref (ad 265)), (4, .int x4_23)]) hx hb dL_law_3170 hl (Nat.lt_of_lt_of_eq (by decide) rfl) rfl (fun ls hl => ?_)
  refine lv_aload_n hx hb dL_law_3172 rfl (lv_at hl 3 rfl) ?_
  refine lv_aload_n hx hb dL_law_3173 rfl (lv_at hl 1 rfl) ?_
  refine lv_iload hx hb dL_law_3174 (lv_at hl 5 rfl) ?_
  refine lv_iconst (v := 1) hx hb dL_law_3176 rfl ?_
  refine lv_iadd hx hb dL_law_3177 ?_
  obtain ⟨h3178, hf⟩ := gi hf
  refine r_scr hC hI hX (ib_in h3178) dL_law_3178 ?_
  obtain ⟨r3179, V3179, q3179, hf⟩ := gbd hf
  refine k_X10_lineChar hC hI hl.1 q3179 tw_9_167 ⟨Nat.le_of_ble_eq_true rfl, Nat.le_of_ble_eq_true rfl⟩ ⟨by show cells + 1 ≤ 601024; omega, by show slots + 6 ≤ 7293034; omega⟩ (Nat.le_of_ble_eq_true rfl) dL_law_3179 (fun H locs hI => ?_)
  refine lv_istore (lv' := [(6, .int r3179), (5, .int r3167), (0, .ref b0), (1, .ref (ad 248)), (2, .ref (ad 253)), (3, .ref (ad 265)), (4, .int x4_23)]) hx hb dL_law_3182 hl (Nat.lt_of_lt_of_eq (by decide) rfl) rfl (fun ls hl => ?_)
  refine lv_aload_n hx hb dL_law_3184 rfl (lv_at hl 4 rfl) ?_
  obtain ⟨r3185, V3185, q3185, hf⟩ := gbd hf
  refine k_X10_thrown hC hI hl.1 q3185 tw_8_17 ⟨Nat.le_of_ble_eq_true rfl, Nat.le_of_ble_eq_true rfl⟩ ⟨by show cells + 1 ≤ 601024; omega, by show slots + 6 ≤ 7293034; omega⟩ (Nat.le_of_ble_eq_true rfl) dL_law_3185 (fun H locs hI => ?_)
  refine lv_iload hx hb dL_law_3188 (lv_at hl 1 rfl) ?_
  refine lv_icmp_eq (tgt := 3195) hx hb dL_law_3190 (by decide) (fun c3190 => ?_) (fun c3190 => ?_)
  · have hf := gt hf c3190
    refine lv_iload hx hb dL_law_3195 (lv_at hl 1 rfl) ?_
    obtain ⟨j3212, hj3212, hf⟩ := gj hf
    have J3212 : ∀ (V3212 : Mem) (H : Heap) (locs : List Loc) (ls : Array Slot), j3212 V3212 = some Vz → In E ad V3212 s H locs → lv_has ls 9 [(0, .ref b0), (1, .ref (ad 248)), (2, .ref (ad 253)), (3, .ref (ad 265)), (4, .int x4_23)] → W p l e room_1 s m #[Value.ref b0] below meth c H locs (cells + 1) (slots + 6) Q (F0 m 3212 ls []) := by
      intro V3212 H locs ls hf hI hl
      rw [hj3212] at hf
      dsimp only at hf
      refine lv_goto (tgt := 3519) hx hb dL_law_3212 (by decide) ?_
      cases hf
      refine x_wid (c2 := cells + 20) (s2 := slots + 1374) (by omega) (by omega) ?_
      exact kk _ _ _ hI (lv_sub hl [0, 1, 2, 3, 4] rfl)
    refine lv_if_ne (tgt := 3212) hx hb dL_law_3197 (by decide) (fun c3197 => ?_) (fun c3197 => ?_)
    · have hf := gf hf c3197
      exact J3212 _ _ _ _ hf hI (lv_sub hl [2, 3, 4, 5, 6] rfl)
    · have hf := gt hf c3197
      refine lv_aload_n hx hb dL_law_3200 rfl (lv_at hl 5 rfl) ?_
      refine lv_iconst (v := 0) hx hb dL_law_3201 rfl ?_
      refine r_lald hC hI dL_law_3202 ?_
      refine lv_iload hx hb dL_law_3203 (lv_at hl 0 rfl) ?_
      refine lv_i2l hx hb dL_law_3205 rfl ?_
      refine W.lcmp hx hb dL_law_3206 ?_
      refine lv_if_eq (tgt := 3212) hx hb dL_law_3207 (by decide) (fun c3207 => ?_) (fun c3207 => ?_)
      · have hf := gt hf c3207
        exact J3212 _ _ _ _ hf hI (lv_sub hl [2, 3, 4, 5, 6] rfl)
      · have hf := gf hf c3207
        refine lv_iconst (v := 0) hx hb dL_law_3210 rfl ?_
        cases hf
  · have hf := gf hf c3190
    refine lv_iconst (v := 0) hx hb dL_law_3193 rfl ?_
    cases hf

def f_law_C52 (xs : Nat → Int32) (N : Nat) (V : Mem) (x4_23 : Int32) : Option Mem :=
  if ib (x4_23 + 1) N = true then
    bd (f_L_append V ((((xs (x4_23 + 1).toNatClampNeg) : Int32).toUInt32 % 65536).toInt32)) fun r3224 V3224 =>
    if ib (x4_23 + 1) N = true then
      bd (f_X10_append V3224 ((((xs (x4_23 + 1).toNatClampNeg) : Int32).toUInt32 % 65536).toInt32)) fun r3237 V3237 =>
      bd (f_X10_thrown V3237) fun r3243 V3243 =>
      if r3243 = r3224 then
        jn (α := Mem → Option Mem) (fun j3270 =>
          if r3224 = 0 then
            if (lg_cmp ((V3243 265 0).toInt64) ((r3237).toInt64)) = 0 then
              j3270 V3243
            else
              none
          else
            j3270 V3243
        ) (fun (V3270 : Mem) =>
          some V3270
        )
      else
        none
    else none
  else none
set_option maxRecDepth 100000 in
set_option maxHeartbeats 4000000 in
theorem lc_52 {p : Program} {l : Launch} {e : Env} {s : State} {m : MethodId} {below : List Frame} {meth : Method} {c : Code} {H : Heap} {locs : List Loc} {cells slots : Nat} {Q : State → Prop} {E : En} {ad : Nat → Nat} {V Vz : Mem} {ls : Array Slot} {xs : Nat → Int32} {N b0 : Nat} {x4_23 : Int32} (hT : l.stackTraces = false) (hS : SF E) (hFr : Fr E) (hX : Sc E s b0 N xs) (hC : Cx p s m #[Value.ref b0] c meth E "LetterRepositoryLaw" cL_law 9 (some .boolean)) (hf : f_law_C52 xs N V x4_23 = some Vz) (hI : In E ad V s H locs) (hl : lv_has ls 9 [(0, .ref b0), (1, .ref (ad 248)), (2, .ref (ad 253)), (3, .ref (ad 265)), (4, .int x4_23)]) (hc1 : cells + 20 ≤ 601024) (hc2 : slots + 1374 ≤ 7293034) (kk : ∀ (H : Heap) (locs : List Loc) (ls : Array Slot), In E ad Vz s H locs → lv_has ls 9 [(0, .ref b0), (1, .ref (ad 248)), (2, .ref (ad 253)), (3, .ref (ad 265)), (4, .int x4_23)] → W p l e room_1 s m #[Value.ref b0] below meth c H locs (cells + 20) (slots + 1374) Q (F0 m 3519 ls [])) : W p l e room_1 s m #[Value.ref b0] below meth c H locs cells slots Q (F0 m 3215 ls []) := by
  have hx := hC.1
  have hb := hC.2.1
  unfold f_law_C52 at hf
  refine lv_aload_n hx hb dL_law_3215 rfl (lv_at hl 1 rfl) ?_
  refine lv_aload_n hx hb dL_law_3216 rfl (lv_at hl 0 rfl) ?_
  refine lv_iload hx hb dL_law_3217 (lv_at hl 4 rfl) ?_
  refine lv_iconst (v := 1) hx hb dL_law_3219 rfl ?_
  refine lv_iadd hx hb dL_law_3220 ?_
  obtain ⟨h3221, hf⟩ := gi hf
  refine r_scr hC hI hX (ib_in h3221) dL_law_3221 ?_
  refine lv_i2c hx hb dL_law_3222 rfl ?_
  refine lv_aload_n hx hb dL_law_3223 rfl (lv_at hl 3 rfl) ?_
  obtain ⟨r3224, V3224, q3224, hf⟩ := gbd hf
  refine kl_L_append hS hFr hT hC hI hl.1 q3224 tw_7_8 ⟨Nat.le_of_ble_eq_true rfl, Nat.le_of_ble_eq_true rfl⟩ ⟨by show cells + 1 ≤ 601024; omega, by show slots + 72 ≤ 7293034; omega⟩ (Nat.le_of_ble_eq_true rfl) dL_law_3224 (fun H locs hI => ?_)
  refine lv_istore (lv' := [(5, .int r3224), (0, .ref b0), (1, .ref (ad 248)), (2, .ref (ad 253)), (3, .ref (ad 265)), (4, .int x4_23)]) hx hb dL_law_3227 hl (Nat.lt_of_lt_of_eq (by decide) rfl) rfl (fun ls hl => ?_)
  refine lv_aload_n hx hb dL_law_3229 rfl (lv_at hl 3 rfl) ?_
  refine lv_aload_n hx hb dL_law_3230 rfl (lv_at hl 1 rfl) ?_
  refine lv_iload hx hb dL_law_3231 (lv_at hl 5 rfl) ?_
  refine lv_iconst (v := 1) hx hb dL_law_3233 rfl ?_
  refine lv_iadd hx hb dL_law_3234 ?_
  obtain ⟨h3235, hf⟩ := gi hf
  refine r_scr hC hI hX (ib_in h3235) dL_law_3235 ?_
  refine lv_i2c hx hb dL_law_3236 rfl ?_
  obtain ⟨r3237, V3237, q3237, hf⟩ := gbd hf
  refine k_X10_append hC hI hl.1 q3237 tw_9_171 ⟨Nat.le_of_ble_eq_true rfl, Nat.le_of_ble_eq_true rfl⟩ ⟨by show cells + 1 ≤ 601024; omega, by show slots + 72 ≤ 7293034; omega⟩ (Nat.le_of_ble_eq_true rfl) dL_law_3237 (fun H locs hI => ?_)
  refine lv_istore (lv' := [(6, .int r3237), (5, .int r3224), (0, .ref b0), (1, .ref (ad 248)), (2, .ref (ad 253)), (3, .ref (ad 265)), (4, .int x4_23)]) hx hb dL_law_3240 hl (Nat.lt_of_lt_of_eq (by decide) rfl) rfl (fun ls hl => ?_)
  refine lv_aload_n hx hb dL_law_3242 rfl (lv_at hl 4 rfl) ?_
  obtain ⟨r3243, V3243, q3243, hf⟩ := gbd hf
  refine k_X10_thrown hC hI hl.1 q3243 tw_8_17 ⟨Nat.le_of_ble_eq_true rfl, Nat.le_of_ble_eq_true rfl⟩ ⟨by show cells + 1 ≤ 601024; omega, by show slots + 72 ≤ 7293034; omega⟩ (Nat.le_of_ble_eq_true rfl) dL_law_3243 (fun H locs hI => ?_)
  refine lv_iload hx hb dL_law_3246 (lv_at hl 1 rfl) ?_
  refine lv_icmp_eq (tgt := 3253) hx hb dL_law_3248 (by decide) (fun c3248 => ?_) (fun c3248 => ?_)
  · have hf := gt hf c3248
    refine lv_iload hx hb dL_law_3253 (lv_at hl 1 rfl) ?_
    obtain ⟨j3270, hj3270, hf⟩ := gj hf
    have J3270 : ∀ (V3270 : Mem) (H : Heap) (locs : List Loc) (ls : Array Slot), j3270 V3270 = some Vz → In E ad V3270 s H locs → lv_has ls 9 [(0, .ref b0), (1, .ref (ad 248)), (2, .ref (ad 253)), (3, .ref (ad 265)), (4, .int x4_23)] → W p l e room_1 s m #[Value.ref b0] below meth c H locs (cells + 1) (slots + 72) Q (F0 m 3270 ls []) := by
      intro V3270 H locs ls hf hI hl
      rw [hj3270] at hf
      dsimp only at hf
      refine lv_goto (tgt := 3519) hx hb dL_law_3270 (by decide) ?_
      cases hf
      refine x_wid (c2 := cells + 20) (s2 := slots + 1374) (by omega) (by omega) ?_
      exact kk _ _ _ hI (lv_sub hl [0, 1, 2, 3, 4] rfl)
    refine lv_if_ne (tgt := 3270) hx hb dL_law_3255 (by decide) (fun c3255 => ?_) (fun c3255 => ?_)
    · have hf := gf hf c3255
      exact J3270 _ _ _ _ hf hI (lv_sub hl [2, 3, 4, 5, 6] rfl)
    · have hf := gt hf c3255
      refine lv_aload_n hx hb dL_law_3258 rfl (lv_at hl 5 rfl) ?_
      refine lv_iconst (v := 0) hx hb dL_law_3259 rfl ?_
      refine r_lald hC hI dL_law_3260 ?_
      refine lv_iload hx hb dL_law_3261 (lv_at hl 0 rfl) ?_
      refine lv_i2l hx hb dL_law_3263 rfl ?_
      refine W.lcmp hx hb dL_law_3264 ?_
      refine lv_if_eq (tgt := 3270) hx hb dL_law_3265 (by decide) (fun c3265 => ?_) (fun c3265 => ?_)
      · have hf := gt hf c3265
        exact J3270 _ _ _ _ hf hI (lv_sub hl [2, 3, 4, 5, 6] rfl)
      · have hf := gf hf c3265
        refine lv_iconst (v := 0) hx hb dL_law_3268 rfl ?_
        cases hf
  · have hf := gf hf c3248
    refine lv_iconst (v := 0) hx hb dL_law_3251 rfl ?_
    cases hf

def f_law_C53 (xs : Nat → Int32) (N : Nat) (V : Mem) (x4_23 : Int32) : Option Mem :=
  bd (f_L_run V) fun r3275 V3275 =>
  bd (f_X10_run V3275) fun r3281 V3281 =>
  bd (f_X10_thrown V3281) fun r3287 V3287 =>
  if r3287 = r3275 then
    jn (α := Mem → Option Mem) (fun j3314 =>
      if r3275 = 0 then
        if (lg_cmp ((V3287 265 0).toInt64) ((r3281).toInt64)) = 0 then
          j3314 V3287
        else
          none
      else
        j3314 V3287
    ) (fun (V3314 : Mem) =>
      some V3314
    )
  else
    none
set_option maxRecDepth 100000 in
set_option maxHeartbeats 4000000 in
theorem lc_53 {p : Program} {l : Launch} {e : Env} {s : State} {m : MethodId} {below : List Frame} {meth : Method} {c : Code} {H : Heap} {locs : List Loc} {cells slots : Nat} {Q : State → Prop} {E : En} {ad : Nat → Nat} {V Vz : Mem} {ls : Array Slot} {xs : Nat → Int32} {N b0 : Nat} {x4_23 : Int32} (hT : l.stackTraces = false) (hS : SF E) (hFr : Fr E) (hX : Sc E s b0 N xs) (hC : Cx p s m #[Value.ref b0] c meth E "LetterRepositoryLaw" cL_law 9 (some .boolean)) (hf : f_law_C53 xs N V x4_23 = some Vz) (hI : In E ad V s H locs) (hl : lv_has ls 9 [(0, .ref b0), (1, .ref (ad 248)), (2, .ref (ad 253)), (3, .ref (ad 265)), (4, .int x4_23)]) (hc1 : cells + 20 ≤ 601024) (hc2 : slots + 1374 ≤ 7293034) (kk : ∀ (H : Heap) (locs : List Loc) (ls : Array Slot), In E ad Vz s H locs → lv_has ls 9 [(0, .ref b0), (1, .ref (ad 248)), (2, .ref (ad 253)), (3, .ref (ad 265)), (4, .int x4_23)] → W p l e room_1 s m #[Value.ref b0] below meth c H locs (cells + 20) (slots + 1374) Q (F0 m 3519 ls [])) : W p l e room_1 s m #[Value.ref b0] below meth c H locs cells slots Q (F0 m 3273 ls []) := by
  have hx := hC.1
  have hb := hC.2.1
  unfold f_law_C53 at hf
  refine lv_aload_n hx hb dL_law_3273 rfl (lv_at hl 1 rfl) ?_
  refine lv_aload_n hx hb dL_law_3274 rfl (lv_at hl 3 rfl) ?_
  obtain ⟨r3275, V3275, q3275, hf⟩ := gbd hf
  refine kl_L_run hS hFr hT hC hI hl.1 q3275 tw_7_17 ⟨Nat.le_of_ble_eq_true rfl, Nat.le_of_ble_eq_true rfl⟩ ⟨by show cells + 2 ≤ 601024; omega, by show slots + 78 ≤ 7293034; omega⟩ (Nat.le_of_ble_eq_true rfl) dL_law_3275 (fun H locs hI => ?_)
  refine lv_istore (lv' := [(5, .int r3275), (0, .ref b0), (1, .ref (ad 248)), (2, .ref (ad 253)), (3, .ref (ad 265)), (4, .int x4_23)]) hx hb dL_law_3278 hl (Nat.lt_of_lt_of_eq (by decide) rfl) rfl (fun ls hl => ?_)
  refine lv_aload_n hx hb dL_law_3280 rfl (lv_at hl 3 rfl) ?_
  obtain ⟨r3281, V3281, q3281, hf⟩ := gbd hf
  refine k_X10_run hC hI hl.1 q3281 tw_9_177 ⟨Nat.le_of_ble_eq_true rfl, Nat.le_of_ble_eq_true rfl⟩ ⟨by show cells + 2 ≤ 601024; omega, by show slots + 78 ≤ 7293034; omega⟩ (Nat.le_of_ble_eq_true rfl) dL_law_3281 (fun H locs hI => ?_)
  refine lv_istore (lv' := [(6, .int r3281), (5, .int r3275), (0, .ref b0), (1, .ref (ad 248)), (2, .ref (ad 253)), (3, .ref (ad 265)), (4, .int x4_23)]) hx hb dL_law_3284 hl (Nat.lt_of_lt_of_eq (by decide) rfl) rfl (fun ls hl => ?_)
  refine lv_aload_n hx hb dL_law_3286 rfl (lv_at hl 4 rfl) ?_
  obtain ⟨r3287, V3287, q3287, hf⟩ := gbd hf
  refine k_X10_thrown hC hI hl.1 q3287 tw_8_17 ⟨Nat.le_of_ble_eq_true rfl, Nat.le_of_ble_eq_true rfl⟩ ⟨by show cells + 2 ≤ 601024; omega, by show slots + 78 ≤ 7293034; omega⟩ (Nat.le_of_ble_eq_true rfl) dL_law_3287 (fun H locs hI => ?_)
  refine lv_iload hx hb dL_law_3290 (lv_at hl 1 rfl) ?_
  refine lv_icmp_eq (tgt := 3297) hx hb dL_law_3292 (by decide) (fun c3292 => ?_) (fun c3292 => ?_)
  · have hf := gt hf c3292
    refine lv_iload hx hb dL_law_3297 (lv_at hl 1 rfl) ?_
    obtain ⟨j3314, hj3314, hf⟩ := gj hf
    have J3314 : ∀ (V3314 : Mem) (H : Heap) (locs : List Loc) (ls : Array Slot), j3314 V3314 = some Vz → In E ad V3314 s H locs → lv_has ls 9 [(0, .ref b0), (1, .ref (ad 248)), (2, .ref (ad 253)), (3, .ref (ad 265)), (4, .int x4_23)] → W p l e room_1 s m #[Value.ref b0] below meth c H locs (cells + 2) (slots + 78) Q (F0 m 3314 ls []) := by
      intro V3314 H locs ls hf hI hl
      rw [hj3314] at hf
      dsimp only at hf
      refine lv_goto (tgt := 3519) hx hb dL_law_3314 (by decide) ?_
      cases hf
      refine x_wid (c2 := cells + 20) (s2 := slots + 1374) (by omega) (by omega) ?_
      exact kk _ _ _ hI (lv_sub hl [0, 1, 2, 3, 4] rfl)
    refine lv_if_ne (tgt := 3314) hx hb dL_law_3299 (by decide) (fun c3299 => ?_) (fun c3299 => ?_)
    · have hf := gf hf c3299
      exact J3314 _ _ _ _ hf hI (lv_sub hl [2, 3, 4, 5, 6] rfl)
    · have hf := gt hf c3299
      refine lv_aload_n hx hb dL_law_3302 rfl (lv_at hl 5 rfl) ?_
      refine lv_iconst (v := 0) hx hb dL_law_3303 rfl ?_
      refine r_lald hC hI dL_law_3304 ?_
      refine lv_iload hx hb dL_law_3305 (lv_at hl 0 rfl) ?_
      refine lv_i2l hx hb dL_law_3307 rfl ?_
      refine W.lcmp hx hb dL_law_3308 ?_
      refine lv_if_eq (tgt := 3314) hx hb dL_law_3309 (by decide) (fun c3309 => ?_) (fun c3309 => ?_)
      · have hf := gt hf c3309
        exact J3314 _ _ _ _ hf hI (lv_sub hl [2, 3, 4, 5, 6] rfl)
      · have hf := gf hf c3309
        refine lv_iconst (v := 0) hx hb dL_law_3312 rfl ?_
        cases hf
  · have hf := gf hf c3292
    refine lv_iconst (v := 0) hx hb dL_law_3295 rfl ?_
    cases hf

def f_law_C54 (xs : Nat → Int32) (N : Nat) (V : Mem) (x4_23 : Int32) : Option Mem :=
  bd (f_L_errorPosition V) fun r3319 V3319 =>
  bd (f_X10_errorPosition V3319) fun r3325 V3325 =>
  bd (f_X10_thrown V3325) fun r3331 V3331 =>
  if r3331 = r3319 then
    jn (α := Mem → Option Mem) (fun j3358 =>
      if r3319 = 0 then
        if (lg_cmp ((V3331 265 0).toInt64) ((r3325).toInt64)) = 0 then
          j3358 V3331
        else
          none
      else
        j3358 V3331
    ) (fun (V3358 : Mem) =>
      some V3358
    )
  else
    none
set_option maxRecDepth 100000 in
set_option maxHeartbeats 4000000 in
theorem lc_54 {p : Program} {l : Launch} {e : Env} {s : State} {m : MethodId} {below : List Frame} {meth : Method} {c : Code} {H : Heap} {locs : List Loc} {cells slots : Nat} {Q : State → Prop} {E : En} {ad : Nat → Nat} {V Vz : Mem} {ls : Array Slot} {xs : Nat → Int32} {N b0 : Nat} {x4_23 : Int32} (hT : l.stackTraces = false) (hS : SF E) (hFr : Fr E) (hX : Sc E s b0 N xs) (hC : Cx p s m #[Value.ref b0] c meth E "LetterRepositoryLaw" cL_law 9 (some .boolean)) (hf : f_law_C54 xs N V x4_23 = some Vz) (hI : In E ad V s H locs) (hl : lv_has ls 9 [(0, .ref b0), (1, .ref (ad 248)), (2, .ref (ad 253)), (3, .ref (ad 265)), (4, .int x4_23)]) (hc1 : cells + 20 ≤ 601024) (hc2 : slots + 1374 ≤ 7293034) (kk : ∀ (H : Heap) (locs : List Loc) (ls : Array Slot), In E ad Vz s H locs → lv_has ls 9 [(0, .ref b0), (1, .ref (ad 248)), (2, .ref (ad 253)), (3, .ref (ad 265)), (4, .int x4_23)] → W p l e room_1 s m #[Value.ref b0] below meth c H locs (cells + 20) (slots + 1374) Q (F0 m 3519 ls [])) : W p l e room_1 s m #[Value.ref b0] below meth c H locs cells slots Q (F0 m 3317 ls []) := by
  have hx := hC.1
  have hb := hC.2.1
  unfold f_law_C54 at hf
  refine lv_aload_n hx hb dL_law_3317 rfl (lv_at hl 1 rfl) ?_
  refine lv_aload_n hx hb dL_law_3318 rfl (lv_at hl 3 rfl) ?_
  obtain ⟨r3319, V3319, q3319, hf⟩ := gbd hf
  refine kl_L_errorPosition hS hT hC hI hl.1 q3319 tw_7_143 ⟨Nat.le_of_ble_eq_true rfl, Nat.le_of_ble_eq_true rfl⟩ ⟨by show cells + 1 ≤ 601024; omega, by show slots + 6 ≤ 7293034; omega⟩ (Nat.le_of_ble_eq_true rfl) dL_law_3319 (fun H locs hI => ?_)
  refine lv_istore (lv' := [(5, .int r3319), (0, .ref b0), (1, .ref (ad 248)), (2, .ref (ad 253)), (3, .ref (ad 265)), (4, .int x4_23)]) hx hb dL_law_3322 hl (Nat.lt_of_lt_of_eq (by decide) rfl) rfl (fun ls hl => ?_)
  refine lv_aload_n hx hb dL_law_3324 rfl (lv_at hl 3 rfl) ?_
  obtain ⟨r3325, V3325, q3325, hf⟩ := gbd hf
  refine k_X10_errorPosition hC hI hl.1 q3325 tw_9_223 ⟨Nat.le_of_ble_eq_true rfl, Nat.le_of_ble_eq_true rfl⟩ ⟨by show cells + 1 ≤ 601024; omega, by show slots + 6 ≤ 7293034; omega⟩ (Nat.le_of_ble_eq_true rfl) dL_law_3325 (fun H locs hI => ?_)
  refine lv_istore (lv' := [(6, .int r3325), (5, .int r3319), (0, .ref b0), (1, .ref (ad 248)), (2, .ref (ad 253)), (3, .ref (ad 265)), (4, .int x4_23)]) hx hb dL_law_3328 hl (Nat.lt_of_lt_of_eq (by decide) rfl) rfl (fun ls hl => ?_)
  refine lv_aload_n hx hb dL_law_3330 rfl (lv_at hl 4 rfl) ?_
  obtain ⟨r3331, V3331, q3331, hf⟩ := gbd hf
  refine k_X10_thrown hC hI hl.1 q3331 tw_8_17 ⟨Nat.le_of_ble_eq_true rfl, Nat.le_of_ble_eq_true rfl⟩ ⟨by show cells + 1 ≤ 601024; omega, by show slots + 6 ≤ 7293034; omega⟩ (Nat.le_of_ble_eq_true rfl) dL_law_3331 (fun H locs hI => ?_)
  refine lv_iload hx hb dL_law_3334 (lv_at hl 1 rfl) ?_
  refine lv_icmp_eq (tgt := 3341) hx hb dL_law_3336 (by decide) (fun c3336 => ?_) (fun c3336 => ?_)
  · have hf := gt hf c3336
    refine lv_iload hx hb dL_law_3341 (lv_at hl 1 rfl) ?_
    obtain ⟨j3358, hj3358, hf⟩ := gj hf
    have J3358 : ∀ (V3358 : Mem) (H : Heap) (locs : List Loc) (ls : Array Slot), j3358 V3358 = some Vz → In E ad V3358 s H locs → lv_has ls 9 [(0, .ref b0), (1, .ref (ad 248)), (2, .ref (ad 253)), (3, .ref (ad 265)), (4, .int x4_23)] → W p l e room_1 s m #[Value.ref b0] below meth c H locs (cells + 1) (slots + 6) Q (F0 m 3358 ls []) := by
      intro V3358 H locs ls hf hI hl
      rw [hj3358] at hf
      dsimp only at hf
      refine lv_goto (tgt := 3519) hx hb dL_law_3358 (by decide) ?_
      cases hf
      refine x_wid (c2 := cells + 20) (s2 := slots + 1374) (by omega) (by omega) ?_
      exact kk _ _ _ hI (lv_sub hl [0, 1, 2, 3, 4] rfl)
    refine lv_if_ne (tgt := 3358) hx hb dL_law_3343 (by decide) (fun c3343 => ?_) (fun c3343 => ?_)
    · have hf := gf hf c3343
      exact J3358 _ _ _ _ hf hI (lv_sub hl [2, 3, 4, 5, 6] rfl)
    · have hf := gt hf c3343
      refine lv_aload_n hx hb dL_law_3346 rfl (lv_at hl 5 rfl) ?_
      refine lv_iconst (v := 0) hx hb dL_law_3347 rfl ?_
      refine r_lald hC hI dL_law_3348 ?_
      refine lv_iload hx hb dL_law_3349 (lv_at hl 0 rfl) ?_
      refine lv_i2l hx hb dL_law_3351 rfl ?_
      refine W.lcmp hx hb dL_law_3352 ?_
      refine lv_if_eq (tgt := 3358) hx hb dL_law_3353 (by decide) (fun c3353 => ?_) (fun c3353 => ?_)
      · have hf := gt hf c3353
        exact J3358 _ _ _ _ hf hI (lv_sub hl [2, 3, 4, 5, 6] rfl)
      · have hf := gf hf c3353
        refine lv_iconst (v := 0) hx hb dL_law_3356 rfl ?_
        cases hf
  · have hf := gf hf c3336
    refine lv_iconst (v := 0) hx hb dL_law_3339 rfl ?_
    cases hf

def f_law_C55 (xs : Nat → Int32) (N : Nat) (V : Mem) (x4_23 : Int32) : Option Mem :=
  bd (f_L_failedCommand V) fun r3363 V3363 =>
  bd (f_X10_failedCommand V3363) fun r3369 V3369 =>
  bd (f_X10_thrown V3369) fun r3375 V3375 =>
  if r3375 = r3363 then
    jn (α := Mem → Option Mem) (fun j3402 =>
      if r3363 = 0 then
        if (lg_cmp ((V3375 265 0).toInt64) ((r3369).toInt64)) = 0 then
          j3402 V3375
        else
          none
      else
        j3402 V3375
    ) (fun (V3402 : Mem) =>
      some V3402
    )
  else
    none
set_option maxRecDepth 100000 in
set_option maxHeartbeats 4000000 in
theorem lc_55 {p : Program} {l : Launch} {e : Env} {s : State} {m : MethodId} {below : List Frame} {meth : Method} {c : Code} {H : Heap} {locs : List Loc} {cells slots : Nat} {Q : State → Prop} {E : En} {ad : Nat → Nat} {V Vz : Mem} {ls : Array Slot} {xs : Nat → Int32} {N b0 : Nat} {x4_23 : Int32} (hT : l.stackTraces = false) (hS : SF E) (hFr : Fr E) (hX : Sc E s b0 N xs) (hC : Cx p s m #[Value.ref b0] c meth E "LetterRepositoryLaw" cL_law 9 (some .boolean)) (hf : f_law_C55 xs N V x4_23 = some Vz) (hI : In E ad V s H locs) (hl : lv_has ls 9 [(0, .ref b0), (1, .ref (ad 248)), (2, .ref (ad 253)), (3, .ref (ad 265)), (4, .int x4_23)]) (hc1 : cells + 20 ≤ 601024) (hc2 : slots + 1374 ≤ 7293034) (kk : ∀ (H : Heap) (locs : List Loc) (ls : Array Slot), In E ad Vz s H locs → lv_has ls 9 [(0, .ref b0), (1, .ref (ad 248)), (2, .ref (ad 253)), (3, .ref (ad 265)), (4, .int x4_23)] → W p l e room_1 s m #[Value.ref b0] below meth c H locs (cells + 20) (slots + 1374) Q (F0 m 3519 ls [])) : W p l e room_1 s m #[Value.ref b0] below meth c H locs cells slots Q (F0 m 3361 ls []) := by
  have hx := hC.1
  have hb := hC.2.1
  unfold f_law_C55 at hf
  refine lv_aload_n hx hb dL_law_3361 rfl (lv_at hl 1 rfl) ?_
  refine lv_aload_n hx hb dL_law_3362 rfl (lv_at hl 3 rfl) ?_
  obtain ⟨r3363, V3363, q3363, hf⟩ := gbd hf
  refine kl_L_failedCommand hS hT hC hI hl.1 q3363 tw_7_150 ⟨Nat.le_of_ble_eq_true rfl, Nat.le_of_ble_eq_true rfl⟩ ⟨by show cells + 1 ≤ 601024; omega, by show slots + 6 ≤ 7293034; omega⟩ (Nat.le_of_ble_eq_true rfl) dL_law_3363 (fun H locs hI => ?_)
  refine lv_istore (lv' := [(5, .int r3363), (0, .ref b0), (1, .ref (ad 248)), (2, .ref (ad 253)), (3, .ref (ad 265)), (4, .int x4_23)]) hx hb dL_law_3366 hl (Nat.lt_of_lt_of_eq (by decide) rfl) rfl (fun ls hl => ?_)
  refine lv_aload_n hx hb dL_law_3368 rfl (lv_at hl 3 rfl) ?_
  obtain ⟨r3369, V3369, q3369, hf⟩ := gbd hf
  refine k_X10_failedCommand hC hI hl.1 q3369 tw_9_227 ⟨Nat.le_of_ble_eq_true rfl, Nat.le_of_ble_eq_true rfl⟩ ⟨by show cells + 1 ≤ 601024; omega, by show slots + 6 ≤ 7293034; omega⟩ (Nat.le_of_ble_eq_true rfl) dL_law_3369 (fun H locs hI => ?_)
  refine lv_istore (lv' := [(6, .int r3369), (5, .int r3363), (0, .ref b0), (1, .ref (ad 248)), (2, .ref (ad 253)), (3, .ref (ad 265)), (4, .int x4_23)]) hx hb dL_law_3372 hl (Nat.lt_of_lt_of_eq (by decide) rfl) rfl (fun ls hl => ?_)
  refine lv_aload_n hx hb dL_law_3374 rfl (lv_at hl 4 rfl) ?_
  obtain ⟨r3375, V3375, q3375, hf⟩ := gbd hf
  refine k_X10_thrown hC hI hl.1 q3375 tw_8_17 ⟨Nat.le_of_ble_eq_true rfl, Nat.le_of_ble_eq_true rfl⟩ ⟨by show cells + 1 ≤ 601024; omega, by show slots + 6 ≤ 7293034; omega⟩ (Nat.le_of_ble_eq_true rfl) dL_law_3375 (fun H locs hI => ?_)
  refine lv_iload hx hb dL_law_3378 (lv_at hl 1 rfl) ?_
  refine lv_icmp_eq (tgt := 3385) hx hb dL_law_3380 (by decide) (fun c3380 => ?_) (fun c3380 => ?_)
  · have hf := gt hf c3380
    refine lv_iload hx hb dL_law_3385 (lv_at hl 1 rfl) ?_
    obtain ⟨j3402, hj3402, hf⟩ := gj hf
    have J3402 : ∀ (V3402 : Mem) (H : Heap) (locs : List Loc) (ls : Array Slot), j3402 V3402 = some Vz → In E ad V3402 s H locs → lv_has ls 9 [(0, .ref b0), (1, .ref (ad 248)), (2, .ref (ad 253)), (3, .ref (ad 265)), (4, .int x4_23)] → W p l e room_1 s m #[Value.ref b0] below meth c H locs (cells + 1) (slots + 6) Q (F0 m 3402 ls []) := by
      intro V3402 H locs ls hf hI hl
      rw [hj3402] at hf
      dsimp only at hf
      refine lv_goto (tgt := 3519) hx hb dL_law_3402 (by decide) ?_
      cases hf
      refine x_wid (c2 := cells + 20) (s2 := slots + 1374) (by omega) (by omega) ?_
      exact kk _ _ _ hI (lv_sub hl [0, 1, 2, 3, 4] rfl)
    refine lv_if_ne (tgt := 3402) hx hb dL_law_3387 (by decide) (fun c3387 => ?_) (fun c3387 => ?_)
    · have hf := gf hf c3387
      exact J3402 _ _ _ _ hf hI (lv_sub hl [2, 3, 4, 5, 6] rfl)
    · have hf := gt hf c3387
      refine lv_aload_n hx hb dL_law_3390 rfl (lv_at hl 5 rfl) ?_
      refine lv_iconst (v := 0) hx hb dL_law_3391 rfl ?_
      refine r_lald hC hI dL_law_3392 ?_
      refine lv_iload hx hb dL_law_3393 (lv_at hl 0 rfl) ?_
      refine lv_i2l hx hb dL_law_3395 rfl ?_
      refine W.lcmp hx hb dL_law_3396 ?_
      refine lv_if_eq (tgt := 3402) hx hb dL_law_3397 (by decide) (fun c3397 => ?_) (fun c3397 => ?_)
      · have hf := gt hf c3397
        exact J3402 _ _ _ _ hf hI (lv_sub hl [2, 3, 4, 5, 6] rfl)
      · have hf := gf hf c3397
        refine lv_iconst (v := 0) hx hb dL_law_3400 rfl ?_
        cases hf
  · have hf := gf hf c3380
    refine lv_iconst (v := 0) hx hb dL_law_3383 rfl ?_
    cases hf

def f_law_C56 (xs : Nat → Int32) (N : Nat) (V : Mem) (x4_23 : Int32) : Option Mem :=
  bd (f_X9_undoableCount V) fun r3406 V3406 =>
  bd (f_X10_undoableCount V3406) fun r3410 V3410 =>
  if r3406 = r3410 then
    some V3410
  else
    none
set_option maxRecDepth 100000 in
set_option maxHeartbeats 4000000 in
theorem lc_56 {p : Program} {l : Launch} {e : Env} {s : State} {m : MethodId} {below : List Frame} {meth : Method} {c : Code} {H : Heap} {locs : List Loc} {cells slots : Nat} {Q : State → Prop} {E : En} {ad : Nat → Nat} {V Vz : Mem} {ls : Array Slot} {xs : Nat → Int32} {N b0 : Nat} {x4_23 : Int32} (hT : l.stackTraces = false) (hS : SF E) (hFr : Fr E) (hX : Sc E s b0 N xs) (hC : Cx p s m #[Value.ref b0] c meth E "LetterRepositoryLaw" cL_law 9 (some .boolean)) (hf : f_law_C56 xs N V x4_23 = some Vz) (hI : In E ad V s H locs) (hl : lv_has ls 9 [(0, .ref b0), (1, .ref (ad 248)), (2, .ref (ad 253)), (3, .ref (ad 265)), (4, .int x4_23)]) (hc1 : cells + 20 ≤ 601024) (hc2 : slots + 1374 ≤ 7293034) (kk : ∀ (H : Heap) (locs : List Loc) (ls : Array Slot), In E ad Vz s H locs → lv_has ls 9 [(0, .ref b0), (1, .ref (ad 248)), (2, .ref (ad 253)), (3, .ref (ad 265)), (4, .int x4_23)] → W p l e room_1 s m #[Value.ref b0] below meth c H locs (cells + 20) (slots + 1374) Q (F0 m 3519 ls [])) : W p l e room_1 s m #[Value.ref b0] below meth c H locs cells slots Q (F0 m 3405 ls []) := by
  have hx := hC.1
  have hb := hC.2.1
  unfold f_law_C56 at hf
  refine lv_aload_n hx hb dL_law_3405 rfl (lv_at hl 1 rfl) ?_
  obtain ⟨r3406, V3406, q3406, hf⟩ := gbd hf
  refine k_X9_undoableCount hC hI hl.1 q3406 tw_2_201 ⟨Nat.le_of_ble_eq_true rfl, Nat.le_of_ble_eq_true rfl⟩ ⟨by show cells ≤ 601024; omega, by show slots ≤ 7293034; omega⟩ (Nat.le_of_ble_eq_true rfl) dL_law_3406 (fun H locs hI => ?_)
  refine lv_aload_n hx hb dL_law_3409 rfl (lv_at hl 2 rfl) ?_
  obtain ⟨r3410, V3410, q3410, hf⟩ := gbd hf
  refine k_X10_undoableCount hC hI hl.1 q3410 tw_9_231 ⟨Nat.le_of_ble_eq_true rfl, Nat.le_of_ble_eq_true rfl⟩ ⟨by show cells ≤ 601024; omega, by show slots ≤ 7293034; omega⟩ (Nat.le_of_ble_eq_true rfl) dL_law_3410 (fun H locs hI => ?_)
  refine lv_icmp_eq (tgt := 3519) hx hb dL_law_3413 (by decide) (fun c3413 => ?_) (fun c3413 => ?_)
  · have hf := gt hf c3413
    cases hf
    refine x_wid (c2 := cells + 20) (s2 := slots + 1374) (by omega) (by omega) ?_
    exact kk _ _ _ hI (lv_sub hl [0, 1, 2, 3, 4] rfl)
  · have hf := gf hf c3413
    refine lv_iconst (v := 0) hx hb dL_law_3416 rfl ?_
    cases hf

def f_law_C57 (xs : Nat → Int32) (N : Nat) (V : Mem) (x4_23 : Int32) : Option Mem :=
  bd (f_L_undo V) fun r3420 V3420 =>
  bd (f_X10_undo V3420) fun r3426 V3426 =>
  bd (f_X10_thrown V3426) fun r3432 V3432 =>
  if r3432 = r3420 then
    jn (α := Mem → Option Mem) (fun j3459 =>
      if r3420 = 0 then
        if (lg_cmp ((V3432 265 0).toInt64) ((r3426).toInt64)) = 0 then
          j3459 V3432
        else
          none
      else
        j3459 V3432
    ) (fun (V3459 : Mem) =>
      some V3459
    )
  else
    none
set_option maxRecDepth 100000 in
set_option maxHeartbeats 4000000 in
theorem lc_57 {p : Program} {l : Launch} {e : Env} {s : State} {m : MethodId} {below : List Frame} {meth : Method} {c : Code} {H : Heap} {locs : List Loc} {cells slots : Nat} {Q : State → Prop} {E : En} {ad : Nat → Nat} {V Vz : Mem} {ls : Array Slot} {xs : Nat → Int32} {N b0 : Nat} {x4_23 : Int32} (hT : l.stackTraces = false) (hS : SF E) (hFr : Fr E) (hX : Sc E s b0 N xs) (hC : Cx p s m #[Value.ref b0] c meth E "LetterRepositoryLaw" cL_law 9 (some .boolean)) (hf : f_law_C57 xs N V x4_23 = some Vz) (hI : In E ad V s H locs) (hl : lv_has ls 9 [(0, .ref b0), (1, .ref (ad 248)), (2, .ref (ad 253)), (3, .ref (ad 265)), (4, .int x4_23)]) (hc1 : cells + 20 ≤ 601024) (hc2 : slots + 1374 ≤ 7293034) (kk : ∀ (H : Heap) (locs : List Loc) (ls : Array Slot), In E ad Vz s H locs → lv_has ls 9 [(0, .ref b0), (1, .ref (ad 248)), (2, .ref (ad 253)), (3, .ref (ad 265)), (4, .int x4_23)] → W p l e room_1 s m #[Value.ref b0] below meth c H locs (cells + 20) (slots + 1374) Q (F0 m 3519 ls [])) : W p l e room_1 s m #[Value.ref b0] below meth c H locs cells slots Q (F0 m 3418 ls []) := by
  have hx := hC.1
  have hb := hC.2.1
  unfold f_law_C57 at hf
  refine lv_aload_n hx hb dL_law_3418 rfl (lv_at hl 1 rfl) ?_
  refine lv_aload_n hx hb dL_law_3419 rfl (lv_at hl 3 rfl) ?_
  obtain ⟨r3420, V3420, q3420, hf⟩ := gbd hf
  refine kl_L_undo hS hT hC hI hl.1 q3420 tw_7_157 ⟨Nat.le_of_ble_eq_true rfl, Nat.le_of_ble_eq_true rfl⟩ ⟨by show cells + 1 ≤ 601024; omega, by show slots + 6 ≤ 7293034; omega⟩ (Nat.le_of_ble_eq_true rfl) dL_law_3420 (fun H locs hI => ?_)
  refine lv_istore (lv' := [(5, .int r3420), (0, .ref b0), (1, .ref (ad 248)), (2, .ref (ad 253)), (3, .ref (ad 265)), (4, .int x4_23)]) hx hb dL_law_3423 hl (Nat.lt_of_lt_of_eq (by decide) rfl) rfl (fun ls hl => ?_)
  refine lv_aload_n hx hb dL_law_3425 rfl (lv_at hl 3 rfl) ?_
  obtain ⟨r3426, V3426, q3426, hf⟩ := gbd hf
  refine k_X10_undo hC hI hl.1 q3426 tw_9_235 ⟨Nat.le_of_ble_eq_true rfl, Nat.le_of_ble_eq_true rfl⟩ ⟨by show cells + 1 ≤ 601024; omega, by show slots + 6 ≤ 7293034; omega⟩ (Nat.le_of_ble_eq_true rfl) dL_law_3426 (fun H locs hI => ?_)
  refine lv_istore (lv' := [(6, .int r3426), (5, .int r3420), (0, .ref b0), (1, .ref (ad 248)), (2, .ref (ad 253)), (3, .ref (ad 265)), (4, .int x4_23)]) hx hb dL_law_3429 hl (Nat.lt_of_lt_of_eq (by decide) rfl) rfl (fun ls hl => ?_)
  refine lv_aload_n hx hb dL_law_3431 rfl (lv_at hl 4 rfl) ?_
  obtain ⟨r3432, V3432, q3432, hf⟩ := gbd hf
  refine k_X10_thrown hC hI hl.1 q3432 tw_8_17 ⟨Nat.le_of_ble_eq_true rfl, Nat.le_of_ble_eq_true rfl⟩ ⟨by show cells + 1 ≤ 601024; omega, by show slots + 6 ≤ 7293034; omega⟩ (Nat.le_of_ble_eq_true rfl) dL_law_3432 (fun H locs hI => ?_)
  refine lv_iload hx hb dL_law_3435 (lv_at hl 1 rfl) ?_
  refine lv_icmp_eq (tgt := 3442) hx hb dL_law_3437 (by decide) (fun c3437 => ?_) (fun c3437 => ?_)
  · have hf := gt hf c3437
    refine lv_iload hx hb dL_law_3442 (lv_at hl 1 rfl) ?_
    obtain ⟨j3459, hj3459, hf⟩ := gj hf
    have J3459 : ∀ (V3459 : Mem) (H : Heap) (locs : List Loc) (ls : Array Slot), j3459 V3459 = some Vz → In E ad V3459 s H locs → lv_has ls 9 [(0, .ref b0), (1, .ref (ad 248)), (2, .ref (ad 253)), (3, .ref (ad 265)), (4, .int x4_23)] → W p l e room_1 s m #[Value.ref b0] below meth c H locs (cells + 1) (slots + 6) Q (F0 m 3459 ls []) := by
      intro V3459 H locs ls hf hI hl
      rw [hj3459] at hf
      dsimp only at hf
      refine lv_goto (tgt := 3519) hx hb dL_law_3459 (by decide) ?_
      cases hf
      refine x_wid (c2 := cells + 20) (s2 := slots + 1374) (by omega) (by omega) ?_
      exact kk _ _ _ hI (lv_sub hl [0, 1, 2, 3, 4] rfl)
    refine lv_if_ne (tgt := 3459) hx hb dL_law_3444 (by decide) (fun c3444 => ?_) (fun c3444 => ?_)
    · have hf := gf hf c3444
      exact J3459 _ _ _ _ hf hI (lv_sub hl [2, 3, 4, 5, 6] rfl)
    · have hf := gt hf c3444
      refine lv_aload_n hx hb dL_law_3447 rfl (lv_at hl 5 rfl) ?_
      refine lv_iconst (v := 0) hx hb dL_law_3448 rfl ?_
      refine r_lald hC hI dL_law_3449 ?_
      refine lv_iload hx hb dL_law_3450 (lv_at hl 0 rfl) ?_
      refine lv_i2l hx hb dL_law_3452 rfl ?_
      refine W.lcmp hx hb dL_law_3453 ?_
      refine lv_if_eq (tgt := 3459) hx hb dL_law_3454 (by decide) (fun c3454 => ?_) (fun c3454 => ?_)
      · have hf := gt hf c3454
        exact J3459 _ _ _ _ hf hI (lv_sub hl [2, 3, 4, 5, 6] rfl)
      · have hf := gf hf c3454
        refine lv_iconst (v := 0) hx hb dL_law_3457 rfl ?_
        cases hf
  · have hf := gf hf c3437
    refine lv_iconst (v := 0) hx hb dL_law_3440 rfl ?_
    cases hf

def f_law_C58 (xs : Nat → Int32) (N : Nat) (V : Mem) (x4_23 : Int32) : Option Mem :=
  bd (f_X9_save V) fun r3463 V3463 =>
  bd (f_X10_save V3463) fun r3467 V3467 =>
  if r3463 = r3467 then
    some V3467
  else
    none
set_option maxRecDepth 100000 in
set_option maxHeartbeats 4000000 in
theorem lc_58 {p : Program} {l : Launch} {e : Env} {s : State} {m : MethodId} {below : List Frame} {meth : Method} {c : Code} {H : Heap} {locs : List Loc} {cells slots : Nat} {Q : State → Prop} {E : En} {ad : Nat → Nat} {V Vz : Mem} {ls : Array Slot} {xs : Nat → Int32} {N b0 : Nat} {x4_23 : Int32} (hT : l.stackTraces = false) (hS : SF E) (hFr : Fr E) (hX : Sc E s b0 N xs) (hC : Cx p s m #[Value.ref b0] c meth E "LetterRepositoryLaw" cL_law 9 (some .boolean)) (hf : f_law_C58 xs N V x4_23 = some Vz) (hI : In E ad V s H locs) (hl : lv_has ls 9 [(0, .ref b0), (1, .ref (ad 248)), (2, .ref (ad 253)), (3, .ref (ad 265)), (4, .int x4_23)]) (hc1 : cells + 20 ≤ 601024) (hc2 : slots + 1374 ≤ 7293034) (kk : ∀ (H : Heap) (locs : List Loc) (ls : Array Slot), In E ad Vz s H locs → lv_has ls 9 [(0, .ref b0), (1, .ref (ad 248)), (2, .ref (ad 253)), (3, .ref (ad 265)), (4, .int x4_23)] → W p l e room_1 s m #[Value.ref b0] below meth c H locs (cells + 20) (slots + 1374) Q (F0 m 3519 ls [])) : W p l e room_1 s m #[Value.ref b0] below meth c H locs cells slots Q (F0 m 3462 ls []) := by
  have hx := hC.1
  have hb := hC.2.1
  unfold f_law_C58 at hf
  refine lv_aload_n hx hb dL_law_3462 rfl (lv_at hl 1 rfl) ?_
  obtain ⟨r3463, V3463, q3463, hf⟩ := gbd hf
  refine k_X9_save hC hI hl.1 q3463 tw_2_205 ⟨Nat.le_of_ble_eq_true rfl, Nat.le_of_ble_eq_true rfl⟩ ⟨by show cells ≤ 601024; omega, by show slots ≤ 7293034; omega⟩ (Nat.le_of_ble_eq_true rfl) dL_law_3463 (fun H locs hI => ?_)
  refine lv_aload_n hx hb dL_law_3466 rfl (lv_at hl 2 rfl) ?_
  obtain ⟨r3467, V3467, q3467, hf⟩ := gbd hf
  refine k_X10_save hC hI hl.1 q3467 tw_9_239 ⟨Nat.le_of_ble_eq_true rfl, Nat.le_of_ble_eq_true rfl⟩ ⟨by show cells ≤ 601024; omega, by show slots ≤ 7293034; omega⟩ (Nat.le_of_ble_eq_true rfl) dL_law_3467 (fun H locs hI => ?_)
  refine lv_icmp_eq (tgt := 3519) hx hb dL_law_3470 (by decide) (fun c3470 => ?_) (fun c3470 => ?_)
  · have hf := gt hf c3470
    cases hf
    refine x_wid (c2 := cells + 20) (s2 := slots + 1374) (by omega) (by omega) ?_
    exact kk _ _ _ hI (lv_sub hl [0, 1, 2, 3, 4] rfl)
  · have hf := gf hf c3470
    refine lv_iconst (v := 0) hx hb dL_law_3473 rfl ?_
    cases hf

def f_law_C59 (xs : Nat → Int32) (N : Nat) (V : Mem) (x4_23 : Int32) : Option Mem :=
  bd (f_L_restore V) fun r3477 V3477 =>
  bd (f_X10_restore V3477) fun r3483 V3483 =>
  bd (f_X10_thrown V3483) fun r3489 V3489 =>
  if r3489 = r3477 then
    jn (α := Mem → Option Mem) (fun j3516 =>
      if r3477 = 0 then
        if (lg_cmp ((V3489 265 0).toInt64) ((r3483).toInt64)) = 0 then
          j3516 V3489
        else
          none
      else
        j3516 V3489
    ) (fun (V3516 : Mem) =>
      some V3516
    )
  else
    none
set_option maxRecDepth 100000 in
set_option maxHeartbeats 4000000 in
theorem lc_59 {p : Program} {l : Launch} {e : Env} {s : State} {m : MethodId} {below : List Frame} {meth : Method} {c : Code} {H : Heap} {locs : List Loc} {cells slots : Nat} {Q : State → Prop} {E : En} {ad : Nat → Nat} {V Vz : Mem} {ls : Array Slot} {xs : Nat → Int32} {N b0 : Nat} {x4_23 : Int32} (hT : l.stackTraces = false) (hS : SF E) (hFr : Fr E) (hX : Sc E s b0 N xs) (hC : Cx p s m #[Value.ref b0] c meth E "LetterRepositoryLaw" cL_law 9 (some .boolean)) (hf : f_law_C59 xs N V x4_23 = some Vz) (hI : In E ad V s H locs) (hl : lv_has ls 9 [(0, .ref b0), (1, .ref (ad 248)), (2, .ref (ad 253)), (3, .ref (ad 265)), (4, .int x4_23)]) (hc1 : cells + 20 ≤ 601024) (hc2 : slots + 1374 ≤ 7293034) (kk : ∀ (H : Heap) (locs : List Loc) (ls : Array Slot), In E ad Vz s H locs → lv_has ls 9 [(0, .ref b0), (1, .ref (ad 248)), (2, .ref (ad 253)), (3, .ref (ad 265)), (4, .int x4_23)] → W p l e room_1 s m #[Value.ref b0] below meth c H locs (cells + 20) (slots + 1374) Q (F0 m 3519 ls [])) : W p l e room_1 s m #[Value.ref b0] below meth c H locs cells slots Q (F0 m 3475 ls []) := by
  have hx := hC.1
  have hb := hC.2.1
  unfold f_law_C59 at hf
  refine lv_aload_n hx hb dL_law_3475 rfl (lv_at hl 1 rfl) ?_
  refine lv_aload_n hx hb dL_law_3476 rfl (lv_at hl 3 rfl) ?_
  obtain ⟨r3477, V3477, q3477, hf⟩ := gbd hf
  refine kl_L_restore hS hT hC hI hl.1 q3477 tw_7_171 ⟨Nat.le_of_ble_eq_true rfl, Nat.le_of_ble_eq_true rfl⟩ ⟨by show cells + 1 ≤ 601024; omega, by show slots + 6 ≤ 7293034; omega⟩ (Nat.le_of_ble_eq_true rfl) dL_law_3477 (fun H locs hI => ?_)
  refine lv_istore (lv' := [(5, .int r3477), (0, .ref b0), (1, .ref (ad 248)), (2, .ref (ad 253)), (3, .ref (ad 265)), (4, .int x4_23)]) hx hb dL_law_3480 hl (Nat.lt_of_lt_of_eq (by decide) rfl) rfl (fun ls hl => ?_)
  refine lv_aload_n hx hb dL_law_3482 rfl (lv_at hl 3 rfl) ?_
  obtain ⟨r3483, V3483, q3483, hf⟩ := gbd hf
  refine k_X10_restore hC hI hl.1 q3483 tw_10_3 ⟨Nat.le_of_ble_eq_true rfl, Nat.le_of_ble_eq_true rfl⟩ ⟨by show cells + 1 ≤ 601024; omega, by show slots + 6 ≤ 7293034; omega⟩ (Nat.le_of_ble_eq_true rfl) dL_law_3483 (fun H locs hI => ?_)
  refine lv_istore (lv' := [(6, .int r3483), (5, .int r3477), (0, .ref b0), (1, .ref (ad 248)), (2, .ref (ad 253)), (3, .ref (ad 265)), (4, .int x4_23)]) hx hb dL_law_3486 hl (Nat.lt_of_lt_of_eq (by decide) rfl) rfl (fun ls hl => ?_)
  refine lv_aload_n hx hb dL_law_3488 rfl (lv_at hl 4 rfl) ?_
  obtain ⟨r3489, V3489, q3489, hf⟩ := gbd hf
  refine k_X10_thrown hC hI hl.1 q3489 tw_8_17 ⟨Nat.le_of_ble_eq_true rfl, Nat.le_of_ble_eq_true rfl⟩ ⟨by show cells + 1 ≤ 601024; omega, by show slots + 6 ≤ 7293034; omega⟩ (Nat.le_of_ble_eq_true rfl) dL_law_3489 (fun H locs hI => ?_)
  refine lv_iload hx hb dL_law_3492 (lv_at hl 1 rfl) ?_
  refine lv_icmp_eq (tgt := 3499) hx hb dL_law_3494 (by decide) (fun c3494 => ?_) (fun c3494 => ?_)
  · have hf := gt hf c3494
    refine lv_iload hx hb dL_law_3499 (lv_at hl 1 rfl) ?_
    obtain ⟨j3516, hj3516, hf⟩ := gj hf
    have J3516 : ∀ (V3516 : Mem) (H : Heap) (locs : List Loc) (ls : Array Slot), j3516 V3516 = some Vz → In E ad V3516 s H locs → lv_has ls 9 [(0, .ref b0), (1, .ref (ad 248)), (2, .ref (ad 253)), (3, .ref (ad 265)), (4, .int x4_23)] → W p l e room_1 s m #[Value.ref b0] below meth c H locs (cells + 1) (slots + 6) Q (F0 m 3516 ls []) := by
      intro V3516 H locs ls hf hI hl
      rw [hj3516] at hf
      dsimp only at hf
      refine lv_goto (tgt := 3519) hx hb dL_law_3516 (by decide) ?_
      cases hf
      refine x_wid (c2 := cells + 20) (s2 := slots + 1374) (by omega) (by omega) ?_
      exact kk _ _ _ hI (lv_sub hl [0, 1, 2, 3, 4] rfl)
    refine lv_if_ne (tgt := 3516) hx hb dL_law_3501 (by decide) (fun c3501 => ?_) (fun c3501 => ?_)
    · have hf := gf hf c3501
      exact J3516 _ _ _ _ hf hI (lv_sub hl [2, 3, 4, 5, 6] rfl)
    · have hf := gt hf c3501
      refine lv_aload_n hx hb dL_law_3504 rfl (lv_at hl 5 rfl) ?_
      refine lv_iconst (v := 0) hx hb dL_law_3505 rfl ?_
      refine r_lald hC hI dL_law_3506 ?_
      refine lv_iload hx hb dL_law_3507 (lv_at hl 0 rfl) ?_
      refine lv_i2l hx hb dL_law_3509 rfl ?_
      refine W.lcmp hx hb dL_law_3510 ?_
      refine lv_if_eq (tgt := 3516) hx hb dL_law_3511 (by decide) (fun c3511 => ?_) (fun c3511 => ?_)
      · have hf := gt hf c3511
        exact J3516 _ _ _ _ hf hI (lv_sub hl [2, 3, 4, 5, 6] rfl)
      · have hf := gf hf c3511
        refine lv_iconst (v := 0) hx hb dL_law_3514 rfl ?_
        cases hf
  · have hf := gf hf c3494
    refine lv_iconst (v := 0) hx hb dL_law_3497 rfl ?_
    cases hf
