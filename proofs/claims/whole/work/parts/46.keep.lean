/-! PURE, 46: errors, what is remembered, kept, taken back -/
section QL
variable {V : Mem}
theorem q_Te {cl : Option (Int32 × Mem)} {md : Mem → Option (Int32 × Mem)} {r : Int32} (I : Inv V) (hcl : cl = some (nI 0, stv V 265 0 r)) (hmd : ∀ W, (∀ d, d ≠ 265 → W d = V d) → md W = some (r, U0 W)) : StepR V cl md := by
  have e := hmd (stv V 265 0 r) (fun d hd => st_n hd)
  refine ⟨nI 0, _, r, _, hcl, e, U0_4, fun _ => ?_, ?_⟩
  · rw [U0_n (by omega), st_e, up_e]
  · have := I.sam (sam_4 (V := V) (W := stv V 265 0 r) (x := nI 0) (h := U0 (stv V 265 0 r) 259) (k := U0 (stv V 265 0 r) 260) (fun d hd => st_n hd))
    rwa [show stv (stv V 265 0 r) 253 4 (nI 0) = U0 (stv V 265 0 r) from rfl, scr_id] at this
theorem q_Fe {cl : Option (Int32 × Mem)} {md : Mem → Option (Int32 × Mem)} {code : Nat} {b : Int32} (I : Inv V) (h0 : 0 < code) (h9 : code < 9) (hcl : cl = some (nI code, V)) (hmd : md V = some (b, stv V 253 4 (nI code))) : StepR V cl md := by
  refine ⟨nI code, V, b, _, hcl, hmd, by rw [st_e, up_e], fun z => absurd z (nI_ne0 h0 (by omega)), ?_⟩
  have := I.sam (sam_4 (V := V) (W := V) (x := nI code) (h := stv V 253 4 (nI code) 259) (k := stv V 253 4 (nI code) 260) (fun d hd => rfl))
  rwa [scr_id] at this
theorem st_errorPosition (I : Inv V) : StepR V (f_L_errorPosition V) (fun W => f_X10_errorPosition W) := by
  have er := I.2.2.2.1.1
  by_cases q : V 248 1 = m1
  · refine q_Fe (b := m1) (code := 1) I (by omega) (by omega) ?_ ?_
    · unfold f_L_errorPosition f_X9_errorPosition
      rw [q, rq_pres_m, bx_n, bh_n]; rfl
    · show f_X10_errorPosition V = _
      unfold f_X10_errorPosition
      rw [lt_U, if_pos (show U0 V 253 2 = -1 by unfold U0; rw [st_e, up_n (by omega), er]; exact q), sm_th, bd_s, U0_th]; rfl
  · refine q_Te (r := V 248 1) I ?_ (fun W hW => ?_)
    · unfold f_L_errorPosition f_X9_errorPosition
      rw [rq_pres _ q, bx_0, bh_0]; rfl
    · have e : U0 W 253 2 = V 248 1 := by unfold U0; rw [st_e, up_n (by omega), hW 253 (by omega), er]
      unfold f_X10_errorPosition
      rw [lt_U, e, if_neg (show ¬ V 248 1 = -1 from q)]
theorem st_failedCommand (I : Inv V) : StepR V (f_L_failedCommand V) (fun W => f_X10_failedCommand W) := by
  have er := I.2.2.2.1.2
  by_cases q : V 248 2 = m1
  · refine q_Fe (b := m1) (code := 1) I (by omega) (by omega) ?_ ?_
    · unfold f_L_failedCommand f_X9_failedCommand
      rw [q, rq_pres_m, bx_n, bh_n]; rfl
    · show f_X10_failedCommand V = _
      unfold f_X10_failedCommand
      rw [lt_U, if_pos (show U0 V 253 3 = -1 by unfold U0; rw [st_e, up_n (by omega), er]; exact q), sm_th, bd_s, U0_th]; rfl
  · refine q_Te (r := V 248 2) I ?_ (fun W hW => ?_)
    · unfold f_L_failedCommand f_X9_failedCommand
      rw [rq_pres _ q, bx_0, bh_0]; rfl
    · have e : U0 W 253 3 = V 248 2 := by unfold U0; rw [st_e, up_n (by omega), hW 253 (by omega), er]
      unfold f_X10_failedCommand
      rw [lt_U, e, if_neg (show ¬ V 248 2 = -1 from q)]
theorem st_undoableCount (I : Inv V) : StepD V (f_X9_undoableCount V) (fun W => f_X10_undoableCount W) := by
  obtain ⟨c, s, h1, h2, h3, _⟩ := I.2.1
  refine q_D (r := nI c) I ?_ (ex_sc ?_)
  · unfold f_X9_undoableCount; rw [h2]
  · unfold f_X10_undoableCount
    rw [lt_U]
    unfold U0
    rw [st_e, up_n (by omega), h3]
/-! save -/
theorem Agr_fil {g f : Arr} (ok : OKg g) : Agr g (fil g f 361) := Agr.all (ok_c24 ok) (fun j hj => fil_in hj)
theorem st_e0 {V : Mem} {c i : Nat} {x : Int32} {j : Nat} (h : j ≠ i) : stv V c i x c j = V c j := by rw [st_e, up_n h]
theorem mm_save {W : Mem} : f_X10_save W = some (W 254 0, stv (va_up (U0 W) 256 (fil (W 254) (W 256) 361)) 253 0 (nI 1)) := by
  unfold f_X10_save
  rw [lt_U, jn_d]
  refine Eq.trans (congrArg (fun X => f_X10_save_L7 _ FU X 0) (show U0 W = va_up (U0 W) 256 (fil (W 254) (W 256) 0) by rw [fil_0, vu_id' (U0_n (W := W) (c := 256) (by omega)).symm])) ?_
  refine lp_run 361 (fun n k => f_X10_save_L7 _ n (va_up (U0 W) 256 (fil (W 254) (W 256) k)) (nI k)) _ ?_ ?_ (n := FU) (k := 0) (by omega) (by decide)
  · intro n
    rw [f_X10_save_L7.eq_2]
    simp (disch := omega) only [bd_s, bv_s, lt_d, jn_d, om_s, om_n, zl0, zl1, zl2, zl3, zl4, zl5, zl6, zl7, zl8, zl9, zl10, zl11, zl12, zl13, zl16, zl23, zl24, zl26, zl31, zl32, zl35, zl36, zl40, zl42, zl45, zl48, zl57, zl58, zl59, zl60, zl61, zl62, zl63, zl64, zl65, zl78, zl90, zl94, zl97, zl98, zl114, zl122, zl126, zl244, zl290, zl291, zl326, zl335, zl361, zl2527, zl2888, neg1, le_T, le_F, lt_T, lt_F, eq_T, eq_F, m1_ne, m1_ne', m1_lt, m1_le, lt_m1, le_m1, cl_n, ib_T, nI_add, pk_mul, sub_n, add_m1, sub_m1, m1_1, m1_1', pw_d, st_e, st_n, vu_e, vu_n, up_e, up_n, if_true, if_false, true_or, or_true, false_or, or_false, eq_self, reduceCtorEq, not_true_eq_false, not_false_eq_true]
    rw [U0_254]
  · intro n k hk
    rw [f_X10_save_L7.eq_2]
    simp (disch := omega) only [bd_s, bv_s, lt_d, jn_d, om_s, om_n, zl0, zl1, zl2, zl3, zl4, zl5, zl6, zl7, zl8, zl9, zl10, zl11, zl12, zl13, zl16, zl23, zl24, zl26, zl31, zl32, zl35, zl36, zl40, zl42, zl45, zl48, zl57, zl58, zl59, zl60, zl61, zl62, zl63, zl64, zl65, zl78, zl90, zl94, zl97, zl98, zl114, zl122, zl126, zl244, zl290, zl291, zl326, zl335, zl361, zl2527, zl2888, neg1, le_T, le_F, lt_T, lt_F, eq_T, eq_F, m1_ne, m1_ne', m1_lt, m1_le, lt_m1, le_m1, cl_n, ib_T, nI_add, pk_mul, sub_n, add_m1, sub_m1, m1_1, m1_1', pw_d, st_e, st_n, vu_e, vu_n, up_e, up_n, if_true, if_false, true_or, or_true, false_or, or_false, eq_self, reduceCtorEq, not_true_eq_false, not_false_eq_true, st_v2, U0_254]
    rw [fil_s rfl]
theorem st_save (I : Inv V) : StepD V (f_X9_save V) (fun W => f_X10_save W) := by
  obtain ⟨⟨ok, R⟩, hi, sv, er, li, ip, co⟩ := I
  obtain ⟨V1, e1, R1, F1⟩ := cx_copy (V := V) (k := 1) (k2 := 0) (by omega) ok (Rel_0.mpr R)
  have R2 : RelS (stv V1 248 0 (nI 1)) (V 254) := Rel_lo (fun c hc => by rw [st_n (by omega)]; exact F1 c (by omega)) R
  have w : ∀ d, d ≠ 248 → (d < 20 ∨ 40 ≤ d) → stv V1 248 0 (nI 1) d = V d := fun d a b => by rw [st_n a]; exact F1 d (by omega)
  have w2 : ∀ d, 20 ≤ d → d < 40 → stv V1 248 0 (nI 1) d = V1 d := fun d a b => st_n (by omega)
  have w248 : stv V1 248 0 (nI 1) 248 = upd (V 248) 0 (nI 1) := by rw [st_e, F1 248 (by omega)]
  refine ⟨V 254 0, stv V1 248 0 (nI 1), _, ?_, mm_save.trans (by rw [w 254 (by omega) (by omega)]), ?_⟩
  · unfold f_X9_save
    rw [e1, bv_s, show (1 : Int32) = nI 1 from rfl, lt_d, rl_n R2]
  · rw [w 256 (by omega) (by omega)]
    generalize stv V1 248 0 (nI 1) = W at *
    generalize hX : stv (va_up (U0 W) 256 (fil (V 254) (V 256) 361)) 253 0 (nI 1) = X
    have y : ∀ d, d ≠ 253 → d ≠ 256 → X d = W d := fun d a b => by rw [← hX, st_n a, vu_n b, U0_n a]
    have y253 : ∀ j, j ≠ 0 → j ≠ 4 → X 253 j = V 253 j := fun j a b => by rw [← hX, st_e, up_n a, vu_n (by omega)]; unfold U0; rw [st_e, up_n b, w 253 (by omega) (by omega)]
    have y0 : X 253 0 = nI 1 := by rw [← hX, st_e, up_e]
    have y256 : X 256 = fil (V 254) (V 256) 361 := by rw [← hX, st_n (by omega), vu_e]
    have ag := Agr_fil (f := V 256) ok
    have z : ∀ d, d ≠ 253 → d ≠ 256 → d ≠ 248 → (d < 20 ∨ 40 ≤ d) → X d = V d := fun d a b c e => (y d a b).trans (w d c e)
    refine ⟨⟨?_, ?_⟩, ?_, .inr ⟨?_, y0, ?_, ?_⟩, ?_, ?_, ?_, ?_⟩
    · rw [z 254 (by omega) (by omega) (by omega) (by omega)]; exact ok
    · rw [z 254 (by omega) (by omega) (by omega) (by omega)]; exact Rel_lo (fun c hc => z c (by omega) (by omega) (by omega) (by omega)) R
    · exact hi.of (z 220 (by omega) (by omega) (by omega) (by omega)) (y253 1 (by omega) (by omega)) (z 257 (by omega) (by omega) (by omega) (by omega)) (fun c a b => z c (by omega) (by omega) (by omega) (by omega))
    · rw [y 248 (by omega) (by omega), w248, up_e]
    · rw [y256]; exact (OK_agr ok ag).1
    · rw [y256]
      exact Rel_agr ok ag (Rel_lo (V := fun j => V1 (20 * 1 + j)) (V' := fun j => X (20 * 1 + j)) (fun c hc => (y _ (by omega) (by omega)).trans (w2 _ (by omega) (by omega))) R1)
    · refine ⟨?_, ?_⟩
      · rw [y253 2 (by omega) (by omega), er.1, y 248 (by omega) (by omega), w248, up_n (by omega)]
      · rw [y253 3 (by omega) (by omega), er.2, y 248 (by omega) (by omega), w248, up_n (by omega)]
    · exact li.of (y253 6 (by omega) (by omega)) (z 251 (by omega) (by omega) (by omega) (by omega)) (z 252 (by omega) (by omega) (by omega) (by omega)) (z 261 (by omega) (by omega) (by omega) (by omega))
    · exact ip.of (y253 5 (by omega) (by omega)) (z 249 (by omega) (by omega) (by omega) (by omega)) (z 250 (by omega) (by omega) (by omega) (by omega)) (z 258 (by omega) (by omega) (by omega) (by omega))
    · exact co.of (z 262 (by omega) (by omega) (by omega) (by omega)) (z 263 (by omega) (by omega) (by omega) (by omega))
/-! restore -/
theorem mm_rest {W : Mem} (h : W 253 0 = nI 1) : f_X10_restore W = some (W 256 0, stv (va_up (U0 W) 254 (fil (W 256) (W 254) 361)) 253 1 (nI 0)) := by
  unfold f_X10_restore
  rw [lt_U, if_neg (show ¬ U0 W 253 0 = 0 by unfold U0; rw [st_e, up_n (by omega), h]; decide), jn_d]
  refine Eq.trans (congrArg (fun X => f_X10_restore_L20 _ FU X 0) (show U0 W = va_up (U0 W) 254 (fil (W 256) (W 254) 0) by rw [fil_0, vu_id' (U0_n (W := W) (c := 254) (by omega)).symm])) ?_
  refine lp_run 361 (fun n k => f_X10_restore_L20 _ n (va_up (U0 W) 254 (fil (W 256) (W 254) k)) (nI k)) _ ?_ ?_ (n := FU) (k := 0) (by omega) (by decide)
  · intro n
    rw [f_X10_restore_L20.eq_2]
    simp (disch := omega) only [bd_s, bv_s, lt_d, jn_d, om_s, om_n, zl0, zl1, zl2, zl3, zl4, zl5, zl6, zl7, zl8, zl9, zl10, zl11, zl12, zl13, zl16, zl23, zl24, zl26, zl31, zl32, zl35, zl36, zl40, zl42, zl45, zl48, zl57, zl58, zl59, zl60, zl61, zl62, zl63, zl64, zl65, zl78, zl90, zl94, zl97, zl98, zl114, zl122, zl126, zl244, zl290, zl291, zl326, zl335, zl361, zl2527, zl2888, neg1, le_T, le_F, lt_T, lt_F, eq_T, eq_F, m1_ne, m1_ne', m1_lt, m1_le, lt_m1, le_m1, cl_n, ib_T, nI_add, pk_mul, sub_n, add_m1, sub_m1, m1_1, m1_1', pw_d, st_e, st_n, vu_e, vu_n, up_e, up_n, if_true, if_false, true_or, or_true, false_or, or_false, eq_self, reduceCtorEq, not_true_eq_false, not_false_eq_true]
    rw [fil_in (by omega)]
  · intro n k hk
    rw [f_X10_restore_L20.eq_2]
    simp (disch := omega) only [bd_s, bv_s, lt_d, jn_d, om_s, om_n, zl0, zl1, zl2, zl3, zl4, zl5, zl6, zl7, zl8, zl9, zl10, zl11, zl12, zl13, zl16, zl23, zl24, zl26, zl31, zl32, zl35, zl36, zl40, zl42, zl45, zl48, zl57, zl58, zl59, zl60, zl61, zl62, zl63, zl64, zl65, zl78, zl90, zl94, zl97, zl98, zl114, zl122, zl126, zl244, zl290, zl291, zl326, zl335, zl361, zl2527, zl2888, neg1, le_T, le_F, lt_T, lt_F, eq_T, eq_F, m1_ne, m1_ne', m1_lt, m1_le, lt_m1, le_m1, cl_n, ib_T, nI_add, pk_mul, sub_n, add_m1, sub_m1, m1_1, m1_1', pw_d, st_e, st_n, vu_e, vu_n, up_e, up_n, if_true, if_false, true_or, or_true, false_or, or_false, eq_self, reduceCtorEq, not_true_eq_false, not_false_eq_true, st_v2, U0_n (W := W) (c := 256) (by omega)]
    rw [fil_s rfl]
theorem st_restore (I : Inv V) : StepR V (f_L_restore V) (fun W => f_X10_restore W) := by
  have I0 := I
  obtain ⟨⟨ok, R⟩, hi, sv, er, li, ip, co⟩ := I
  rcases sv with ⟨s1, s2⟩ | ⟨s1, s2, s3, s4⟩
  · refine q_Fe (b := m1) (code := 1) I0 (by omega) (by omega) ?_ ?_
    · unfold f_L_restore f_X9_restore
      rw [if_pos (show V 248 0 = 0 from s1), bh_n]; rfl
    · show f_X10_restore V = _
      unfold f_X10_restore
      rw [lt_U, if_pos (show U0 V 253 0 = 0 by unfold U0; rw [st_e, up_n (by omega), s2]; rfl), sm_th, bd_s, U0_th]; rfl
  · obtain ⟨V1, e1, R1, F1⟩ := cx_copy (V := V) (k := 0) (k2 := 1) (by omega) s3 s4
    have R1 : RelS V1 (V 256) := Rel_0.mp R1
    generalize hV2 : stv V1 220 1 (nI 0) = V2
    have w : ∀ d, d ≠ 220 → 20 ≤ d → V2 d = V d := fun d a b => by rw [← hV2, st_n a]; exact F1 d (by omega)
    have R2 : RelS V2 (V 256) := Rel_lo (fun c hc => by rw [← hV2, st_n (by omega)]) R1
    have w220 : V2 220 = upd (V 220) 1 (nI 0) := by rw [← hV2, st_e, F1 220 (by omega)]
    refine ⟨nI 0, stv V2 265 0 (V 256 0), V 256 0, stv (va_up (U0 (stv V2 265 0 (V 256 0))) 254 (fil (V 256) (V 254) 361)) 253 1 (nI 0), ?_, (mm_rest (W := stv V2 265 0 (V 256 0)) ?_).trans ?_, ?_, fun _ => ?_, ?_⟩
    · unfold f_L_restore f_X9_restore f_X2_forget
      rw [if_neg (show ¬ V 248 0 = 0 by rw [s1]; decide), e1, bv_s, show (0 : Int32) = nI 0 from rfl, lt_d, hV2, bv_s, bh_0, rl_n R2]; rfl
    · rw [st_n (by omega), w 253 (by omega) (by omega), s2]
    · rw [st_n (by omega), st_n (by omega), w 256 (by omega) (by omega), w 254 (by omega) (by omega)]
    · rw [st_e, up_n (by omega), vu_n (by omega), U0_4]
    · rw [st_n (by omega), vu_n (by omega), U0_n (by omega), st_e, up_e]
    · generalize hX : stv (va_up (U0 (stv V2 265 0 (V 256 0))) 254 (fil (V 256) (V 254) 361)) 253 1 (nI 0) = X
      have y : ∀ d, d ≠ 253 → d ≠ 254 → d ≠ 265 → X d = V2 d := fun d a b c => by rw [← hX, st_n a, vu_n b, U0_n a, st_n c]
      have y253 : ∀ j, j ≠ 1 → j ≠ 4 → X 253 j = V 253 j := fun j a b => by rw [← hX, st_e, up_n a, vu_n (by omega)]; unfold U0; rw [st_e, up_n b, st_n (by omega), w 253 (by omega) (by omega)]
      have y1 : X 253 1 = nI 0 := by rw [← hX, st_e, up_e]
      have y254 : X 254 = fil (V 256) (V 254) 361 := by rw [← hX, st_n (by omega), vu_e]
      have ag := Agr_fil (f := V 254) s3
      have z : ∀ d, d ≠ 253 → d ≠ 254 → d ≠ 265 → d ≠ 220 → 20 ≤ d → X d = V d := fun d a b c e f => (y d a b c).trans (w d e f)
      obtain ⟨c, s, a1, a2, a3, a4⟩ := hi
      refine ⟨⟨?_, ?_⟩, ⟨0, s, ?_, ?_, y1, Nat.zero_le _, a4.2.1, fun i hi => absurd hi (Nat.not_lt_zero _)⟩, .inr ⟨?_, ?_, ?_, ?_⟩, ?_, ?_, ?_, ?_⟩
      · rw [y254]; exact (OK_agr s3 ag).1
      · rw [y254]; exact Rel_agr s3 ag (Rel_lo (fun c hc => y c (by omega) (by omega) (by omega)) R2)
      · rw [y 220 (by omega) (by omega) (by omega), w220, up_n (by omega)]; exact a1
      · rw [y 220 (by omega) (by omega) (by omega), w220, up_e]
      · rw [z 248 (by omega) (by omega) (by omega) (by omega) (by omega)]; exact s1
      · rw [y253 0 (by omega) (by omega)]; exact s2
      · rw [z 256 (by omega) (by omega) (by omega) (by omega) (by omega)]; exact s3
      · rw [z 256 (by omega) (by omega) (by omega) (by omega) (by omega)]
        exact Rel_lo (V := fun j => V (20 * 1 + j)) (V' := fun j => X (20 * 1 + j)) (fun c hc => z _ (by omega) (by omega) (by omega) (by omega) (by omega)) s4
      · exact er.of (z 248 (by omega) (by omega) (by omega) (by omega) (by omega)) (y253 2 (by omega) (by omega)) (y253 3 (by omega) (by omega))
      · exact li.of (y253 6 (by omega) (by omega)) (z 251 (by omega) (by omega) (by omega) (by omega) (by omega)) (z 252 (by omega) (by omega) (by omega) (by omega) (by omega)) (z 261 (by omega) (by omega) (by omega) (by omega) (by omega))
      · exact ip.of (y253 5 (by omega) (by omega)) (z 249 (by omega) (by omega) (by omega) (by omega) (by omega)) (z 250 (by omega) (by omega) (by omega) (by omega) (by omega)) (z 258 (by omega) (by omega) (by omega) (by omega) (by omega))
      · exact co.of (z 262 (by omega) (by omega) (by omega) (by omega) (by omega)) (z 263 (by omega) (by omega) (by omega) (by omega) (by omega))
/-! undo -/
theorem mm_undo {W : Mem} {c : Nat} (h : W 253 1 = nI c) (h0 : 0 < c) (h8 : c ≤ 8) : f_X10_undo W = some (nI (c - 1), va_up (stv (U0 W) 253 1 (nI (c - 1))) 254 (fil (fun j => W 257 (361 * (c - 1) + j)) (W 254) 361)) := by
  have e1 : U0 W 253 1 = nI c := by unfold U0; rw [st_e, up_n (by omega), h]
  unfold f_X10_undo
  rw [lt_U, e1, if_neg (show ¬ nI c = 0 from nI_ne0 h0 (by omega)), show nI c - 1 = nI (c - 1) from sub_n (a := c) (b := 1) h0, lt_d, jn_d]
  refine Eq.trans (congrArg (fun X => f_X10_undo_L30 _ FU X 0) (show stv (U0 W) 253 1 (nI (c - 1)) = va_up (stv (U0 W) 253 1 (nI (c - 1))) 254 (fil (fun j => W 257 (361 * (c - 1) + j)) (W 254) 0) by rw [fil_0, vu_id' (show W 254 = stv (U0 W) 253 1 (nI (c - 1)) 254 by rw [st_n (by omega), U0_254])])) ?_
  refine lp_run 361 (fun n k => f_X10_undo_L30 _ n (va_up (stv (U0 W) 253 1 (nI (c - 1))) 254 (fil (fun j => W 257 (361 * (c - 1) + j)) (W 254) k)) (nI k)) _ ?_ ?_ (n := FU) (k := 0) (by omega) (by decide)
  · intro n
    rw [f_X10_undo_L30.eq_2]
    simp (disch := omega) only [bd_s, bv_s, lt_d, jn_d, om_s, om_n, zl0, zl1, zl2, zl3, zl4, zl5, zl6, zl7, zl8, zl9, zl10, zl11, zl12, zl13, zl16, zl23, zl24, zl26, zl31, zl32, zl35, zl36, zl40, zl42, zl45, zl48, zl57, zl58, zl59, zl60, zl61, zl62, zl63, zl64, zl65, zl78, zl90, zl94, zl97, zl98, zl114, zl122, zl126, zl244, zl290, zl291, zl326, zl335, zl361, zl2527, zl2888, neg1, le_T, le_F, lt_T, lt_F, eq_T, eq_F, m1_ne, m1_ne', m1_lt, m1_le, lt_m1, le_m1, cl_n, ib_T, nI_add, pk_mul, sub_n, add_m1, sub_m1, m1_1, m1_1', pw_d, st_e, st_n, vu_e, vu_n, up_e, up_n, if_true, if_false, true_or, or_true, false_or, or_false, eq_self, reduceCtorEq, not_true_eq_false, not_false_eq_true]
  · intro n k hk
    rw [f_X10_undo_L30.eq_2]
    simp (disch := omega) only [bd_s, bv_s, lt_d, jn_d, om_s, om_n, zl0, zl1, zl2, zl3, zl4, zl5, zl6, zl7, zl8, zl9, zl10, zl11, zl12, zl13, zl16, zl23, zl24, zl26, zl31, zl32, zl35, zl36, zl40, zl42, zl45, zl48, zl57, zl58, zl59, zl60, zl61, zl62, zl63, zl64, zl65, zl78, zl90, zl94, zl97, zl98, zl114, zl122, zl126, zl244, zl290, zl291, zl326, zl335, zl361, zl2527, zl2888, neg1, le_T, le_F, lt_T, lt_F, eq_T, eq_F, m1_ne, m1_ne', m1_lt, m1_le, lt_m1, le_m1, cl_n, ib_T, nI_add, pk_mul, sub_n, add_m1, sub_m1, m1_1, m1_1', pw_d, st_e, st_n, vu_e, vu_n, up_e, up_n, if_true, if_false, true_or, or_true, false_or, or_false, eq_self, reduceCtorEq, not_true_eq_false, not_false_eq_true, st_v2, U0_n (W := W) (c := 257) (by omega)]
    rw [fil_s rfl]
theorem cx_take {c s : Nat} {g : Arr} (h : V 220 0 = nI s) (hs : s ≤ 8) (h2 : V 220 1 = nI c) (h0 : 0 < c) (hc : c ≤ 8) (ok : OKg g) (R : RelS (fun j => V (20 * ((s + 8) % 9 + 2) + j)) g) : ∃ V1, f_X2_takeBackInto V = some V1 ∧ RelS V1 g ∧ V1 220 = upd (upd (V 220) 0 (nI ((s + 8) % 9))) 1 (nI (c - 1)) ∧ ∀ d, 20 ≤ d → d ≠ 220 → V1 d = V d := by
  generalize hW : stv (stv V 220 0 (nI ((s + 8) % 9))) 220 1 (nI (c - 1)) = W
  have w : ∀ d, d ≠ 220 → W d = V d := fun d a => by rw [← hW, st_n a, st_n a]
  have w220 : W 220 = upd (upd (V 220) 0 (nI ((s + 8) % 9))) 1 (nI (c - 1)) := by rw [← hW, st_e, st_e]
  obtain ⟨V1, e1, R1, F1⟩ := cx_copy (V := W) (k := 0) (k2 := (s + 8) % 9 + 2) (by omega) ok (Rel_lo (V := fun j => V (20 * ((s + 8) % 9 + 2) + j)) (V' := fun j => W (20 * ((s + 8) % 9 + 2) + j)) (fun d hd => w _ (by omega)) R)
  refine ⟨V1, ?_, Rel_0.mp R1, by rw [F1 220 (by omega), w220], fun d a b => by rw [F1 d (by omega), w d b]⟩
  have p : f_X2_putNotedInto W = some V1 := by
    unfold f_X2_putNotedInto
    rw [w220, up_n (by omega), up_e, cx_slot (by omega), bd_s, om_s, if_pos (by omega), e1, bv_s]
  have e5 : ∀ x, (if (upd (V 220) 0 x 1 - 1) < 0 then (0 : Int32) else upd (V 220) 0 x 1 - 1) = nI (c - 1) := fun x => by
    rw [up_n (by omega), h2, show nI c - 1 = nI (c - 1) from sub_n (a := c) (b := 1) h0, if_neg (show ¬ nI (c - 1) < 0 from nI_pos (by omega))]
  unfold f_X2_takeBackInto
  rw [jn_d, h]
  rcases Nat.eq_zero_or_pos s with z | z
  · subst z
    rw [if_pos (by decide)]
    show lt (stv V 220 0 (nI ((0 + 8) % 9))) _ = _
    rw [lt_d, st_e, e5, lt_d, hW, p, bv_s]
  · rw [if_neg (show ¬ nI s ≤ 0 from nI_ge (a := 0) z (by omega)), show nI s - 1 = nI ((s + 8) % 9) from (sub_n (a := s) (b := 1) z).trans (congrArg nI (by omega))]
    show lt (stv V 220 0 (nI ((s + 8) % 9))) _ = _
    rw [lt_d, st_e, e5, lt_d, hW, p, bv_s]
theorem st_undo (I : Inv V) : StepR V (f_L_undo V) (fun W => f_X10_undo W) := by
  have I0 := I
  obtain ⟨⟨ok, R⟩, ⟨c, s, a1, a2, a3, a4⟩, sv, er, li, ip, co⟩ := I
  have hc8 := a4.1
  have hs8 := a4.2.1
  rcases Nat.eq_zero_or_pos c with q | q
  · subst q
    refine q_Fe (b := m1) (code := 1) I0 (by omega) (by omega) ?_ ?_
    · unfold f_L_undo f_X9_undo
      rw [if_pos (show V 220 1 = 0 from a2), bh_n]; rfl
    · show f_X10_undo V = _
      unfold f_X10_undo
      rw [lt_U, if_pos (show U0 V 253 1 = 0 by unfold U0; rw [st_e, up_n (by omega), a3]; rfl), sm_th, bd_s, U0_th]; rfl
  · obtain ⟨hx, ok', R'⟩ := HX_undo a4 q
    obtain ⟨V2, e1, R2, w220, w⟩ := cx_take a1 hs8 a2 q hc8 ok' (Rel_lo (V := slt V ((s + 8) % 9)) (V' := fun j => V (20 * ((s + 8) % 9 + 2) + j)) (fun d hd => (slt_lo hd).symm) R')
    refine ⟨nI 0, stv V2 265 0 (nI (c - 1)), nI (c - 1), va_up (stv (U0 (stv V2 265 0 (nI (c - 1)))) 253 1 (nI (c - 1))) 254 (fil (fun j => V 257 (361 * (c - 1) + j)) (V 254) 361), ?_, (mm_undo (W := stv V2 265 0 (nI (c - 1))) (c := c) ?_ q hc8).trans ?_, ?_, fun _ => ?_, ?_⟩
    · unfold f_L_undo f_X9_undo
      rw [if_neg (show ¬ V 220 1 = 0 by rw [a2]; exact nI_ne0 q (by omega)), e1, bv_s, bh_0, w220, up_e]; rfl
    · rw [st_n (by omega), w 253 (by omega) (by omega), a3]
    · rw [st_n (by omega), st_n (by omega), w 257 (by omega) (by omega), w 254 (by omega) (by omega)]
    · rw [vu_n (by omega), st_e, up_n (by omega), U0_4]
    · rw [vu_n (by omega), st_n (by omega), U0_n (by omega), st_e, up_e]
    · generalize hX : va_up (stv (U0 (stv V2 265 0 (nI (c - 1)))) 253 1 (nI (c - 1))) 254 (fil (fun j => V 257 (361 * (c - 1) + j)) (V 254) 361) = X
      have y : ∀ d, d ≠ 253 → d ≠ 254 → d ≠ 265 → X d = V2 d := fun d a b c => by rw [← hX, vu_n b, st_n a, U0_n a, st_n c]
      have y253 : ∀ j, j ≠ 1 → j ≠ 4 → X 253 j = V 253 j := fun j a b => by rw [← hX, vu_n (by omega), st_e, up_n a]; unfold U0; rw [st_e, up_n b, st_n (by omega), w 253 (by omega) (by omega)]
      have y1 : X 253 1 = nI (c - 1) := by rw [← hX, vu_n (by omega), st_e, up_e]
      have y254 : X 254 = fil (fun j => V 257 (361 * (c - 1) + j)) (V 254) 361 := by rw [← hX, vu_e]
      have ag := Agr_fil (f := V 254) ok'
      have z : ∀ d, d ≠ 253 → d ≠ 254 → d ≠ 265 → d ≠ 220 → 20 ≤ d → X d = V d := fun d a b c e f => (y d a b c).trans (w d f e)
      refine ⟨⟨?_, ?_⟩, ⟨c - 1, (s + 8) % 9, ?_, ?_, y1, ?_⟩, ?_, ?_, ?_, ?_, ?_⟩
      · rw [y254]; exact (OK_agr ok' ag).1
      · rw [y254]; exact Rel_agr ok' ag (Rel_lo (fun c hc => y c (by omega) (by omega) (by omega)) R2)
      · rw [y 220 (by omega) (by omega) (by omega), w220, up_n (by omega), up_e]
      · rw [y 220 (by omega) (by omega) (by omega), w220, up_e]
      · rw [z 257 (by omega) (by omega) (by omega) (by omega) (by omega)]
        obtain ⟨b1, b2, b3⟩ := hx
        refine ⟨b1, b2, fun i hi => ⟨(b3 i hi).1, Rel_lo (fun d hd => ?_) (b3 i hi).2⟩⟩
        rw [slt_lo hd, slt_lo hd]
        exact z _ (by omega) (by omega) (by omega) (by omega) (by omega)
      · exact sv.of (by rw [z 248 (by omega) (by omega) (by omega) (by omega) (by omega)]) (y253 0 (by omega) (by omega)) (z 256 (by omega) (by omega) (by omega) (by omega) (by omega)) (fun c a b => z c (by omega) (by omega) (by omega) (by omega) (by omega))
      · exact er.of (z 248 (by omega) (by omega) (by omega) (by omega) (by omega)) (y253 2 (by omega) (by omega)) (y253 3 (by omega) (by omega))
      · exact li.of (y253 6 (by omega) (by omega)) (z 251 (by omega) (by omega) (by omega) (by omega) (by omega)) (z 252 (by omega) (by omega) (by omega) (by omega) (by omega)) (z 261 (by omega) (by omega) (by omega) (by omega) (by omega))
      · exact ip.of (y253 5 (by omega) (by omega)) (z 249 (by omega) (by omega) (by omega) (by omega) (by omega)) (z 250 (by omega) (by omega) (by omega) (by omega) (by omega)) (z 258 (by omega) (by omega) (by omega) (by omega) (by omega))
      · exact co.of (z 262 (by omega) (by omega) (by omega) (by omega) (by omega)) (z 263 (by omega) (by omega) (by omega) (by omega) (by omega))
end QL
