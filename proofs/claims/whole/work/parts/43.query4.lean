/-! PURE, 43: merges and picks looked at beforehand, tags, use -/
section QM
variable {V : Mem} {g : Arr}
/-- two different branches, the same one, or not two -/
theorem pair_or (ok : OKg g) (a d : Int32) : (∃ b o, b < bcn g ∧ o < bcn g ∧ b ≠ o ∧ a = nI b ∧ d = nI o) ∨ (∃ b, b < bcn g ∧ a = nI b ∧ d = nI b) ∨ (Bad a (bcn g) ∨ Bad d (bcn g)) := by
  rcases bra_or ok a with ⟨b, hb, rfl⟩ | hB
  · rcases bra_or ok d with ⟨o, ho, rfl⟩ | hD
    · by_cases q : b = o
      · subst q; exact .inr (.inl ⟨b, hb, rfl, rfl⟩)
      · exact .inl ⟨b, o, hb, ho, q, rfl, rfl⟩
    · exact .inr (.inr (.inr hD))
  · exact .inr (.inr (.inl hB))
theorem mq_am {W : Mem} (ok : OKg (V 254)) (hW : W 254 = V 254) {b o : Nat} (hb : b < bcn (V 254)) (ho : o < bcn (V 254)) (hne : b ≠ o) : f_X10_asksMerge W (nI b) (nI o) = some (nI 1, U0 W) := by
  have h5 := ok_b5 ok
  unfold f_X10_asksMerge
  rw [lt_U, mq_bra ok hW hb, bd_s]
  simp (disch := omega) only [bd_s, bv_s, lt_d, jn_d, om_s, om_n, zl0, zl1, zl2, zl3, zl4, zl5, zl6, zl7, zl8, zl9, zl10, zl11, zl12, zl13, zl16, zl23, zl24, zl26, zl31, zl32, zl35, zl36, zl40, zl42, zl45, zl48, zl57, zl58, zl59, zl60, zl61, zl62, zl63, zl64, zl65, zl78, zl90, zl94, zl97, zl98, zl114, zl122, zl126, zl244, zl290, zl291, zl326, zl335, zl361, zl2527, zl2888, neg1, le_T, le_F, lt_T, lt_F, eq_T, eq_F, m1_ne, m1_ne', m1_lt, m1_le, lt_m1, le_m1, cl_n, ib_T, nI_add, pk_mul, sub_n, add_m1, sub_m1, m1_1, m1_1', pw_d, st_e, st_n, vu_e, vu_n, up_e, up_n, if_true, if_false, true_or, or_true, false_or, or_false, eq_self, reduceCtorEq, not_true_eq_false, not_false_eq_true, mq_bra ok hW ho, U0_4]
theorem mq_am_2 {W : Mem} (ok : OKg (V 254)) (hW : W 254 = V 254) {b : Nat} (hb : b < bcn (V 254)) : f_X10_asksMerge W (nI b) (nI b) = some (nI 0, stv W 253 4 (nI 2)) := by
  unfold f_X10_asksMerge
  rw [lt_U, mq_bra ok hW hb, bd_s]
  simp (disch := omega) only [bd_s, bv_s, lt_d, jn_d, om_s, om_n, zl0, zl1, zl2, zl3, zl4, zl5, zl6, zl7, zl8, zl9, zl10, zl11, zl12, zl13, zl16, zl23, zl24, zl26, zl31, zl32, zl35, zl36, zl40, zl42, zl45, zl48, zl57, zl58, zl59, zl60, zl61, zl62, zl63, zl64, zl65, zl78, zl90, zl94, zl97, zl98, zl114, zl122, zl126, zl244, zl290, zl291, zl326, zl335, zl361, zl2527, zl2888, neg1, le_T, le_F, lt_T, lt_F, eq_T, eq_F, m1_ne, m1_ne', m1_lt, m1_le, lt_m1, le_m1, cl_n, ib_T, nI_add, pk_mul, sub_n, add_m1, sub_m1, m1_1, m1_1', pw_d, st_e, st_n, vu_e, vu_n, up_e, up_n, if_true, if_false, true_or, or_true, false_or, or_false, eq_self, reduceCtorEq, not_true_eq_false, not_false_eq_true, mq_bra ok hW hb, sm_th, U0_th]
theorem mq_am_1 {W : Mem} (ok : OKg (V 254)) (hW : W 254 = V 254) {a d : Int32} (h : Bad a (bcn (V 254)) ∨ Bad d (bcn (V 254))) : f_X10_asksMerge W a d = some (nI 0, stv W 253 4 (nI 1)) := by
  have h5 := ok_b5 ok
  unfold f_X10_asksMerge
  rw [lt_U]
  rcases bra_or ok a with ⟨b, hb, rfl⟩ | hB
  · have q := h.resolve_left (fun q => by
      rcases q with q | q
      · rw [lt_F (by omega) (by omega)] at q; exact q
      · rw [le_F (by omega) (by omega)] at q; exact q)
    rw [mq_bra ok hW hb, bd_s]
    simp (disch := omega) only [bd_s, bv_s, lt_d, jn_d, om_s, om_n, zl0, zl1, zl2, zl3, zl4, zl5, zl6, zl7, zl8, zl9, zl10, zl11, zl12, zl13, zl16, zl23, zl24, zl26, zl31, zl32, zl35, zl36, zl40, zl42, zl45, zl48, zl57, zl58, zl59, zl60, zl61, zl62, zl63, zl64, zl65, zl78, zl90, zl94, zl97, zl98, zl114, zl122, zl126, zl244, zl290, zl291, zl326, zl335, zl361, zl2527, zl2888, neg1, le_T, le_F, lt_T, lt_F, eq_T, eq_F, m1_ne, m1_ne', m1_lt, m1_le, lt_m1, le_m1, cl_n, ib_T, nI_add, pk_mul, sub_n, add_m1, sub_m1, m1_1, m1_1', pw_d, st_e, st_n, vu_e, vu_n, up_e, up_n, if_true, if_false, true_or, or_true, false_or, or_false, eq_self, reduceCtorEq, not_true_eq_false, not_false_eq_true, mq_bra_B ok hW q, sm_th, U0_th]
  · rw [mq_bra_B ok hW hB, bd_s]
    simp (disch := omega) only [bd_s, bv_s, lt_d, jn_d, om_s, om_n, zl0, zl1, zl2, zl3, zl4, zl5, zl6, zl7, zl8, zl9, zl10, zl11, zl12, zl13, zl16, zl23, zl24, zl26, zl31, zl32, zl35, zl36, zl40, zl42, zl45, zl48, zl57, zl58, zl59, zl60, zl61, zl62, zl63, zl64, zl65, zl78, zl90, zl94, zl97, zl98, zl114, zl122, zl126, zl244, zl290, zl291, zl326, zl335, zl361, zl2527, zl2888, neg1, le_T, le_F, lt_T, lt_F, eq_T, eq_F, m1_ne, m1_ne', m1_lt, m1_le, lt_m1, le_m1, cl_n, ib_T, nI_add, pk_mul, sub_n, add_m1, sub_m1, m1_1, m1_1', pw_d, st_e, st_n, vu_e, vu_n, up_e, up_n, if_true, if_false, true_or, or_true, false_or, or_false, eq_self, reduceCtorEq, not_true_eq_false, not_false_eq_true, sm_th, U0_th]
theorem st_conflictCount (I : Inv V) (a d : Int32) : StepR V (f_L_conflictCount V a d) (fun W => f_X10_conflictCount W a d) := by
  obtain ⟨ok, R⟩ := I.1
  rcases pair_or ok a d with ⟨b, o, hb, ho, hne, rfl, rfl⟩ | ⟨b, hb, rfl, rfl⟩ | h
  · refine q_T (r := nI (fb_ct (cfl (V 254) b o) 8)) I ?_ (fun W hW => ?_)
    · unfold f_L_conflictCount f_X9_conflictCount
      rw [cx_rqP ok R hb ho hne, bw_0, cx_cf ok R hb ho, bd_s, bh_0]; rfl
    · obtain ⟨h, k, e⟩ := (sm_conf (V := U0 W) (b := b) (o := o) (mq_ok ok hW) (by rw [U0_254, hW]; exact hb) (by rw [U0_254, hW]; exact ho)).at
      have e : f_X10_conflicts (U0 W) (nI b) (nI o) = some (nI (fb_ct (cfl (U0 W 254) b o) 8), scr (U0 W) h k) := e
      rw [U0_254, hW] at e
      refine ⟨h, k, ?_⟩
      show f_X10_conflictCount W (nI b) (nI o) = _
      unfold f_X10_conflictCount
      rw [mq_am ok hW hb ho hne, bd_s, if_neg (by decide), e, bd_s]
  · refine q_F (code := 2) I (by omega) (by omega) ?_ (fun W hW => ex_sc2 (r := m1) ?_)
    · unfold f_L_conflictCount f_X9_conflictCount
      rw [cx_rqP_2 ok R hb, bw_n, bh_n]; rfl
    · unfold f_X10_conflictCount
      rw [mq_am_2 ok hW hb, bd_s, if_pos (by decide)]; rfl
  · refine q_F (code := 1) I (by omega) (by omega) ?_ (fun W hW => ex_sc2 (r := m1) ?_)
    · unfold f_L_conflictCount f_X9_conflictCount
      rw [cx_rqP_1 ok R h, bw_n, bh_n]; rfl
    · unfold f_X10_conflictCount
      rw [mq_am_1 ok hW h, bd_s, if_pos (by decide)]; rfl
/-- the field of the conflict, by its place; from field 8 - j on, c conflicts before -/
def cfx (g : Arr) (b o : Nat) (a : Int32) : Nat → Nat → Int32
  | 0, _ => m1
  | j + 1, c => if cfl g b o (8 - (j + 1)) then (if nI c = a then nI (8 - (j + 1)) else cfx g b o a j (c + 1)) else cfx g b o a j c
theorem cx_cfx {b o : Nat} {a : Int32} (ok : OKg g) (R : RelS V g) (hb : b < bcn g) (ho : o < bcn g) : f_X8_conflictField V (nI b) (nI o) a = some (cfx g b o a 8 0, V) := by
  unfold f_X8_conflictField
  have key : ∀ (j c n : Nat), j ≤ 8 → j < n → f_X8_conflictField_L6 (nI b) (nI o) a n V (nI c) (nI (8 - j)) = some (cfx g b o a j c, V) := by
    intro j
    induction j with
    | zero =>
      intro c n _ hn
      obtain ⟨n, rfl⟩ : ∃ n', n = n' + 1 := ⟨n - 1, by omega⟩
      rw [f_X8_conflictField_L6.eq_2]
      simp (disch := omega) only [bd_s, bv_s, lt_d, jn_d, om_s, om_n, zl0, zl1, zl2, zl3, zl4, zl5, zl6, zl7, zl8, zl9, zl10, zl11, zl12, zl13, zl16, zl23, zl24, zl26, zl31, zl32, zl35, zl36, zl40, zl42, zl45, zl48, zl57, zl58, zl59, zl60, zl61, zl62, zl63, zl64, zl65, zl78, zl90, zl94, zl97, zl98, zl114, zl122, zl126, zl244, zl290, zl291, zl326, zl335, zl361, zl2527, zl2888, neg1, le_T, le_F, lt_T, lt_F, eq_T, eq_F, m1_ne, m1_ne', m1_lt, m1_le, lt_m1, le_m1, cl_n, ib_T, nI_add, pk_mul, sub_n, add_m1, sub_m1, m1_1, m1_1', pw_d, st_e, st_n, vu_e, vu_n, up_e, up_n, if_true, if_false, true_or, or_true, false_or, or_false, eq_self, reduceCtorEq, not_true_eq_false, not_false_eq_true, cfx, Nat.sub_zero]
    | succ j ih =>
      intro c n hj hn
      obtain ⟨n, rfl⟩ : ∃ n', n = n' + 1 := ⟨n - 1, by omega⟩
      have e := cx_ms ok R hb ho (show 8 - (j + 1) < 8 by omega)
      have i1 := ih (c + 1) n (by omega) (by omega)
      have i0 := ih c n (by omega) (by omega)
      have e8 : 8 - j = 8 - (j + 1) + 1 := by omega
      rw [e8] at i1 i0
      rw [f_X8_conflictField_L6.eq_2, cfx]
      unfold cfl
      rcases mgl_let ok hb ho (show 8 - (j + 1) < 8 by omega) with q | ⟨w, c1, c2, q⟩
      · by_cases q2 : nI c = a
        · simp (disch := omega) only [bd_s, bv_s, lt_d, jn_d, om_s, om_n, zl0, zl1, zl2, zl3, zl4, zl5, zl6, zl7, zl8, zl9, zl10, zl11, zl12, zl13, zl16, zl23, zl24, zl26, zl31, zl32, zl35, zl36, zl40, zl42, zl45, zl48, zl57, zl58, zl59, zl60, zl61, zl62, zl63, zl64, zl65, zl78, zl90, zl94, zl97, zl98, zl114, zl122, zl126, zl244, zl290, zl291, zl326, zl335, zl361, zl2527, zl2888, neg1, le_T, le_F, lt_T, lt_F, eq_T, eq_F, m1_ne, m1_ne', m1_lt, m1_le, lt_m1, le_m1, cl_n, ib_T, nI_add, pk_mul, sub_n, add_m1, sub_m1, m1_1, m1_1', pw_d, st_e, st_n, vu_e, vu_n, up_e, up_n, if_true, if_false, true_or, or_true, false_or, or_false, eq_self, reduceCtorEq, not_true_eq_false, not_false_eq_true, e, q, decide_true, q2]
        · simp (disch := omega) only [bd_s, bv_s, lt_d, jn_d, om_s, om_n, zl0, zl1, zl2, zl3, zl4, zl5, zl6, zl7, zl8, zl9, zl10, zl11, zl12, zl13, zl16, zl23, zl24, zl26, zl31, zl32, zl35, zl36, zl40, zl42, zl45, zl48, zl57, zl58, zl59, zl60, zl61, zl62, zl63, zl64, zl65, zl78, zl90, zl94, zl97, zl98, zl114, zl122, zl126, zl244, zl290, zl291, zl326, zl335, zl361, zl2527, zl2888, neg1, le_T, le_F, lt_T, lt_F, eq_T, eq_F, m1_ne, m1_ne', m1_lt, m1_le, lt_m1, le_m1, cl_n, ib_T, nI_add, pk_mul, sub_n, add_m1, sub_m1, m1_1, m1_1', pw_d, st_e, st_n, vu_e, vu_n, up_e, up_n, if_true, if_false, true_or, or_true, false_or, or_false, eq_self, reduceCtorEq, not_true_eq_false, not_false_eq_true, e, q, decide_true, q2]
          exact i1
      · simp (disch := omega) only [bd_s, bv_s, lt_d, jn_d, om_s, om_n, zl0, zl1, zl2, zl3, zl4, zl5, zl6, zl7, zl8, zl9, zl10, zl11, zl12, zl13, zl16, zl23, zl24, zl26, zl31, zl32, zl35, zl36, zl40, zl42, zl45, zl48, zl57, zl58, zl59, zl60, zl61, zl62, zl63, zl64, zl65, zl78, zl90, zl94, zl97, zl98, zl114, zl122, zl126, zl244, zl290, zl291, zl326, zl335, zl361, zl2527, zl2888, neg1, le_T, le_F, lt_T, lt_F, eq_T, eq_F, m1_ne, m1_ne', m1_lt, m1_le, lt_m1, le_m1, cl_n, ib_T, nI_add, pk_mul, sub_n, add_m1, sub_m1, m1_1, m1_1', pw_d, st_e, st_n, vu_e, vu_n, up_e, up_n, if_true, if_false, true_or, or_true, false_or, or_false, eq_self, reduceCtorEq, not_true_eq_false, not_false_eq_true, e, q, decide_false, Bool.false_eq_true]
        exact i0
  exact key 8 0 FU (Nat.le_refl _) (by decide)
theorem mm_cfx {U : Mem} {b o : Nat} {a : Int32} {jj : Mem → Option (Int32 × Mem)} (ok : OKg (U 254)) (hb : b < bcn (U 254)) (ho : o < bcn (U 254)) : ∃ h k, f_X10_conflictAt_L17 (nI b) (nI o) a jj FU U (nI 0) (nI 0) = if cfx (U 254) b o a 8 0 = m1 then jj (scr U h k) else some (cfx (U 254) b o a 8 0, scr U h k) := by
  have key : ∀ (j c n : Nat) (h k : Arr), j ≤ 8 → j < n → ∃ h2 k2, f_X10_conflictAt_L17 (nI b) (nI o) a jj n (scr U h k) (nI c) (nI (8 - j)) = if cfx (U 254) b o a j c = m1 then jj (scr U h2 k2) else some (cfx (U 254) b o a j c, scr U h2 k2) := by
    intro j
    induction j with
    | zero =>
      intro c n h k _ hn
      obtain ⟨n, rfl⟩ : ∃ n', n = n' + 1 := ⟨n - 1, by omega⟩
      refine ⟨h, k, ?_⟩
      rw [f_X10_conflictAt_L17.eq_2]
      simp (disch := omega) only [bd_s, bv_s, lt_d, jn_d, om_s, om_n, zl0, zl1, zl2, zl3, zl4, zl5, zl6, zl7, zl8, zl9, zl10, zl11, zl12, zl13, zl16, zl23, zl24, zl26, zl31, zl32, zl35, zl36, zl40, zl42, zl45, zl48, zl57, zl58, zl59, zl60, zl61, zl62, zl63, zl64, zl65, zl78, zl90, zl94, zl97, zl98, zl114, zl122, zl126, zl244, zl290, zl291, zl326, zl335, zl361, zl2527, zl2888, neg1, le_T, le_F, lt_T, lt_F, eq_T, eq_F, m1_ne, m1_ne', m1_lt, m1_le, lt_m1, le_m1, cl_n, ib_T, nI_add, pk_mul, sub_n, add_m1, sub_m1, m1_1, m1_1', pw_d, st_e, st_n, vu_e, vu_n, up_e, up_n, if_true, if_false, true_or, or_true, false_or, or_false, eq_self, reduceCtorEq, not_true_eq_false, not_false_eq_true, cfx, Nat.sub_zero]
    | succ j ih =>
      intro c n h k hj hn
      obtain ⟨n, rfl⟩ : ∃ n', n = n' + 1 := ⟨n - 1, by omega⟩
      obtain ⟨h1, k1, e⟩ := sm_merged ok hb ho (show 8 - (j + 1) < 8 by omega) h k
      have e : f_X10_merged (scr U h k) (nI b) (nI o) (nI (8 - (j + 1))) = some (mgl (U 254) b o (8 - (j + 1)), scr U h1 k1) := e
      have e8 : 8 - j = 8 - (j + 1) + 1 := by omega
      rcases mgl_let ok hb ho (show 8 - (j + 1) < 8 by omega) with q | ⟨w, c1, c2, q⟩
      · have ec : cfl (U 254) b o (8 - (j + 1)) = true := by unfold cfl; rw [q]; rfl
        by_cases q2 : nI c = a
        · refine ⟨h1, k1, ?_⟩
          rw [f_X10_conflictAt_L17.eq_2, cfx, ec, if_pos rfl, if_pos q2, if_neg (nI_m1 (by omega))]
          simp (disch := omega) only [bd_s, bv_s, lt_d, jn_d, om_s, om_n, zl0, zl1, zl2, zl3, zl4, zl5, zl6, zl7, zl8, zl9, zl10, zl11, zl12, zl13, zl16, zl23, zl24, zl26, zl31, zl32, zl35, zl36, zl40, zl42, zl45, zl48, zl57, zl58, zl59, zl60, zl61, zl62, zl63, zl64, zl65, zl78, zl90, zl94, zl97, zl98, zl114, zl122, zl126, zl244, zl290, zl291, zl326, zl335, zl361, zl2527, zl2888, neg1, le_T, le_F, lt_T, lt_F, eq_T, eq_F, m1_ne, m1_ne', m1_lt, m1_le, lt_m1, le_m1, cl_n, ib_T, nI_add, pk_mul, sub_n, add_m1, sub_m1, m1_1, m1_1', pw_d, st_e, st_n, vu_e, vu_n, up_e, up_n, if_true, if_false, true_or, or_true, false_or, or_false, eq_self, reduceCtorEq, not_true_eq_false, not_false_eq_true, e, q, q2]
        · obtain ⟨h2, k2, i1⟩ := ih (c + 1) n h1 k1 (by omega) (by omega)
          refine ⟨h2, k2, ?_⟩
          rw [e8] at i1
          rw [f_X10_conflictAt_L17.eq_2, cfx, ec, if_pos rfl, if_neg q2]
          simp (disch := omega) only [bd_s, bv_s, lt_d, jn_d, om_s, om_n, zl0, zl1, zl2, zl3, zl4, zl5, zl6, zl7, zl8, zl9, zl10, zl11, zl12, zl13, zl16, zl23, zl24, zl26, zl31, zl32, zl35, zl36, zl40, zl42, zl45, zl48, zl57, zl58, zl59, zl60, zl61, zl62, zl63, zl64, zl65, zl78, zl90, zl94, zl97, zl98, zl114, zl122, zl126, zl244, zl290, zl291, zl326, zl335, zl361, zl2527, zl2888, neg1, le_T, le_F, lt_T, lt_F, eq_T, eq_F, m1_ne, m1_ne', m1_lt, m1_le, lt_m1, le_m1, cl_n, ib_T, nI_add, pk_mul, sub_n, add_m1, sub_m1, m1_1, m1_1', pw_d, st_e, st_n, vu_e, vu_n, up_e, up_n, if_true, if_false, true_or, or_true, false_or, or_false, eq_self, reduceCtorEq, not_true_eq_false, not_false_eq_true, e, q, q2]
          exact i1
      · have ec : cfl (U 254) b o (8 - (j + 1)) = false := by unfold cfl; rw [q]; exact decide_eq_false (show ¬ nI w = nI 0 from nI_ne0 (by omega) (by omega))
        obtain ⟨h2, k2, i0⟩ := ih c n h1 k1 (by omega) (by omega)
        refine ⟨h2, k2, ?_⟩
        rw [e8] at i0
        rw [f_X10_conflictAt_L17.eq_2, cfx, ec, if_neg Bool.false_ne_true]
        simp (disch := omega) only [bd_s, bv_s, lt_d, jn_d, om_s, om_n, zl0, zl1, zl2, zl3, zl4, zl5, zl6, zl7, zl8, zl9, zl10, zl11, zl12, zl13, zl16, zl23, zl24, zl26, zl31, zl32, zl35, zl36, zl40, zl42, zl45, zl48, zl57, zl58, zl59, zl60, zl61, zl62, zl63, zl64, zl65, zl78, zl90, zl94, zl97, zl98, zl114, zl122, zl126, zl244, zl290, zl291, zl326, zl335, zl361, zl2527, zl2888, neg1, le_T, le_F, lt_T, lt_F, eq_T, eq_F, m1_ne, m1_ne', m1_lt, m1_le, lt_m1, le_m1, cl_n, ib_T, nI_add, pk_mul, sub_n, add_m1, sub_m1, m1_1, m1_1', pw_d, st_e, st_n, vu_e, vu_n, up_e, up_n, if_true, if_false, true_or, or_true, false_or, or_false, eq_self, reduceCtorEq, not_true_eq_false, not_false_eq_true, e, q]
        exact i0
  obtain ⟨h, k, e⟩ := key 8 0 FU (U 259) (U 260) (Nat.le_refl _) (by decide)
  rw [scr_id] at e
  exact ⟨h, k, e⟩
theorem st_conflictAt (I : Inv V) (a d e : Int32) : StepR V (f_L_conflictAt V a d e) (fun W => f_X10_conflictAt W a d e) := by
  obtain ⟨ok, R⟩ := I.1
  rcases pair_or ok a d with ⟨b, o, hb, ho, hne, rfl, rfl⟩ | ⟨b, hb, rfl, rfl⟩ | h
  · have md : ∀ W, W 254 = V 254 → ∃ h k, f_X10_conflictAt W (nI b) (nI o) e = if cfx (V 254) b o e 8 0 = m1 then some (m1, scr (stv W 253 4 (nI 3)) h k) else some (cfx (V 254) b o e 8 0, scr (U0 W) h k) := fun W hW => by
      obtain ⟨h, k, E⟩ := mm_cfx (U := U0 W) (b := b) (o := o) (a := e) (jj := fun (V53 : Mem) => bd (f_X10_throwing V53 3) fun r55 V55 => some (r55, V55)) (mq_ok ok hW) (by rw [U0_254, hW]; exact hb) (by rw [U0_254, hW]; exact ho)
      rw [U0_254, hW] at E
      refine ⟨h, k, ?_⟩
      unfold f_X10_conflictAt
      rw [mq_am ok hW hb ho hne, bd_s, if_neg (by decide), jn_d]
      refine E.trans ?_
      by_cases q : cfx (V 254) b o e 8 0 = m1
      · rw [if_pos q, if_pos q, sm_th, bd_s, scr_s253, U0_th]; rfl
      · rw [if_neg q, if_neg q]
    by_cases q : cfx (V 254) b o e 8 0 = m1
    · refine q_F (code := 3) I (by omega) (by omega) ?_ (fun W hW => ?_)
      · unfold f_L_conflictAt f_X9_conflictAt
        rw [cx_rqP ok R hb ho hne, bw_0, cx_cfx ok R hb ho, bd_s, q, rq_pres_m, bx_n, bh_n]; rfl
      · obtain ⟨h, k, E⟩ := md W hW
        rw [if_pos q] at E
        exact ⟨_, h, k, E⟩
    · refine q_T (r := cfx (V 254) b o e 8 0) I ?_ (fun W hW => ?_)
      · unfold f_L_conflictAt f_X9_conflictAt
        rw [cx_rqP ok R hb ho hne, bw_0, cx_cfx ok R hb ho, bd_s, rq_pres _ q, bx_0, bh_0]; rfl
      · obtain ⟨h, k, E⟩ := md W hW
        rw [if_neg q] at E
        exact ⟨h, k, E⟩
  · refine q_F (code := 2) I (by omega) (by omega) ?_ (fun W hW => ex_sc2 (r := m1) ?_)
    · unfold f_L_conflictAt f_X9_conflictAt
      rw [cx_rqP_2 ok R hb, bw_n, bh_n]; rfl
    · unfold f_X10_conflictAt
      rw [mq_am_2 ok hW hb, bd_s, if_pos (by decide)]; rfl
  · refine q_F (code := 1) I (by omega) (by omega) ?_ (fun W hW => ex_sc2 (r := m1) ?_)
    · unfold f_L_conflictAt f_X9_conflictAt
      rw [cx_rqP_1 ok R h, bw_n, bh_n]; rfl
    · unfold f_X10_conflictAt
      rw [mq_am_1 ok hW h, bd_s, if_pos (by decide)]; rfl
theorem st_canMerge (I : Inv V) (a d : Int32) : StepR V (f_L_canMerge V a d) (fun W => f_X10_canMerge W a d) := by
  obtain ⟨ok, R⟩ := I.1
  rcases pair_or ok a d with ⟨b, o, hb, ho, hne, rfl, rfl⟩ | ⟨b, hb, rfl, rfl⟩ | h
  · have h8 : fb_ct (cfl (V 254) b o) 8 ≤ 8 := fb_ct_le _ 8
    by_cases q : mayC (V 254) b o
    · refine q_T (r := nI 1) I ?_ (fun W hW => ?_)
      · unfold f_L_canMerge f_X9_canMerge
        rw [cx_rqP ok R hb ho hne, bw_0, (cx_rMrg ok R hb ho hne).1 q, bd_s, if_pos (by decide), if_pos rfl, bh_0]; rfl
      · obtain ⟨h, k, e⟩ := (mm_may (V := U0 W) (b := b) (o := o) (mq_ok ok hW) (by rw [U0_254, hW]; exact hb) (by rw [U0_254, hW]; exact ho)).1 (by rw [U0_254, hW]; exact q.1)
        obtain ⟨h2, k2, e2⟩ := sm_conf (V := U0 W) (b := b) (o := o) (mq_ok ok hW) (by rw [U0_254, hW]; exact hb) (by rw [U0_254, hW]; exact ho) h k
        have e2 : f_X10_conflicts (scr (U0 W) h k) (nI b) (nI o) = some (nI (fb_ct (cfl (U0 W 254) b o) 8), scr (U0 W) h2 k2) := e2
        rw [U0_254, hW, q.2] at e2
        refine ⟨h2, k2, ?_⟩
        show f_X10_canMerge W (nI b) (nI o) = _
        unfold f_X10_canMerge
        rw [mq_am ok hW hb ho hne, bd_s, if_neg (by decide), e, bd_s, if_neg (by decide), e2, bd_s, if_pos (by decide)]; rfl
    · refine q_T (r := nI 0) I ?_ (fun W hW => ?_)
      · unfold f_L_canMerge f_X9_canMerge
        rw [cx_rqP ok R hb ho hne, bw_0, (cx_rMrg ok R hb ho hne).2 q, bd_s, if_pos (by decide), if_neg (by decide), bh_0]; rfl
      · by_cases z : mayM (V 254) b o
        · have y : ¬ fb_ct (cfl (V 254) b o) 8 = 0 := fun y => q ⟨z, y⟩
          obtain ⟨h, k, e⟩ := (mm_may (V := U0 W) (b := b) (o := o) (mq_ok ok hW) (by rw [U0_254, hW]; exact hb) (by rw [U0_254, hW]; exact ho)).1 (by rw [U0_254, hW]; exact z)
          obtain ⟨h2, k2, e2⟩ := sm_conf (V := U0 W) (b := b) (o := o) (mq_ok ok hW) (by rw [U0_254, hW]; exact hb) (by rw [U0_254, hW]; exact ho) h k
          have e2 : f_X10_conflicts (scr (U0 W) h k) (nI b) (nI o) = some (nI (fb_ct (cfl (U0 W 254) b o) 8), scr (U0 W) h2 k2) := e2
          rw [U0_254, hW] at e2
          refine ⟨h2, k2, ?_⟩
          show f_X10_canMerge W (nI b) (nI o) = _
          unfold f_X10_canMerge
          rw [mq_am ok hW hb ho hne, bd_s, if_neg (by decide), e, bd_s, if_neg (by decide), e2, bd_s, if_neg (nI_ne0 (by omega) (by omega))]; rfl
        · obtain ⟨h, k, e⟩ := (mm_may (V := U0 W) (b := b) (o := o) (mq_ok ok hW) (by rw [U0_254, hW]; exact hb) (by rw [U0_254, hW]; exact ho)).2 (by rw [U0_254, hW]; exact z)
          refine ⟨h, k, ?_⟩
          show f_X10_canMerge W (nI b) (nI o) = _
          unfold f_X10_canMerge
          rw [mq_am ok hW hb ho hne, bd_s, if_neg (by decide), e, bd_s, if_pos (by decide)]; rfl
  · refine q_F (code := 2) I (by omega) (by omega) ?_ (fun W hW => ex_sc2 (r := nI 0) ?_)
    · unfold f_L_canMerge f_X9_canMerge
      rw [cx_rqP_2 ok R hb, bw_n, bh_n]; rfl
    · unfold f_X10_canMerge
      rw [mq_am_2 ok hW hb, bd_s, if_pos (by decide)]; rfl
  · refine q_F (code := 1) I (by omega) (by omega) ?_ (fun W hW => ex_sc2 (r := nI 0) ?_)
    · unfold f_L_canMerge f_X9_canMerge
      rw [cx_rqP_1 ok R h, bw_n, bh_n]; rfl
    · unfold f_X10_canMerge
      rw [mq_am_1 ok hW h, bd_s, if_pos (by decide)]; rfl
theorem st_mergedLetter (I : Inv V) (a d e : Int32) : StepR V (f_L_mergedLetter V a d e) (fun W => f_X10_mergedLetter W a d e) := by
  obtain ⟨ok, R⟩ := I.1
  have h5 := ok_b5 ok
  have th : ∀ W x, f_X10_throwing (U0 W) x = some (m1, stv W 253 4 x) := fun W x => by rw [sm_th, U0_th]
  rcases bad_or e (show 8 < 2 ^ 31 by omega) with ⟨f, hf, rfl⟩ | hF
  · rcases pair_or ok a d with ⟨b, o, hb, ho, hne, rfl, rfl⟩ | ⟨b, hb, rfl, rfl⟩ | h
    · have em := cx_ms ok R hb ho hf
      have md : ∀ W, W 254 = V 254 → ∃ h k, f_X10_merged (U0 W) (nI b) (nI o) (nI f) = some (mgl (V 254) b o f, scr (U0 W) h k) := fun W hW => by
        obtain ⟨h, k, E⟩ := (sm_merged (V := U0 W) (b := b) (o := o) (f := f) (mq_ok ok hW) (by rw [U0_254, hW]; exact hb) (by rw [U0_254, hW]; exact ho) hf).at
        have E : f_X10_merged (U0 W) (nI b) (nI o) (nI f) = some (mgl (U0 W 254) b o f, scr (U0 W) h k) := E
        rw [U0_254, hW] at E
        exact ⟨h, k, E⟩
      rcases mgl_let ok hb ho hf with q | q
      · refine q_F (code := 3) I (by omega) (by omega) ?_ (fun W hW => ?_)
        · unfold f_L_mergedLetter f_X9_mergedLetter
          rw [cx_rqF hf, bw_0, cx_rqP ok R hb ho hne, bw_0, em, bd_s, if_pos (by rw [if_pos q]; rfl), bh_n]; rfl
        · obtain ⟨h, k, E⟩ := md W hW
          refine ⟨(m1.toUInt32 % 65536).toInt32, h, k, ?_⟩
          unfold f_X10_mergedLetter
          rw [lt_U, mq_bra ok hW hb, bd_s, jn_d, if_neg (by decide), mq_bra ok hW ho, bd_s, if_neg (by decide), sm_isFld_T hf, bd_s, if_neg (by decide), if_neg (by rw [eq_F hne (by omega) (by omega)]; exact id), E, bd_s, if_pos (show mgl (V 254) b o f = 0 from q), sm_th, bd_s, scr_s253, U0_th]; rfl
      · have hl := ch_let q
        obtain ⟨w, c1, c2, q⟩ := q
        have n0 : ¬ mgl (V 254) b o f = nI 0 := by rw [q]; exact nI_ne0 (by omega) (by omega)
        refine q_T (r := mgl (V 254) b o f) I ?_ (fun W hW => ?_)
        · unfold f_L_mergedLetter f_X9_mergedLetter
          rw [cx_rqF hf, bw_0, cx_rqP ok R hb ho hne, bw_0, em, bd_s, if_neg n0, if_neg (by rw [q, zl63, eq_F (by omega) (by omega) (by omega)]; exact id), hl, bh_0]; rfl
        · obtain ⟨h, k, E⟩ := md W hW
          refine ⟨h, k, ?_⟩
          show f_X10_mergedLetter W (nI b) (nI o) (nI f) = _
          unfold f_X10_mergedLetter
          rw [lt_U, mq_bra ok hW hb, bd_s, jn_d, if_neg (by decide), mq_bra ok hW ho, bd_s, if_neg (by decide), sm_isFld_T hf, bd_s, if_neg (by decide), if_neg (by rw [eq_F hne (by omega) (by omega)]; exact id), E, bd_s, if_neg (show ¬ mgl (V 254) b o f = 0 from n0), hl]
    · refine q_F (code := 2) I (by omega) (by omega) ?_ (fun W hW => ex_sc2 (r := (m1.toUInt32 % 65536).toInt32) ?_)
      · unfold f_L_mergedLetter f_X9_mergedLetter
        rw [cx_rqF hf, bw_0, cx_rqP_2 ok R hb, bw_n, bh_n]; rfl
      · unfold f_X10_mergedLetter
        rw [lt_U, mq_bra ok hW hb, bd_s, jn_d, if_neg (by decide), mq_bra ok hW hb, bd_s, if_neg (by decide), sm_isFld_T hf, bd_s, if_neg (by decide), if_pos rfl, th, bd_s]; rfl
    · refine q_F (code := 1) I (by omega) (by omega) ?_ (fun W hW => ex_sc2 (r := (m1.toUInt32 % 65536).toInt32) ?_)
      · unfold f_L_mergedLetter f_X9_mergedLetter
        rw [cx_rqF hf, bw_0, cx_rqP_1 ok R h, bw_n, bh_n]; rfl
      · unfold f_X10_mergedLetter
        rw [lt_U]
        rcases bra_or ok a with ⟨b, hb, rfl⟩ | hB
        · have q := h.resolve_left (fun q => by
            rcases q with q | q
            · rw [lt_F (by omega) (by omega)] at q; exact q
            · rw [le_F (by omega) (by omega)] at q; exact q)
          rw [mq_bra ok hW hb, bd_s, jn_d, if_neg (by decide), mq_bra_B ok hW q, bd_s, if_pos (by decide)]
          show bd (f_X10_throwing (U0 W) 1) _ = _
          rw [th, bd_s]; rfl
        · rw [mq_bra_B ok hW hB, bd_s, jn_d, if_pos (by decide)]
          show bd (f_X10_throwing (U0 W) 1) _ = _
          rw [th, bd_s]; rfl
  · refine q_F (code := 1) I (by omega) (by omega) ?_ (fun W hW => ex_sc2 (r := (m1.toUInt32 % 65536).toInt32) ?_)
    · unfold f_L_mergedLetter f_X9_mergedLetter
      rw [cx_rqF_B hF, bw_n, bh_n]; rfl
    · unfold f_X10_mergedLetter
      rw [lt_U]
      rcases bra_or ok a with ⟨b, hb, rfl⟩ | hB
      · rw [mq_bra ok hW hb, bd_s, jn_d, if_neg (by decide)]
        rcases bra_or ok d with ⟨o, ho, rfl⟩ | hD
        · rw [mq_bra ok hW ho, bd_s, if_neg (by decide), sm_isFld_F hF, bd_s, if_pos (by decide)]
          show bd (f_X10_throwing (U0 W) 1) _ = _
          rw [th, bd_s]; rfl
        · rw [mq_bra_B ok hW hD, bd_s, if_pos (by decide)]
          show bd (f_X10_throwing (U0 W) 1) _ = _
          rw [th, bd_s]; rfl
      · rw [mq_bra_B ok hW hB, bd_s, jn_d, if_pos (by decide)]
        show bd (f_X10_throwing (U0 W) 1) _ = _
        rw [th, bd_s]; rfl
theorem st_canPick (I : Inv V) (a d : Int32) : StepR V (f_L_canPick V a d) (fun W => f_X10_canPick W a d) := by
  obtain ⟨ok, R⟩ := I.1
  have h5 := ok_b5 ok
  have hc := ok_c24 ok
  have th : ∀ W x, f_X10_throwing (U0 W) x = some (m1, stv W 253 4 x) := fun W x => by rw [sm_th, U0_th]
  rcases bra_or ok a with ⟨b, hb, rfl⟩ | hB
  · rcases rev_or ok d with ⟨r, hr, rfl⟩ | hD
    · have mdl : ∀ W, W 254 = V 254 → f_X10_canPick W (nI b) (nI r) = (if nI r ≤ (0 : Int32) then some (0, U0 W) else bd (f_X10_isOpen (U0 W) (nI r)) fun r49 V49 => if r49 = 0 then some (0, V49) else bd (f_X10_mayPick V49 (nI b) (nI r)) fun r58 V58 => if r58 = 0 then some (0, V58) else some (1, V58)) := fun W hW => by
        unfold f_X10_canPick
        rw [lt_U, mq_bra ok hW hb, bd_s, jn_d, if_neg (by decide), mq_rev ok hW hr, bd_s, if_neg (by decide)]
        show (if U0 W 253 4 = 0 then _ else _) = _
        rw [if_pos (show U0 W 253 4 = 0 from U0_4)]
      have e254 : ∀ W, W 254 = V 254 → U0 W 254 = V 254 := fun W hW => by rw [U0_254, hW]
      by_cases ha : arc (V 254) r
      · refine q_T (r := nI 0) I ?_ (fun W hW => ex_sc ?_)
        · unfold f_L_canPick f_X9_canPick
          rw [cx_rqB ok R hb, bw_0, cx_rqR ok R hr, bw_0, cx_rPk_2 ok R hb (.inr ⟨r, rfl, hr, ha⟩), bd_s, if_pos (by decide), if_neg (by decide), bh_0]; rfl
        · show f_X10_canPick W (nI b) (nI r) = _
          rw [mdl W hW]
          split
          · rfl
          · rw [sm_isOpen_F (mq_ok ok hW) (by rw [e254 W hW]; exact hr) (by rw [e254 W hW]; exact ha), bd_s, if_pos (by decide)]; rfl
      · by_cases q : r = 0 ∨ 0 < fb_ct (pkb (V 254) b r) 8
        · refine q_T (r := nI 0) I ?_ (fun W hW => ex_sc ?_)
          · unfold f_L_canPick f_X9_canPick
            rw [cx_rqB ok R hb, bw_0, cx_rqR ok R hr, bw_0, cx_rPk_3 ok R hb hr ha q, bd_s, if_pos (by decide), if_neg (by decide), bh_0]; rfl
          · show f_X10_canPick W (nI b) (nI r) = _
            rw [mdl W hW]
            by_cases z : r = 0
            · subst z; rw [if_pos (by decide)]; rfl
            · have y : ¬ fb_ct (pkb (V 254) b r) 8 = 0 := by have := q.resolve_left z; omega
              rw [if_neg (show ¬ nI r ≤ 0 from nI_nle (by omega) (by omega)), sm_isOpen_T (mq_ok ok hW) (by rw [e254 W hW]; exact hr) (by rw [e254 W hW]; exact ha), bd_s, if_neg (by decide), mm_mayP (mq_ok ok hW) (by rw [e254 W hW]; exact hb) (by rw [e254 W hW]; exact hr) (by omega), bd_s, e254 W hW, if_neg y, if_pos (by decide)]; rfl
        · have z : 0 < r := by
            rcases Nat.eq_zero_or_pos r with z | z
            · exact absurd (.inl z) q
            · exact z
          have y : fb_ct (pkb (V 254) b r) 8 = 0 := by
            rcases Nat.eq_zero_or_pos (fb_ct (pkb (V 254) b r) 8) with y | y
            · exact y
            · exact absurd (.inr y) q
          refine q_T (r := nI 1) I ?_ (fun W hW => ex_sc ?_)
          · unfold f_L_canPick f_X9_canPick
            rw [cx_rqB ok R hb, bw_0, cx_rqR ok R hr, bw_0, cx_rPk ok R hb hr ha z y, bd_s, if_pos (by decide), if_pos rfl, bh_0]; rfl
          · show f_X10_canPick W (nI b) (nI r) = _
            rw [mdl W hW, if_neg (show ¬ nI r ≤ 0 from nI_nle z (by omega)), sm_isOpen_T (mq_ok ok hW) (by rw [e254 W hW]; exact hr) (by rw [e254 W hW]; exact ha), bd_s, if_neg (by decide), mm_mayP (mq_ok ok hW) (by rw [e254 W hW]; exact hb) (by rw [e254 W hW]; exact hr) z, bd_s, e254 W hW, if_pos y, if_neg (by decide)]; rfl
    · refine q_F (code := 2) I (by omega) (by omega) ?_ (fun W hW => ex_sc2 (r := nI 0) ?_)
      · unfold f_L_canPick f_X9_canPick
        rw [cx_rqB ok R hb, bw_0, cx_rqR_B ok R hD, bw_n, bh_n]; rfl
      · unfold f_X10_canPick
        rw [lt_U, mq_bra ok hW hb, bd_s, jn_d, if_neg (by decide), mq_rev_B ok hW hD, bd_s, if_pos (by decide), th, bd_s]
        show (if stv W 253 4 2 253 4 = 0 then _ else _) = _
        rw [st_e, up_e, if_neg (by decide)]; rfl
  · refine q_F (code := 1) I (by omega) (by omega) ?_ (fun W hW => ex_sc2 (r := nI 0) ?_)
    · unfold f_L_canPick f_X9_canPick
      rw [cx_rqB_B ok R hB, bw_n, bh_n]; rfl
    · unfold f_X10_canPick
      rw [lt_U, mq_bra_B ok hW hB, bd_s, jn_d, if_pos (by decide), th, bd_s]
      show (if stv W 253 4 1 253 4 = 0 then _ else _) = _
      rw [st_e, up_e, if_neg (by decide)]; rfl
end QM
