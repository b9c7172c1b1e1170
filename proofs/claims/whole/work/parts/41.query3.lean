/-! PURE, 41: counts, authors, branches -/
section QH
variable {V : Mem} {g : Arr}
theorem st_revisionCount (I : Inv V) : StepD V (f_X9_revisionCount V) (fun W => f_X10_revisionCount W) := by
  obtain ⟨ok, R⟩ := I.1
  refine q_D (r := V 254 0) I ?_ (ex_sc ?_)
  · unfold f_X9_revisionCount; rw [rl_n R]
  · unfold f_X10_revisionCount
    rw [lt_U, if_pos (by decide), show (0 : Int32).toNatClampNeg = 0 by decide, U0_254]
theorem st_branchCount (I : Inv V) : StepD V (f_X9_branchCount V) (fun W => f_X10_branchCount W) := by
  obtain ⟨ok, R⟩ := I.1
  refine q_D (r := V 254 1) I ?_ (ex_sc ?_)
  · unfold f_X9_branchCount; rw [rl_b R]
  · unfold f_X10_branchCount
    rw [lt_U, if_pos (by decide), show (1 : Int32).toNatClampNeg = 1 by decide, U0_254]
/-! authors -/
def mby (g : Arr) (a : Int32) : Nat := fb_ct (fun r => decide (g (2 + 12 * r + 2) = a)) (cnt g)
theorem mby_le (g : Arr) (a : Int32) : mby g a ≤ cnt g := fb_ct_le _ _
theorem cx_mby {a : Int32} (ok : OKg g) (R : RelS V g) : f_X6_countBy V a = some (nI (mby g a), V) := by
  have hc := ok_c24 ok
  unfold f_X6_countBy mby
  refine lp_run (cnt g) (fun n k => f_X6_countBy_L4 a n V (nI (fb_ct (fun r => decide (g (2 + 12 * r + 2) = a)) k)) (nI k)) _ ?_ ?_ (n := FU) (k := 0) (by omega) (by unfold FU; omega)
  · intro n
    rw [f_X6_countBy_L4.eq_2]
    simp (disch := omega) only [bd_s, bv_s, lt_d, jn_d, om_s, om_n, zl0, zl1, zl2, zl3, zl4, zl5, zl6, zl7, zl8, zl9, zl10, zl11, zl12, zl13, zl16, zl23, zl24, zl26, zl31, zl32, zl35, zl36, zl40, zl42, zl45, zl48, zl57, zl58, zl59, zl60, zl61, zl62, zl63, zl64, zl65, zl78, zl90, zl94, zl97, zl98, zl114, zl122, zl126, zl244, zl290, zl291, zl326, zl335, zl361, zl2527, zl2888, neg1, le_T, le_F, lt_T, lt_F, eq_T, eq_F, m1_ne, m1_ne', m1_lt, m1_le, lt_m1, le_m1, cl_n, ib_T, nI_add, pk_mul, sub_n, add_m1, sub_m1, m1_1, m1_1', pw_d, st_e, st_n, vu_e, vu_n, up_e, up_n, if_true, if_false, true_or, or_true, false_or, or_false, eq_self, reduceCtorEq, not_true_eq_false, not_false_eq_true, rl_n R, ok_cnt ok]
  · intro n k hk
    rw [f_X6_countBy_L4.eq_2, fb_ct_succ]
    by_cases q : g (2 + 12 * k + 2) = a
    · simp (disch := omega) only [bd_s, bv_s, lt_d, jn_d, om_s, om_n, zl0, zl1, zl2, zl3, zl4, zl5, zl6, zl7, zl8, zl9, zl10, zl11, zl12, zl13, zl16, zl23, zl24, zl26, zl31, zl32, zl35, zl36, zl40, zl42, zl45, zl48, zl57, zl58, zl59, zl60, zl61, zl62, zl63, zl64, zl65, zl78, zl90, zl94, zl97, zl98, zl114, zl122, zl126, zl244, zl290, zl291, zl326, zl335, zl361, zl2527, zl2888, neg1, le_T, le_F, lt_T, lt_F, eq_T, eq_F, m1_ne, m1_ne', m1_lt, m1_le, lt_m1, le_m1, cl_n, ib_T, nI_add, pk_mul, sub_n, add_m1, sub_m1, m1_1, m1_1', pw_d, st_e, st_n, vu_e, vu_n, up_e, up_n, if_true, if_false, true_or, or_true, false_or, or_false, eq_self, reduceCtorEq, not_true_eq_false, not_false_eq_true, rl_n R, ok_cnt ok, cx_wr ok R hk, q, decide_true]
    · simp (disch := omega) only [bd_s, bv_s, lt_d, jn_d, om_s, om_n, zl0, zl1, zl2, zl3, zl4, zl5, zl6, zl7, zl8, zl9, zl10, zl11, zl12, zl13, zl16, zl23, zl24, zl26, zl31, zl32, zl35, zl36, zl40, zl42, zl45, zl48, zl57, zl58, zl59, zl60, zl61, zl62, zl63, zl64, zl65, zl78, zl90, zl94, zl97, zl98, zl114, zl122, zl126, zl244, zl290, zl291, zl326, zl335, zl361, zl2527, zl2888, neg1, le_T, le_F, lt_T, lt_F, eq_T, eq_F, m1_ne, m1_ne', m1_lt, m1_le, lt_m1, le_m1, cl_n, ib_T, nI_add, pk_mul, sub_n, add_m1, sub_m1, m1_1, m1_1', pw_d, st_e, st_n, vu_e, vu_n, up_e, up_n, if_true, if_false, true_or, or_true, false_or, or_false, eq_self, reduceCtorEq, not_true_eq_false, not_false_eq_true, rl_n R, ok_cnt ok, cx_wr ok R hk, q, decide_false, Bool.false_eq_true, Nat.add_zero]
theorem mm_mby {U : Mem} {a : Int32} (ok : OKg (U 254)) : f_X10_manyBy U a = some (nI (mby (U 254) a), U) := by
  have hc := ok_c24 ok
  unfold f_X10_manyBy mby
  refine lp_run (cnt (U 254)) (fun n k => f_X10_manyBy_L4 a n U (nI (fb_ct (fun r => decide (U 254 (2 + 12 * r + 2) = a)) k)) (nI k)) _ ?_ ?_ (n := FU) (k := 0) (by omega) (by unfold FU; omega)
  · intro n
    rw [f_X10_manyBy_L4.eq_2]
    simp (disch := omega) only [bd_s, bv_s, lt_d, jn_d, om_s, om_n, zl0, zl1, zl2, zl3, zl4, zl5, zl6, zl7, zl8, zl9, zl10, zl11, zl12, zl13, zl16, zl23, zl24, zl26, zl31, zl32, zl35, zl36, zl40, zl42, zl45, zl48, zl57, zl58, zl59, zl60, zl61, zl62, zl63, zl64, zl65, zl78, zl90, zl94, zl97, zl98, zl114, zl122, zl126, zl244, zl290, zl291, zl326, zl335, zl361, zl2527, zl2888, neg1, le_T, le_F, lt_T, lt_F, eq_T, eq_F, m1_ne, m1_ne', m1_lt, m1_le, lt_m1, le_m1, cl_n, ib_T, nI_add, pk_mul, sub_n, add_m1, sub_m1, m1_1, m1_1', pw_d, st_e, st_n, vu_e, vu_n, up_e, up_n, if_true, if_false, true_or, or_true, false_or, or_false, eq_self, reduceCtorEq, not_true_eq_false, not_false_eq_true, ok_cnt ok]
  · intro n k hk
    rw [f_X10_manyBy_L4.eq_2, fb_ct_succ]
    by_cases q : U 254 (2 + 12 * k + 2) = a
    · simp (disch := omega) only [bd_s, bv_s, lt_d, jn_d, om_s, om_n, zl0, zl1, zl2, zl3, zl4, zl5, zl6, zl7, zl8, zl9, zl10, zl11, zl12, zl13, zl16, zl23, zl24, zl26, zl31, zl32, zl35, zl36, zl40, zl42, zl45, zl48, zl57, zl58, zl59, zl60, zl61, zl62, zl63, zl64, zl65, zl78, zl90, zl94, zl97, zl98, zl114, zl122, zl126, zl244, zl290, zl291, zl326, zl335, zl361, zl2527, zl2888, neg1, le_T, le_F, lt_T, lt_F, eq_T, eq_F, m1_ne, m1_ne', m1_lt, m1_le, lt_m1, le_m1, cl_n, ib_T, nI_add, pk_mul, sub_n, add_m1, sub_m1, m1_1, m1_1', pw_d, st_e, st_n, vu_e, vu_n, up_e, up_n, if_true, if_false, true_or, or_true, false_or, or_false, eq_self, reduceCtorEq, not_true_eq_false, not_false_eq_true, ok_cnt ok, sm_revAt, q, decide_true]
    · simp (disch := omega) only [bd_s, bv_s, lt_d, jn_d, om_s, om_n, zl0, zl1, zl2, zl3, zl4, zl5, zl6, zl7, zl8, zl9, zl10, zl11, zl12, zl13, zl16, zl23, zl24, zl26, zl31, zl32, zl35, zl36, zl40, zl42, zl45, zl48, zl57, zl58, zl59, zl60, zl61, zl62, zl63, zl64, zl65, zl78, zl90, zl94, zl97, zl98, zl114, zl122, zl126, zl244, zl290, zl291, zl326, zl335, zl361, zl2527, zl2888, neg1, le_T, le_F, lt_T, lt_F, eq_T, eq_F, m1_ne, m1_ne', m1_lt, m1_le, lt_m1, le_m1, cl_n, ib_T, nI_add, pk_mul, sub_n, add_m1, sub_m1, m1_1, m1_1', pw_d, st_e, st_n, vu_e, vu_n, up_e, up_n, if_true, if_false, true_or, or_true, false_or, or_false, eq_self, reduceCtorEq, not_true_eq_false, not_false_eq_true, ok_cnt ok, sm_revAt, q, decide_false, Bool.false_eq_true, Nat.add_zero]
theorem st_revisionsBy (I : Inv V) (a : Int32) : StepR V (f_L_revisionsBy V a) (fun W => f_X10_revisionsBy W a) := by
  obtain ⟨ok, R⟩ := I.1
  rcases bad_or a (show 10 < 2 ^ 31 by omega) with ⟨w, hw, rfl⟩ | hB
  · refine q_T (r := nI (mby (V 254) (nI w))) I ?_ (fun W hW => ex_sc ?_)
    · unfold f_L_revisionsBy f_X9_revisionsBy
      rw [sx_isAuthor hw, bd_s, if_neg (by decide), cx_mby ok R, bd_s, bh_0]; rfl
    · show f_X10_revisionsBy W (nI w) = _
      unfold f_X10_revisionsBy
      rw [lt_U, sm_in_T (U0 W) (A := (nI w).toInt64) (B := 0) (C := 9) rfl w0 w9 (nI_le (Nat.zero_le w) (by omega)) (nI_le (show w ≤ 9 by omega) (by omega)), bd_s, if_neg (by decide), mm_mby (mq_ok ok hW), bd_s, U0_254, hW]
  · refine q_F (code := 1) I (by omega) (by omega) ?_ (fun W hW => ex_sc2 (r := m1) ?_)
    · unfold f_L_revisionsBy f_X9_revisionsBy
      rw [sx_isAuthor_B hB, bd_s, if_pos (by decide), bh_n]; rfl
    · unfold f_X10_revisionsBy
      rw [lt_U, sm_in_F (U0 W) (A := a.toInt64) (B := 0) (C := 9) rfl w0 w9' (bad_in (by omega) (by omega) hB), bd_s, if_pos (by decide), sm_th, bd_s, U0_th]; rfl
def bzy (g : Arr) : Nat → Nat
  | 0 => 0
  | k + 1 => if mby g (nI (k + 1)) ≤ mby g (nI (bzy g k)) then bzy g k else k + 1
theorem bzy_le (g : Arr) : ∀ k, bzy g k ≤ k
  | 0 => Nat.le_refl _
  | k + 1 => by
    have := bzy_le g k
    unfold bzy
    split <;> omega
theorem st_busiestAuthor (I : Inv V) : StepD V (f_X9_busiestAuthor V) (fun W => f_X10_busiestAuthor W) := by
  obtain ⟨ok, R⟩ := I.1
  have hc := ok_c24 ok
  have hm := fun a => mby_le (V 254) a
  refine q_D (r := nI (bzy (V 254) 9)) I ?_ (ex_sc ?_)
  · unfold f_X9_busiestAuthor
    refine lp_run 9 (fun n k => f_X9_busiestAuthor_L4 n V (nI (bzy (V 254) k)) (nI (k + 1))) _ ?_ ?_ (n := FU) (k := 0) (by omega) (by decide)
    · intro n
      rw [f_X9_busiestAuthor_L4.eq_2]
      simp (disch := omega) only [bd_s, bv_s, lt_d, jn_d, om_s, om_n, zl0, zl1, zl2, zl3, zl4, zl5, zl6, zl7, zl8, zl9, zl10, zl11, zl12, zl13, zl16, zl23, zl24, zl26, zl31, zl32, zl35, zl36, zl40, zl42, zl45, zl48, zl57, zl58, zl59, zl60, zl61, zl62, zl63, zl64, zl65, zl78, zl90, zl94, zl97, zl98, zl114, zl122, zl126, zl244, zl290, zl291, zl326, zl335, zl361, zl2527, zl2888, neg1, le_T, le_F, lt_T, lt_F, eq_T, eq_F, m1_ne, m1_ne', m1_lt, m1_le, lt_m1, le_m1, cl_n, ib_T, nI_add, pk_mul, sub_n, add_m1, sub_m1, m1_1, m1_1', pw_d, st_e, st_n, vu_e, vu_n, up_e, up_n, if_true, if_false, true_or, or_true, false_or, or_false, eq_self, reduceCtorEq, not_true_eq_false, not_false_eq_true]
    · intro n k hk
      have h1 := hm (nI (k + 1))
      have h2 := hm (nI (bzy (V 254) k))
      rw [f_X9_busiestAuthor_L4.eq_2, show bzy (V 254) (k + 1) = if mby (V 254) (nI (k + 1)) ≤ mby (V 254) (nI (bzy (V 254) k)) then bzy (V 254) k else k + 1 from rfl]
      by_cases q : mby (V 254) (nI (k + 1)) ≤ mby (V 254) (nI (bzy (V 254) k))
      · rw [if_pos q]
        simp (disch := omega) only [bd_s, bv_s, lt_d, jn_d, om_s, om_n, zl0, zl1, zl2, zl3, zl4, zl5, zl6, zl7, zl8, zl9, zl10, zl11, zl12, zl13, zl16, zl23, zl24, zl26, zl31, zl32, zl35, zl36, zl40, zl42, zl45, zl48, zl57, zl58, zl59, zl60, zl61, zl62, zl63, zl64, zl65, zl78, zl90, zl94, zl97, zl98, zl114, zl122, zl126, zl244, zl290, zl291, zl326, zl335, zl361, zl2527, zl2888, neg1, le_T, le_F, lt_T, lt_F, eq_T, eq_F, m1_ne, m1_ne', m1_lt, m1_le, lt_m1, le_m1, cl_n, ib_T, nI_add, pk_mul, sub_n, add_m1, sub_m1, m1_1, m1_1', pw_d, st_e, st_n, vu_e, vu_n, up_e, up_n, if_true, if_false, true_or, or_true, false_or, or_false, eq_self, reduceCtorEq, not_true_eq_false, not_false_eq_true, cx_mby ok R]
      · rw [if_neg q]
        simp (disch := omega) only [bd_s, bv_s, lt_d, jn_d, om_s, om_n, zl0, zl1, zl2, zl3, zl4, zl5, zl6, zl7, zl8, zl9, zl10, zl11, zl12, zl13, zl16, zl23, zl24, zl26, zl31, zl32, zl35, zl36, zl40, zl42, zl45, zl48, zl57, zl58, zl59, zl60, zl61, zl62, zl63, zl64, zl65, zl78, zl90, zl94, zl97, zl98, zl114, zl122, zl126, zl244, zl290, zl291, zl326, zl335, zl361, zl2527, zl2888, neg1, le_T, le_F, lt_T, lt_F, eq_T, eq_F, m1_ne, m1_ne', m1_lt, m1_le, lt_m1, le_m1, cl_n, ib_T, nI_add, pk_mul, sub_n, add_m1, sub_m1, m1_1, m1_1', pw_d, st_e, st_n, vu_e, vu_n, up_e, up_n, if_true, if_false, true_or, or_true, false_or, or_false, eq_self, reduceCtorEq, not_true_eq_false, not_false_eq_true, cx_mby ok R]
  · unfold f_X10_busiestAuthor
    rw [lt_U]
    have e : ∀ a, f_X10_manyBy (U0 V) a = some (nI (mby (V 254) a), U0 V) := fun a => by rw [mm_mby (mq_ok ok rfl), U0_254]
    refine lp_run 9 (fun n k => f_X10_busiestAuthor_L9 n (U0 V) (nI (bzy (V 254) k)) (nI (k + 1))) _ ?_ ?_ (n := FU) (k := 0) (by omega) (by decide)
    · intro n
      rw [f_X10_busiestAuthor_L9.eq_2]
      simp (disch := omega) only [bd_s, bv_s, lt_d, jn_d, om_s, om_n, zl0, zl1, zl2, zl3, zl4, zl5, zl6, zl7, zl8, zl9, zl10, zl11, zl12, zl13, zl16, zl23, zl24, zl26, zl31, zl32, zl35, zl36, zl40, zl42, zl45, zl48, zl57, zl58, zl59, zl60, zl61, zl62, zl63, zl64, zl65, zl78, zl90, zl94, zl97, zl98, zl114, zl122, zl126, zl244, zl290, zl291, zl326, zl335, zl361, zl2527, zl2888, neg1, le_T, le_F, lt_T, lt_F, eq_T, eq_F, m1_ne, m1_ne', m1_lt, m1_le, lt_m1, le_m1, cl_n, ib_T, nI_add, pk_mul, sub_n, add_m1, sub_m1, m1_1, m1_1', pw_d, st_e, st_n, vu_e, vu_n, up_e, up_n, if_true, if_false, true_or, or_true, false_or, or_false, eq_self, reduceCtorEq, not_true_eq_false, not_false_eq_true]
    · intro n k hk
      have h1 := hm (nI (k + 1))
      have h2 := hm (nI (bzy (V 254) k))
      rw [f_X10_busiestAuthor_L9.eq_2, show bzy (V 254) (k + 1) = if mby (V 254) (nI (k + 1)) ≤ mby (V 254) (nI (bzy (V 254) k)) then bzy (V 254) k else k + 1 from rfl]
      by_cases q : mby (V 254) (nI (k + 1)) ≤ mby (V 254) (nI (bzy (V 254) k))
      · rw [if_pos q]
        simp (disch := omega) only [bd_s, bv_s, lt_d, jn_d, om_s, om_n, zl0, zl1, zl2, zl3, zl4, zl5, zl6, zl7, zl8, zl9, zl10, zl11, zl12, zl13, zl16, zl23, zl24, zl26, zl31, zl32, zl35, zl36, zl40, zl42, zl45, zl48, zl57, zl58, zl59, zl60, zl61, zl62, zl63, zl64, zl65, zl78, zl90, zl94, zl97, zl98, zl114, zl122, zl126, zl244, zl290, zl291, zl326, zl335, zl361, zl2527, zl2888, neg1, le_T, le_F, lt_T, lt_F, eq_T, eq_F, m1_ne, m1_ne', m1_lt, m1_le, lt_m1, le_m1, cl_n, ib_T, nI_add, pk_mul, sub_n, add_m1, sub_m1, m1_1, m1_1', pw_d, st_e, st_n, vu_e, vu_n, up_e, up_n, if_true, if_false, true_or, or_true, false_or, or_false, eq_self, reduceCtorEq, not_true_eq_false, not_false_eq_true, e]
      · rw [if_neg q]
        simp (disch := omega) only [bd_s, bv_s, lt_d, jn_d, om_s, om_n, zl0, zl1, zl2, zl3, zl4, zl5, zl6, zl7, zl8, zl9, zl10, zl11, zl12, zl13, zl16, zl23, zl24, zl26, zl31, zl32, zl35, zl36, zl40, zl42, zl45, zl48, zl57, zl58, zl59, zl60, zl61, zl62, zl63, zl64, zl65, zl78, zl90, zl94, zl97, zl98, zl114, zl122, zl126, zl244, zl290, zl291, zl326, zl335, zl361, zl2527, zl2888, neg1, le_T, le_F, lt_T, lt_F, eq_T, eq_F, m1_ne, m1_ne', m1_lt, m1_le, lt_m1, le_m1, cl_n, ib_T, nI_add, pk_mul, sub_n, add_m1, sub_m1, m1_1, m1_1', pw_d, st_e, st_n, vu_e, vu_n, up_e, up_n, if_true, if_false, true_or, or_true, false_or, or_false, eq_self, reduceCtorEq, not_true_eq_false, not_false_eq_true, e]
/-! branches -/
theorem st_head (I : Inv V) (a : Int32) : StepR V (f_L_head V a) (fun W => f_X10_head W a) := by
  obtain ⟨ok, R⟩ := I.1
  have h5 := ok_b5 ok
  rcases bra_or ok a with ⟨b, hb, rfl⟩ | hB
  · refine q_T (r := nI (hd (V 254) b)) I ?_ (fun W hW => ex_sc ?_)
    · unfold f_L_head f_X9_head
      rw [cx_rqB ok R hb, bw_0, cx_hd ok R hb, bd_s, bh_0]; rfl
    · show f_X10_head W (nI b) = _
      unfold f_X10_head
      rw [lt_U, mq_bra ok hW hb, bd_s, if_neg (by decide), sm_headOf (by omega), bd_s, U0_254, hW, ok_hd ok hb]
  · refine q_F (code := 1) I (by omega) (by omega) ?_ (fun W hW => ex_sc2 (r := m1) ?_)
    · unfold f_L_head f_X9_head
      rw [cx_rqB_B ok R hB, bw_n, bh_n]; rfl
    · unfold f_X10_head
      rw [lt_U, mq_bra_B ok hW hB, bd_s, if_pos (by decide), sm_th, bd_s, U0_th]; rfl
theorem st_editCount (I : Inv V) (a : Int32) : StepR V (f_L_editCount V a) (fun W => f_X10_editCount W a) := by
  obtain ⟨ok, R⟩ := I.1
  rcases bra_or ok a with ⟨b, hb, rfl⟩ | hB
  · refine q_T (r := nI (edn (V 254) b)) I ?_ (fun W hW => ex_sc ?_)
    · unfold f_L_editCount f_X9_editCount
      rw [cx_rqB ok R hb, bw_0, cx_ed ok R hb, bd_s, bh_0]; rfl
    · show f_X10_editCount W (nI b) = _
      unfold f_X10_editCount
      rw [lt_U, mq_bra ok hW hb, bd_s, if_neg (by decide), sm_edits (mq_ok ok hW) (by rw [U0_254, hW]; exact hb), bd_s, U0_254, hW]
  · refine q_F (code := 1) I (by omega) (by omega) ?_ (fun W hW => ex_sc2 (r := m1) ?_)
    · unfold f_L_editCount f_X9_editCount
      rw [cx_rqB_B ok R hB, bw_n, bh_n]; rfl
    · unfold f_X10_editCount
      rw [lt_U, mq_bra_B ok hW hB, bd_s, if_pos (by decide), sm_th, bd_s, U0_th]; rfl
/-- a branch and a field, or neither -/
theorem bf_or (ok : OKg g) (a d : Int32) : (∃ b f, b < bcn g ∧ f < 8 ∧ a = nI b ∧ d = nI f) ∨ (Bad a (bcn g) ∨ Bad d 8) := by
  rcases bra_or ok a with ⟨b, hb, rfl⟩ | hB
  · rcases bad_or d (show 8 < 2 ^ 31 by omega) with ⟨f, hf, rfl⟩ | hF
    · exact .inl ⟨b, f, hb, hf, rfl, rfl⟩
    · exact .inr (.inr hF)
  · exact .inr (.inl hB)
theorem cq_bf {β : Type} {d0 : β} (ok : OKg g) (R : RelS V g) {a d : Int32} (h : Bad a (bcn g) ∨ Bad d 8) (k : Mem → Option (Nat × β × Mem)) : (bw d0 (f_X9_requireBranch V a) fun V2 => bw d0 (f_X9_requireField V2 d) k) = some (1, d0, V) := by
  have h5 := ok_b5 ok
  rcases bra_or ok a with ⟨b, hb, rfl⟩ | hB
  · have q := h.resolve_left (fun q => by
      rcases q with q | q
      · rw [lt_F (by omega) (by omega)] at q; exact q
      · rw [le_F (by omega) (by omega)] at q; exact q)
    rw [cx_rqB ok R hb, bw_0, cx_rqF_B q, bw_n]
  · rw [cx_rqB_B ok R hB, bw_n]
theorem st_letterAt (I : Inv V) (a d : Int32) : StepR V (f_L_letterAt V a d) (fun W => f_X10_letterAt W a d) := by
  obtain ⟨ok, R⟩ := I.1
  have h5 := ok_b5 ok
  rcases bf_or ok a d with ⟨b, f, hb, hf, rfl, rfl⟩ | h
  · have hl := ch_let (ok_wk ok hb hf)
    refine q_T (r := V 254 (290 + 9 * b + 1 + f)) I ?_ (fun W hW => ex_sc ?_)
    · unfold f_L_letterAt f_X9_letterAt
      rw [cx_rqB ok R hb, bw_0, cx_rqF hf, bw_0, cx_wk ok R hb hf, bd_s, hl, bh_0]; rfl
    · show f_X10_letterAt W (nI b) (nI f) = _
      unfold f_X10_letterAt
      rw [lt_U, mq_bra ok hW hb, bd_s, jn_d, if_neg (by decide), sm_isFld_T hf, bd_s, if_neg (by decide), sm_work (by omega) hf, bd_s, U0_254, hW, hl]
  · refine q_F (code := 1) I (by omega) (by omega) ?_ (fun W hW => ex_sc2 (r := (m1.toUInt32 % 65536).toInt32) ?_)
    · unfold f_L_letterAt f_X9_letterAt
      rw [cq_bf ok R h, bh_n]; rfl
    · unfold f_X10_letterAt
      rw [lt_U]
      rcases bra_or ok a with ⟨b, hb, rfl⟩ | hB
      · have q := h.resolve_left (fun q => by
          rcases q with q | q
          · rw [lt_F (by omega) (by omega)] at q; exact q
          · rw [le_F (by omega) (by omega)] at q; exact q)
        rw [mq_bra ok hW hb, bd_s, jn_d, if_neg (by decide), sm_isFld_F q, bd_s, if_pos (by decide)]
        show bd (f_X10_throwing (U0 W) 1) _ = _
        rw [sm_th, bd_s, U0_th]; rfl
      · rw [mq_bra_B ok hW hB, bd_s, jn_d, if_pos (by decide)]
        show bd (f_X10_throwing (U0 W) 1) _ = _
        rw [sm_th, bd_s, U0_th]; rfl
theorem st_isEdited (I : Inv V) (a d : Int32) : StepR V (f_L_isEdited V a d) (fun W => f_X10_isEdited W a d) := by
  obtain ⟨ok, R⟩ := I.1
  have h5 := ok_b5 ok
  rcases bf_or ok a d with ⟨b, f, hb, hf, rfl, rfl⟩ | h
  · refine q_T (r := if edt (V 254) b f then nI 1 else nI 0) I ?_ (fun W hW => ex_sc ?_)
    · unfold f_L_isEdited f_X9_isEdited
      rw [cx_rqB ok R hb, bw_0, cx_rqF hf, bw_0, cx_df ok R hb hf, bd_s]
      cases edt (V 254) b f <;> rfl
    · show f_X10_isEdited W (nI b) (nI f) = _
      unfold f_X10_isEdited
      rw [lt_U, mq_bra ok hW hb, bd_s, jn_d, if_neg (by decide), sm_isFld_T hf, bd_s, if_neg (by decide), sm_isEd (mq_ok ok hW) (by rw [U0_254, hW]; exact hb) hf, bd_s, U0_254, hW]
      cases edt (V 254) b f <;> rfl
  · refine q_F (code := 1) I (by omega) (by omega) ?_ (fun W hW => ex_sc2 (r := nI 0) ?_)
    · unfold f_L_isEdited f_X9_isEdited
      rw [cq_bf ok R h, bh_n]; rfl
    · unfold f_X10_isEdited
      rw [lt_U]
      rcases bra_or ok a with ⟨b, hb, rfl⟩ | hB
      · have q := h.resolve_left (fun q => by
          rcases q with q | q
          · rw [lt_F (by omega) (by omega)] at q; exact q
          · rw [le_F (by omega) (by omega)] at q; exact q)
        rw [mq_bra ok hW hb, bd_s, jn_d, if_neg (by decide), sm_isFld_F q, bd_s, if_pos (by decide)]
        show bd (f_X10_throwing (U0 W) 1) _ = _
        rw [sm_th, bd_s, U0_th]; rfl
      · rw [mq_bra_B ok hW hB, bd_s, jn_d, if_pos (by decide)]
        show bd (f_X10_throwing (U0 W) 1) _ = _
        rw [sm_th, bd_s, U0_th]; rfl
/-! the order of heads -/
def GN (g : Arr) (r : Nat) : Nat := (Gg g r).toNatClampNeg
theorem GN_eq (ok : OKg g) {r : Nat} (hr : r < cnt g) : Gg g r = nI (GN g r) ∧ GN g r ≤ r := by
  have hc := ok_c24 ok
  obtain ⟨n, h1, h2⟩ := Gg_lt ok hr
  unfold GN
  rw [h2, nI_clamp (by omega)]
  exact ⟨rfl, h1⟩
def bef (g : Arr) (o k : Nat) : Bool := decide (GN g (hd g k) < GN g (hd g o) ∨ (GN g (hd g k) = GN g (hd g o) ∧ (hd g k < hd g o ∨ (hd g k = hd g o ∧ o < k))))
def bfr (g : Arr) (k : Nat) : Nat := fb_ct (fun o => bef g o k) (bcn g)
theorem cx_bef {o k : Nat} (ok : OKg g) (R : RelS V g) (ho : o < bcn g) (hk : k < bcn g) : f_X8_comesBefore V (nI o) (nI k) = some (if bef g o k then nI 1 else nI 0, V) := by
  have hc := ok_c24 ok
  have h5 := ok_b5 ok
  have h1 := ok_hc ok ho
  have h2 := ok_hc ok hk
  obtain ⟨e1, l1⟩ := GN_eq ok h1
  obtain ⟨e2, l2⟩ := GN_eq ok h2
  have s1 := cx_gn ok R h1
  have s2 := cx_gn ok R h2
  rw [e1] at s1
  rw [e2] at s2
  unfold f_X8_comesBefore bef
  generalize hA : GN g (hd g o) = A at *
  generalize hB : GN g (hd g k) = B at *
  rcases Nat.lt_trichotomy A B with q | q | q
  · rw [if_neg (by intro z; have := of_decide_eq_true z; omega)]
    simp (disch := omega) only [bd_s, bv_s, lt_d, jn_d, om_s, om_n, zl0, zl1, zl2, zl3, zl4, zl5, zl6, zl7, zl8, zl9, zl10, zl11, zl12, zl13, zl16, zl23, zl24, zl26, zl31, zl32, zl35, zl36, zl40, zl42, zl45, zl48, zl57, zl58, zl59, zl60, zl61, zl62, zl63, zl64, zl65, zl78, zl90, zl94, zl97, zl98, zl114, zl122, zl126, zl244, zl290, zl291, zl326, zl335, zl361, zl2527, zl2888, neg1, le_T, le_F, lt_T, lt_F, eq_T, eq_F, m1_ne, m1_ne', m1_lt, m1_le, lt_m1, le_m1, cl_n, ib_T, nI_add, pk_mul, sub_n, add_m1, sub_m1, m1_1, m1_1', pw_d, st_e, st_n, vu_e, vu_n, up_e, up_n, if_true, if_false, true_or, or_true, false_or, or_false, eq_self, reduceCtorEq, not_true_eq_false, not_false_eq_true, cx_hd ok R ho, cx_hd ok R hk, s1, s2]
  · subst q
    rcases Nat.lt_trichotomy (hd g o) (hd g k) with q2 | q2 | q2
    · rw [if_neg (by intro z; have := of_decide_eq_true z; omega)]
      simp (disch := omega) only [bd_s, bv_s, lt_d, jn_d, om_s, om_n, zl0, zl1, zl2, zl3, zl4, zl5, zl6, zl7, zl8, zl9, zl10, zl11, zl12, zl13, zl16, zl23, zl24, zl26, zl31, zl32, zl35, zl36, zl40, zl42, zl45, zl48, zl57, zl58, zl59, zl60, zl61, zl62, zl63, zl64, zl65, zl78, zl90, zl94, zl97, zl98, zl114, zl122, zl126, zl244, zl290, zl291, zl326, zl335, zl361, zl2527, zl2888, neg1, le_T, le_F, lt_T, lt_F, eq_T, eq_F, m1_ne, m1_ne', m1_lt, m1_le, lt_m1, le_m1, cl_n, ib_T, nI_add, pk_mul, sub_n, add_m1, sub_m1, m1_1, m1_1', pw_d, st_e, st_n, vu_e, vu_n, up_e, up_n, if_true, if_false, true_or, or_true, false_or, or_false, eq_self, reduceCtorEq, not_true_eq_false, not_false_eq_true, cx_hd ok R ho, cx_hd ok R hk, s1, s2]
    · rcases Nat.lt_or_ge o k with q3 | q3
      · rw [if_pos (decide_eq_true (by omega))]
        simp (disch := omega) only [bd_s, bv_s, lt_d, jn_d, om_s, om_n, zl0, zl1, zl2, zl3, zl4, zl5, zl6, zl7, zl8, zl9, zl10, zl11, zl12, zl13, zl16, zl23, zl24, zl26, zl31, zl32, zl35, zl36, zl40, zl42, zl45, zl48, zl57, zl58, zl59, zl60, zl61, zl62, zl63, zl64, zl65, zl78, zl90, zl94, zl97, zl98, zl114, zl122, zl126, zl244, zl290, zl291, zl326, zl335, zl361, zl2527, zl2888, neg1, le_T, le_F, lt_T, lt_F, eq_T, eq_F, m1_ne, m1_ne', m1_lt, m1_le, lt_m1, le_m1, cl_n, ib_T, nI_add, pk_mul, sub_n, add_m1, sub_m1, m1_1, m1_1', pw_d, st_e, st_n, vu_e, vu_n, up_e, up_n, if_true, if_false, true_or, or_true, false_or, or_false, eq_self, reduceCtorEq, not_true_eq_false, not_false_eq_true, cx_hd ok R ho, cx_hd ok R hk, s1, s2]
      · rw [if_neg (by intro z; have := of_decide_eq_true z; omega)]
        simp (disch := omega) only [bd_s, bv_s, lt_d, jn_d, om_s, om_n, zl0, zl1, zl2, zl3, zl4, zl5, zl6, zl7, zl8, zl9, zl10, zl11, zl12, zl13, zl16, zl23, zl24, zl26, zl31, zl32, zl35, zl36, zl40, zl42, zl45, zl48, zl57, zl58, zl59, zl60, zl61, zl62, zl63, zl64, zl65, zl78, zl90, zl94, zl97, zl98, zl114, zl122, zl126, zl244, zl290, zl291, zl326, zl335, zl361, zl2527, zl2888, neg1, le_T, le_F, lt_T, lt_F, eq_T, eq_F, m1_ne, m1_ne', m1_lt, m1_le, lt_m1, le_m1, cl_n, ib_T, nI_add, pk_mul, sub_n, add_m1, sub_m1, m1_1, m1_1', pw_d, st_e, st_n, vu_e, vu_n, up_e, up_n, if_true, if_false, true_or, or_true, false_or, or_false, eq_self, reduceCtorEq, not_true_eq_false, not_false_eq_true, cx_hd ok R ho, cx_hd ok R hk, s1, s2]
    · rw [if_pos (decide_eq_true (by omega))]
      simp (disch := omega) only [bd_s, bv_s, lt_d, jn_d, om_s, om_n, zl0, zl1, zl2, zl3, zl4, zl5, zl6, zl7, zl8, zl9, zl10, zl11, zl12, zl13, zl16, zl23, zl24, zl26, zl31, zl32, zl35, zl36, zl40, zl42, zl45, zl48, zl57, zl58, zl59, zl60, zl61, zl62, zl63, zl64, zl65, zl78, zl90, zl94, zl97, zl98, zl114, zl122, zl126, zl244, zl290, zl291, zl326, zl335, zl361, zl2527, zl2888, neg1, le_T, le_F, lt_T, lt_F, eq_T, eq_F, m1_ne, m1_ne', m1_lt, m1_le, lt_m1, le_m1, cl_n, ib_T, nI_add, pk_mul, sub_n, add_m1, sub_m1, m1_1, m1_1', pw_d, st_e, st_n, vu_e, vu_n, up_e, up_n, if_true, if_false, true_or, or_true, false_or, or_false, eq_self, reduceCtorEq, not_true_eq_false, not_false_eq_true, cx_hd ok R ho, cx_hd ok R hk, s1, s2]
  · rw [if_pos (decide_eq_true (by omega))]
    simp (disch := omega) only [bd_s, bv_s, lt_d, jn_d, om_s, om_n, zl0, zl1, zl2, zl3, zl4, zl5, zl6, zl7, zl8, zl9, zl10, zl11, zl12, zl13, zl16, zl23, zl24, zl26, zl31, zl32, zl35, zl36, zl40, zl42, zl45, zl48, zl57, zl58, zl59, zl60, zl61, zl62, zl63, zl64, zl65, zl78, zl90, zl94, zl97, zl98, zl114, zl122, zl126, zl244, zl290, zl291, zl326, zl335, zl361, zl2527, zl2888, neg1, le_T, le_F, lt_T, lt_F, eq_T, eq_F, m1_ne, m1_ne', m1_lt, m1_le, lt_m1, le_m1, cl_n, ib_T, nI_add, pk_mul, sub_n, add_m1, sub_m1, m1_1, m1_1', pw_d, st_e, st_n, vu_e, vu_n, up_e, up_n, if_true, if_false, true_or, or_true, false_or, or_false, eq_self, reduceCtorEq, not_true_eq_false, not_false_eq_true, cx_hd ok R ho, cx_hd ok R hk, s1, s2]
def rkx (g : Arr) (a : Int32) : Nat → Int32
  | 0 => m1
  | j + 1 => if nI (bfr g (bcn g - (j + 1))) = a then nI (bcn g - (j + 1)) else rkx g a j
theorem cx_rk {a : Int32} (ok : OKg g) (R : RelS V g) : f_X8_branchOfRank V a = some (rkx g a (bcn g), V) := by
  have h5 := ok_b5 ok
  unfold f_X8_branchOfRank
  have inner : ∀ (k : Nat), k < bcn g → ∀ (jj : Mem → Int32 → Option (Int32 × Mem)), f_X8_branchOfRank_L15 a (nI k) jj FU V (nI 0) (nI 0) = jj V (nI (bfr g k)) := by
    intro k hk jj
    refine lp_run (bcn g) (fun n o => f_X8_branchOfRank_L15 a (nI k) jj n V (nI (fb_ct (fun o => bef g o k) o)) (nI o)) _ ?_ ?_ (n := FU) (k := 0) (by omega) (by unfold FU; omega)
    · intro n
      rw [f_X8_branchOfRank_L15.eq_2]
      simp (disch := omega) only [bd_s, bv_s, lt_d, jn_d, om_s, om_n, zl0, zl1, zl2, zl3, zl4, zl5, zl6, zl7, zl8, zl9, zl10, zl11, zl12, zl13, zl16, zl23, zl24, zl26, zl31, zl32, zl35, zl36, zl40, zl42, zl45, zl48, zl57, zl58, zl59, zl60, zl61, zl62, zl63, zl64, zl65, zl78, zl90, zl94, zl97, zl98, zl114, zl122, zl126, zl244, zl290, zl291, zl326, zl335, zl361, zl2527, zl2888, neg1, le_T, le_F, lt_T, lt_F, eq_T, eq_F, m1_ne, m1_ne', m1_lt, m1_le, lt_m1, le_m1, cl_n, ib_T, nI_add, pk_mul, sub_n, add_m1, sub_m1, m1_1, m1_1', pw_d, st_e, st_n, vu_e, vu_n, up_e, up_n, if_true, if_false, true_or, or_true, false_or, or_false, eq_self, reduceCtorEq, not_true_eq_false, not_false_eq_true, rl_b R, ok_bcn ok] <;> rfl
    · intro n o ho
      rw [f_X8_branchOfRank_L15.eq_2, fb_ct_succ]
      have e := cx_bef ok R ho hk
      cases q : bef g o k
      · rw [q] at e
        simp (disch := omega) only [bd_s, bv_s, lt_d, jn_d, om_s, om_n, zl0, zl1, zl2, zl3, zl4, zl5, zl6, zl7, zl8, zl9, zl10, zl11, zl12, zl13, zl16, zl23, zl24, zl26, zl31, zl32, zl35, zl36, zl40, zl42, zl45, zl48, zl57, zl58, zl59, zl60, zl61, zl62, zl63, zl64, zl65, zl78, zl90, zl94, zl97, zl98, zl114, zl122, zl126, zl244, zl290, zl291, zl326, zl335, zl361, zl2527, zl2888, neg1, le_T, le_F, lt_T, lt_F, eq_T, eq_F, m1_ne, m1_ne', m1_lt, m1_le, lt_m1, le_m1, cl_n, ib_T, nI_add, pk_mul, sub_n, add_m1, sub_m1, m1_1, m1_1', pw_d, st_e, st_n, vu_e, vu_n, up_e, up_n, if_true, if_false, true_or, or_true, false_or, or_false, eq_self, reduceCtorEq, not_true_eq_false, not_false_eq_true, rl_b R, ok_bcn ok, e, Bool.false_eq_true, Nat.add_zero]
      · rw [q] at e
        simp (disch := omega) only [bd_s, bv_s, lt_d, jn_d, om_s, om_n, zl0, zl1, zl2, zl3, zl4, zl5, zl6, zl7, zl8, zl9, zl10, zl11, zl12, zl13, zl16, zl23, zl24, zl26, zl31, zl32, zl35, zl36, zl40, zl42, zl45, zl48, zl57, zl58, zl59, zl60, zl61, zl62, zl63, zl64, zl65, zl78, zl90, zl94, zl97, zl98, zl114, zl122, zl126, zl244, zl290, zl291, zl326, zl335, zl361, zl2527, zl2888, neg1, le_T, le_F, lt_T, lt_F, eq_T, eq_F, m1_ne, m1_ne', m1_lt, m1_le, lt_m1, le_m1, cl_n, ib_T, nI_add, pk_mul, sub_n, add_m1, sub_m1, m1_1, m1_1', pw_d, st_e, st_n, vu_e, vu_n, up_e, up_n, if_true, if_false, true_or, or_true, false_or, or_false, eq_self, reduceCtorEq, not_true_eq_false, not_false_eq_true, rl_b R, ok_bcn ok, e]
  have key : ∀ (j n : Nat), j ≤ bcn g → j < n → f_X8_branchOfRank_L2 a n V (nI (bcn g - j)) = some (rkx g a j, V) := by
    intro j
    induction j with
    | zero =>
      intro n _ hn
      obtain ⟨n, rfl⟩ : ∃ n', n = n' + 1 := ⟨n - 1, by omega⟩
      rw [f_X8_branchOfRank_L2.eq_2]
      simp (disch := omega) only [bd_s, bv_s, lt_d, jn_d, om_s, om_n, zl0, zl1, zl2, zl3, zl4, zl5, zl6, zl7, zl8, zl9, zl10, zl11, zl12, zl13, zl16, zl23, zl24, zl26, zl31, zl32, zl35, zl36, zl40, zl42, zl45, zl48, zl57, zl58, zl59, zl60, zl61, zl62, zl63, zl64, zl65, zl78, zl90, zl94, zl97, zl98, zl114, zl122, zl126, zl244, zl290, zl291, zl326, zl335, zl361, zl2527, zl2888, neg1, le_T, le_F, lt_T, lt_F, eq_T, eq_F, m1_ne, m1_ne', m1_lt, m1_le, lt_m1, le_m1, cl_n, ib_T, nI_add, pk_mul, sub_n, add_m1, sub_m1, m1_1, m1_1', pw_d, st_e, st_n, vu_e, vu_n, up_e, up_n, if_true, if_false, true_or, or_true, false_or, or_false, eq_self, reduceCtorEq, not_true_eq_false, not_false_eq_true, rl_b R, ok_bcn ok, Nat.sub_zero] <;> rfl
    | succ j ih =>
      intro n hj hn
      obtain ⟨n, rfl⟩ : ∃ n', n = n' + 1 := ⟨n - 1, by omega⟩
      have := ih n (by omega) (by omega)
      rw [show bcn g - j = bcn g - (j + 1) + 1 by omega] at this
      rw [f_X8_branchOfRank_L2.eq_2, rkx]
      have il := inner (bcn g - (j + 1)) (by omega)
      by_cases q : nI (bfr g (bcn g - (j + 1))) = a
      · rw [if_pos q]
        simp (disch := omega) only [bd_s, bv_s, lt_d, jn_d, om_s, om_n, zl0, zl1, zl2, zl3, zl4, zl5, zl6, zl7, zl8, zl9, zl10, zl11, zl12, zl13, zl16, zl23, zl24, zl26, zl31, zl32, zl35, zl36, zl40, zl42, zl45, zl48, zl57, zl58, zl59, zl60, zl61, zl62, zl63, zl64, zl65, zl78, zl90, zl94, zl97, zl98, zl114, zl122, zl126, zl244, zl290, zl291, zl326, zl335, zl361, zl2527, zl2888, neg1, le_T, le_F, lt_T, lt_F, eq_T, eq_F, m1_ne, m1_ne', m1_lt, m1_le, lt_m1, le_m1, cl_n, ib_T, nI_add, pk_mul, sub_n, add_m1, sub_m1, m1_1, m1_1', pw_d, st_e, st_n, vu_e, vu_n, up_e, up_n, if_true, if_false, true_or, or_true, false_or, or_false, eq_self, reduceCtorEq, not_true_eq_false, not_false_eq_true, rl_b R, ok_bcn ok, il, q]
      · rw [if_neg q]
        simp (disch := omega) only [bd_s, bv_s, lt_d, jn_d, om_s, om_n, zl0, zl1, zl2, zl3, zl4, zl5, zl6, zl7, zl8, zl9, zl10, zl11, zl12, zl13, zl16, zl23, zl24, zl26, zl31, zl32, zl35, zl36, zl40, zl42, zl45, zl48, zl57, zl58, zl59, zl60, zl61, zl62, zl63, zl64, zl65, zl78, zl90, zl94, zl97, zl98, zl114, zl122, zl126, zl244, zl290, zl291, zl326, zl335, zl361, zl2527, zl2888, neg1, le_T, le_F, lt_T, lt_F, eq_T, eq_F, m1_ne, m1_ne', m1_lt, m1_le, lt_m1, le_m1, cl_n, ib_T, nI_add, pk_mul, sub_n, add_m1, sub_m1, m1_1, m1_1', pw_d, st_e, st_n, vu_e, vu_n, up_e, up_n, if_true, if_false, true_or, or_true, false_or, or_false, eq_self, reduceCtorEq, not_true_eq_false, not_false_eq_true, rl_b R, ok_bcn ok, il, q]
        exact this
  have := key (bcn g) FU (Nat.le_refl _) (by unfold FU; omega)
  rw [Nat.sub_self] at this
  exact this
theorem sb_z {a b : Nat} (ha : a < 2 ^ 30) (hb : b < 2 ^ 30) : (nI a - nI b = nI 0) = (a = b) := by
  have h := pk_sub_toInt ha hb
  apply propext
  rw [← Int32.toInt_inj, h, show (nI 0).toInt = 0 by decide]; omega
theorem sb_p {a b : Nat} (ha : a < 2 ^ 30) (hb : b < 2 ^ 30) : (nI 0 < nI a - nI b) = (b < a) := by
  have h := pk_sub_toInt ha hb
  apply propext
  rw [fa_lt', h, show (nI 0).toInt = 0 by decide]; omega
theorem mm_rk {U : Mem} {a : Int32} {jj : Mem → Option (Int32 × Mem)} (ok : OKg (U 254)) : ∃ h k, f_X10_branchByHead_L7 a jj FU U (nI 0) = if rkx (U 254) a (bcn (U 254)) = m1 then jj (scr U h k) else some (rkx (U 254) a (bcn (U 254)), scr U h k) := by
  have hc := ok_c24 ok
  have h5 := ok_b5 ok
  have inner : ∀ (k : Nat), k < bcn (U 254) → ∀ (j2 : Mem → Int32 → Option (Int32 × Mem)), Rj (fun W => f_X10_branchByHead_L22 a (nI k) j2 FU W (nI 0) (nI 0)) U (fun W => j2 W (nI (bfr (U 254) k))) := by
    intro k hk j2
    refine lp_rj (G := fun W => j2 W (nI (bfr (U 254) k))) (bcn (U 254)) (fun n o W => f_X10_branchByHead_L22 a (nI k) j2 n W (nI (fb_ct (fun o => bef (U 254) o k) o)) (nI o)) ?_ ?_ (n := FU) (k := 0) (by omega) (by unfold FU; omega)
    · intro n h k'
      show f_X10_branchByHead_L22 _ _ _ _ _ _ _ = _
      rw [f_X10_branchByHead_L22.eq_2]
      simp (disch := omega) only [bd_s, bv_s, lt_d, jn_d, om_s, om_n, zl0, zl1, zl2, zl3, zl4, zl5, zl6, zl7, zl8, zl9, zl10, zl11, zl12, zl13, zl16, zl23, zl24, zl26, zl31, zl32, zl35, zl36, zl40, zl42, zl45, zl48, zl57, zl58, zl59, zl60, zl61, zl62, zl63, zl64, zl65, zl78, zl90, zl94, zl97, zl98, zl114, zl122, zl126, zl244, zl290, zl291, zl326, zl335, zl361, zl2527, zl2888, neg1, le_T, le_F, lt_T, lt_F, eq_T, eq_F, m1_ne, m1_ne', m1_lt, m1_le, lt_m1, le_m1, cl_n, ib_T, nI_add, pk_mul, sub_n, add_m1, sub_m1, m1_1, m1_1', pw_d, st_e, st_n, vu_e, vu_n, up_e, up_n, if_true, if_false, true_or, or_true, false_or, or_false, eq_self, reduceCtorEq, not_true_eq_false, not_false_eq_true, scr_254, ok_bcn ok] <;> rfl
    · intro n o h k' ho
      have h1 := ok_hc ok ho
      have h2 := ok_hc ok hk
      obtain ⟨e1, l1⟩ := GN_eq ok h1
      obtain ⟨e2, l2⟩ := GN_eq ok h2
      obtain ⟨ha, ka, g1⟩ := sm_gen ok h1 h k'
      obtain ⟨hb, kb, g2⟩ := sm_gen ok h2 ha ka
      have g1 : f_X10_generationOf (scr U h k') (nI (hd (U 254) o)) = some (nI (GN (U 254) (hd (U 254) o)), scr U ha ka) := by rw [← e1]; exact g1
      have g2 : f_X10_generationOf (scr U ha ka) (nI (hd (U 254) k)) = some (nI (GN (U 254) (hd (U 254) k)), scr U hb kb) := by rw [← e2]; exact g2
      have hh : ∀ (x y : Arr) (i : Nat), i < bcn (U 254) → f_X10_headOf (scr U x y) (nI i) = some (nI (hd (U 254) i), scr U x y) := fun x y i hi => by rw [sm_headOf (by omega), scr_254, ok_hd ok hi]
      refine ⟨hb, kb, ?_⟩
      show f_X10_branchByHead_L22 _ _ _ _ _ _ _ = f_X10_branchByHead_L22 _ _ _ _ _ _ _
      rw [f_X10_branchByHead_L22.eq_2, fb_ct_succ]
      have sz := sb_z (show GN (U 254) (hd (U 254) o) < 2 ^ 30 by omega) (show GN (U 254) (hd (U 254) k) < 2 ^ 30 by omega)
      have sp := sb_p (show GN (U 254) (hd (U 254) o) < 2 ^ 30 by omega) (show GN (U 254) (hd (U 254) k) < 2 ^ 30 by omega)
      have tz := sb_z (show hd (U 254) o < 2 ^ 30 by omega) (show hd (U 254) k < 2 ^ 30 by omega)
      have tp := sb_p (show hd (U 254) o < 2 ^ 30 by omega) (show hd (U 254) k < 2 ^ 30 by omega)
      unfold bef
      generalize hA : GN (U 254) (hd (U 254) o) = A at *
      generalize hB : GN (U 254) (hd (U 254) k) = B at *
      generalize hX : nI A - nI B = X at *
      generalize hY : nI (hd (U 254) o) - nI (hd (U 254) k) = Y at *
      have ok1 := ok_bcn ok
      generalize hC : (if decide (B < A ∨ B = A ∧ (hd (U 254) k < hd (U 254) o ∨ hd (U 254) k = hd (U 254) o ∧ o < k)) = true then 1 else 0) = C
      rcases Nat.lt_trichotomy A B with q | q | q
      · have hC0 : C = 0 := by rw [← hC, if_neg (by intro z; have := of_decide_eq_true z; omega)]
        subst hC0
        have n1 : ¬ X = nI 0 := by rw [sz]; omega
        have n2 : ¬ nI 0 < X := by rw [sp]; omega
        simp (disch := omega) only [bd_s, bv_s, lt_d, jn_d, om_s, om_n, zl0, zl1, zl2, zl3, zl4, zl5, zl6, zl7, zl8, zl9, zl10, zl11, zl12, zl13, zl16, zl23, zl24, zl26, zl31, zl32, zl35, zl36, zl40, zl42, zl45, zl48, zl57, zl58, zl59, zl60, zl61, zl62, zl63, zl64, zl65, zl78, zl90, zl94, zl97, zl98, zl114, zl122, zl126, zl244, zl290, zl291, zl326, zl335, zl361, zl2527, zl2888, neg1, le_T, le_F, lt_T, lt_F, eq_T, eq_F, m1_ne, m1_ne', m1_lt, m1_le, lt_m1, le_m1, cl_n, ib_T, nI_add, pk_mul, sub_n, add_m1, sub_m1, m1_1, m1_1', pw_d, st_e, st_n, vu_e, vu_n, up_e, up_n, if_true, if_false, true_or, or_true, false_or, or_false, eq_self, reduceCtorEq, not_true_eq_false, not_false_eq_true, scr_254, ok1, hh, ho, hk, g1, g2, hX, n1, n2, Nat.add_zero]
      · have y1 : X = nI 0 := by rw [sz]; exact q
        rcases Nat.lt_trichotomy (hd (U 254) o) (hd (U 254) k) with q2 | q2 | q2
        · have hC0 : C = 0 := by rw [← hC, if_neg (by intro z; have := of_decide_eq_true z; omega)]
          subst hC0
          have n1 : ¬ Y = nI 0 := by rw [tz]; omega
          have n2 : ¬ nI 0 < Y := by rw [tp]; omega
          simp (disch := omega) only [bd_s, bv_s, lt_d, jn_d, om_s, om_n, zl0, zl1, zl2, zl3, zl4, zl5, zl6, zl7, zl8, zl9, zl10, zl11, zl12, zl13, zl16, zl23, zl24, zl26, zl31, zl32, zl35, zl36, zl40, zl42, zl45, zl48, zl57, zl58, zl59, zl60, zl61, zl62, zl63, zl64, zl65, zl78, zl90, zl94, zl97, zl98, zl114, zl122, zl126, zl244, zl290, zl291, zl326, zl335, zl361, zl2527, zl2888, neg1, le_T, le_F, lt_T, lt_F, eq_T, eq_F, m1_ne, m1_ne', m1_lt, m1_le, lt_m1, le_m1, cl_n, ib_T, nI_add, pk_mul, sub_n, add_m1, sub_m1, m1_1, m1_1', pw_d, st_e, st_n, vu_e, vu_n, up_e, up_n, if_true, if_false, true_or, or_true, false_or, or_false, eq_self, reduceCtorEq, not_true_eq_false, not_false_eq_true, scr_254, ok1, hh, ho, hk, g1, g2, hX, y1, hY, n1, n2, Nat.add_zero]
        · have z1 : Y = nI 0 := by rw [tz]; exact q2
          rcases Nat.lt_or_ge o k with q3 | q3
          · have hC0 : C = 1 := by rw [← hC, if_pos (decide_eq_true (by omega))]
            subst hC0
            simp (disch := omega) only [bd_s, bv_s, lt_d, jn_d, om_s, om_n, zl0, zl1, zl2, zl3, zl4, zl5, zl6, zl7, zl8, zl9, zl10, zl11, zl12, zl13, zl16, zl23, zl24, zl26, zl31, zl32, zl35, zl36, zl40, zl42, zl45, zl48, zl57, zl58, zl59, zl60, zl61, zl62, zl63, zl64, zl65, zl78, zl90, zl94, zl97, zl98, zl114, zl122, zl126, zl244, zl290, zl291, zl326, zl335, zl361, zl2527, zl2888, neg1, le_T, le_F, lt_T, lt_F, eq_T, eq_F, m1_ne, m1_ne', m1_lt, m1_le, lt_m1, le_m1, cl_n, ib_T, nI_add, pk_mul, sub_n, add_m1, sub_m1, m1_1, m1_1', pw_d, st_e, st_n, vu_e, vu_n, up_e, up_n, if_true, if_false, true_or, or_true, false_or, or_false, eq_self, reduceCtorEq, not_true_eq_false, not_false_eq_true, scr_254, ok1, hh, ho, hk, g1, g2, hX, y1, hY, z1]
          · have hC0 : C = 0 := by rw [← hC, if_neg (by intro z; have := of_decide_eq_true z; omega)]
            subst hC0
            simp (disch := omega) only [bd_s, bv_s, lt_d, jn_d, om_s, om_n, zl0, zl1, zl2, zl3, zl4, zl5, zl6, zl7, zl8, zl9, zl10, zl11, zl12, zl13, zl16, zl23, zl24, zl26, zl31, zl32, zl35, zl36, zl40, zl42, zl45, zl48, zl57, zl58, zl59, zl60, zl61, zl62, zl63, zl64, zl65, zl78, zl90, zl94, zl97, zl98, zl114, zl122, zl126, zl244, zl290, zl291, zl326, zl335, zl361, zl2527, zl2888, neg1, le_T, le_F, lt_T, lt_F, eq_T, eq_F, m1_ne, m1_ne', m1_lt, m1_le, lt_m1, le_m1, cl_n, ib_T, nI_add, pk_mul, sub_n, add_m1, sub_m1, m1_1, m1_1', pw_d, st_e, st_n, vu_e, vu_n, up_e, up_n, if_true, if_false, true_or, or_true, false_or, or_false, eq_self, reduceCtorEq, not_true_eq_false, not_false_eq_true, scr_254, ok1, hh, ho, hk, g1, g2, hX, y1, hY, z1, Nat.add_zero]
        · have hC0 : C = 1 := by rw [← hC, if_pos (decide_eq_true (by omega))]
          subst hC0
          have n2 : nI 0 < Y := by rw [tp]; omega
          simp (disch := omega) only [bd_s, bv_s, lt_d, jn_d, om_s, om_n, zl0, zl1, zl2, zl3, zl4, zl5, zl6, zl7, zl8, zl9, zl10, zl11, zl12, zl13, zl16, zl23, zl24, zl26, zl31, zl32, zl35, zl36, zl40, zl42, zl45, zl48, zl57, zl58, zl59, zl60, zl61, zl62, zl63, zl64, zl65, zl78, zl90, zl94, zl97, zl98, zl114, zl122, zl126, zl244, zl290, zl291, zl326, zl335, zl361, zl2527, zl2888, neg1, le_T, le_F, lt_T, lt_F, eq_T, eq_F, m1_ne, m1_ne', m1_lt, m1_le, lt_m1, le_m1, cl_n, ib_T, nI_add, pk_mul, sub_n, add_m1, sub_m1, m1_1, m1_1', pw_d, st_e, st_n, vu_e, vu_n, up_e, up_n, if_true, if_false, true_or, or_true, false_or, or_false, eq_self, reduceCtorEq, not_true_eq_false, not_false_eq_true, scr_254, ok1, hh, ho, hk, g1, g2, hX, y1, hY, n2]
      · have hC0 : C = 1 := by rw [← hC, if_pos (decide_eq_true (by omega))]
        subst hC0
        have n1 : ¬ X = nI 0 := by rw [sz]; omega
        have n2 : nI 0 < X := by rw [sp]; omega
        simp (disch := omega) only [bd_s, bv_s, lt_d, jn_d, om_s, om_n, zl0, zl1, zl2, zl3, zl4, zl5, zl6, zl7, zl8, zl9, zl10, zl11, zl12, zl13, zl16, zl23, zl24, zl26, zl31, zl32, zl35, zl36, zl40, zl42, zl45, zl48, zl57, zl58, zl59, zl60, zl61, zl62, zl63, zl64, zl65, zl78, zl90, zl94, zl97, zl98, zl114, zl122, zl126, zl244, zl290, zl291, zl326, zl335, zl361, zl2527, zl2888, neg1, le_T, le_F, lt_T, lt_F, eq_T, eq_F, m1_ne, m1_ne', m1_lt, m1_le, lt_m1, le_m1, cl_n, ib_T, nI_add, pk_mul, sub_n, add_m1, sub_m1, m1_1, m1_1', pw_d, st_e, st_n, vu_e, vu_n, up_e, up_n, if_true, if_false, true_or, or_true, false_or, or_false, eq_self, reduceCtorEq, not_true_eq_false, not_false_eq_true, scr_254, ok1, hh, ho, hk, g1, g2, hX, n1, n2]
  have key : ∀ (j n : Nat) (h k : Arr), j ≤ bcn (U 254) → j < n → ∃ h2 k2, f_X10_branchByHead_L7 a jj n (scr U h k) (nI (bcn (U 254) - j)) = if rkx (U 254) a j = m1 then jj (scr U h2 k2) else some (rkx (U 254) a j, scr U h2 k2) := by
    intro j
    induction j with
    | zero =>
      intro n h k _ hn
      obtain ⟨n, rfl⟩ : ∃ n', n = n' + 1 := ⟨n - 1, by omega⟩
      refine ⟨h, k, ?_⟩
      rw [f_X10_branchByHead_L7.eq_2, rkx, if_pos rfl]
      simp (disch := omega) only [bd_s, bv_s, lt_d, jn_d, om_s, om_n, zl0, zl1, zl2, zl3, zl4, zl5, zl6, zl7, zl8, zl9, zl10, zl11, zl12, zl13, zl16, zl23, zl24, zl26, zl31, zl32, zl35, zl36, zl40, zl42, zl45, zl48, zl57, zl58, zl59, zl60, zl61, zl62, zl63, zl64, zl65, zl78, zl90, zl94, zl97, zl98, zl114, zl122, zl126, zl244, zl290, zl291, zl326, zl335, zl361, zl2527, zl2888, neg1, le_T, le_F, lt_T, lt_F, eq_T, eq_F, m1_ne, m1_ne', m1_lt, m1_le, lt_m1, le_m1, cl_n, ib_T, nI_add, pk_mul, sub_n, add_m1, sub_m1, m1_1, m1_1', pw_d, st_e, st_n, vu_e, vu_n, up_e, up_n, if_true, if_false, true_or, or_true, false_or, or_false, eq_self, reduceCtorEq, not_true_eq_false, not_false_eq_true, scr_254, ok_bcn ok, Nat.sub_zero]
    | succ j ih =>
      intro n h k hj hn
      obtain ⟨n, rfl⟩ : ∃ n', n = n' + 1 := ⟨n - 1, by omega⟩
      obtain ⟨h1, k1, e1⟩ := inner (bcn (U 254) - (j + 1)) (by omega) (fun V109 x3_109 => if x3_109 = a then some (nI (bcn (U 254) - (j + 1)), V109) else (f_X10_branchByHead_L7 a jj n) V109 (nI (bcn (U 254) - (j + 1)) + 1)) h k
      have e1 : f_X10_branchByHead_L22 a (nI (bcn (U 254) - (j + 1))) (fun V109 x3_109 => if x3_109 = a then some (nI (bcn (U 254) - (j + 1)), V109) else (f_X10_branchByHead_L7 a jj n) V109 (nI (bcn (U 254) - (j + 1)) + 1)) FU (scr U h k) (nI 0) (nI 0) = (if nI (bfr (U 254) (bcn (U 254) - (j + 1))) = a then some (nI (bcn (U 254) - (j + 1)), scr U h1 k1) else (f_X10_branchByHead_L7 a jj n) (scr U h1 k1) (nI (bcn (U 254) - (j + 1)) + 1)) := e1
      have unf : f_X10_branchByHead_L7 a jj (n + 1) (scr U h k) (nI (bcn (U 254) - (j + 1))) = (if nI (bfr (U 254) (bcn (U 254) - (j + 1))) = a then some (nI (bcn (U 254) - (j + 1)), scr U h1 k1) else (f_X10_branchByHead_L7 a jj n) (scr U h1 k1) (nI (bcn (U 254) - (j + 1)) + 1)) := by
        rw [f_X10_branchByHead_L7.eq_2, if_pos (by decide), show (scr U h k) 254 (1 : Int32).toNatClampNeg = nI (bcn (U 254)) from ok_bcn ok, if_neg (nI_ge (by omega) (by omega)), jn_d]
        exact e1
      rw [rkx]
      by_cases q : nI (bfr (U 254) (bcn (U 254) - (j + 1))) = a
      · refine ⟨h1, k1, ?_⟩
        rw [unf, if_pos q, if_pos q, if_neg (nI_m1 (by omega))]
      · obtain ⟨h2, k2, e2⟩ := ih n h1 k1 (by omega) (by omega)
        refine ⟨h2, k2, ?_⟩
        rw [unf, if_neg q, if_neg q, show nI (bcn (U 254) - (j + 1)) + 1 = nI (bcn (U 254) - j) by rw [show bcn (U 254) - j = bcn (U 254) - (j + 1) + 1 by omega]; exact nI_1 _]
        exact e2
  obtain ⟨h, k, e⟩ := key (bcn (U 254)) FU (U 259) (U 260) (Nat.le_refl _) (by unfold FU; omega)
  rw [Nat.sub_self, scr_id] at e
  exact ⟨h, k, e⟩
theorem st_branchByHead (I : Inv V) (a : Int32) : StepR V (f_L_branchByHead V a) (fun W => f_X10_branchByHead W a) := by
  obtain ⟨ok, R⟩ := I.1
  have md : ∀ W, W 254 = V 254 → ∃ h k, f_X10_branchByHead W a = if rkx (V 254) a (bcn (V 254)) = m1 then some (m1, scr (stv W 253 4 (nI 1)) h k) else some (rkx (V 254) a (bcn (V 254)), scr (U0 W) h k) := fun W hW => by
    obtain ⟨h, k, e⟩ := mm_rk (U := U0 W) (a := a) (jj := fun (V122 : Mem) => bd (f_X10_throwing V122 1) fun r124 V124 => some (r124, V124)) (mq_ok ok hW)
    rw [U0_254, hW] at e
    refine ⟨h, k, ?_⟩
    unfold f_X10_branchByHead
    rw [lt_U, jn_d]
    refine e.trans ?_
    by_cases q : rkx (V 254) a (bcn (V 254)) = m1
    · rw [if_pos q, if_pos q, sm_th, bd_s, scr_s253, U0_th]; rfl
    · rw [if_neg q, if_neg q]
  by_cases q : rkx (V 254) a (bcn (V 254)) = m1
  · refine q_F (code := 1) I (by omega) (by omega) ?_ (fun W hW => ?_)
    · unfold f_L_branchByHead f_X9_branchByHead
      rw [cx_rk ok R, bd_s, q, rq_pres_m, bx_n, bh_n]; rfl
    · obtain ⟨h, k, e⟩ := md W hW
      rw [if_pos q] at e
      exact ⟨_, h, k, e⟩
  · refine q_T (r := rkx (V 254) a (bcn (V 254))) I ?_ (fun W hW => ?_)
    · unfold f_L_branchByHead f_X9_branchByHead
      rw [cx_rk ok R, bd_s, rq_pres _ q, bx_0, bh_0]; rfl
    · obtain ⟨h, k, e⟩ := md W hW
      rw [if_neg q] at e
      exact ⟨h, k, e⟩
end QH
