/-! PURE, 30: picks, tags, archive; what a call does before and behind its change -/
def pkb (g : Arr) (b r f : Nat) : Bool := decide (g (2 + 12 * p1 g r + 4 + f) ≠ g (2 + 12 * r + 4 + f) ∧ g (290 + 9 * b + 1 + f) ≠ g (2 + 12 * p1 g r + 4 + f) ∧ g (290 + 9 * b + 1 + f) ≠ g (2 + 12 * r + 4 + f))
def pkn (g : Arr) (b r f : Nat) : Bool := decide (g (2 + 12 * p1 g r + 4 + f) ≠ g (2 + 12 * r + 4 + f) ∧ g (290 + 9 * b + 1 + f) ≠ g (2 + 12 * r + 4 + f))
def pkl (g : Arr) (b r : Nat) : Arr := fun f => if g (2 + 12 * p1 g r + 4 + f) ≠ g (2 + 12 * r + 4 + f) then g (2 + 12 * r + 4 + f) else g (290 + 9 * b + 1 + f)
theorem pkl_let {g : Arr} (ok : OKg g) {b r : Nat} (hb : b < bcn g) (hr : r < cnt g) : ∀ f, f < 8 → Let (pkl g b r f) := fun f hf => by
  unfold pkl
  split
  · exact ok_le ok hr hf
  · exact ok_wk ok hb hf
def tgn (g : Arr) : Nat := fb_ct (fun t => decide (g (335 + t) ≠ m1)) 26
def arn (g : Arr) (u : Int32) (n : Nat) : Nat := fb_ct (fun r => !bt u r && decide (g (2 + 12 * r + 3) = nI 0)) n
section MM
variable {V : Mem}
theorem mm_mayP {b r : Nat} (ok : OKg (V 254)) (hb : b < bcn (V 254)) (hr : r < cnt (V 254)) (h0 : 0 < r) : f_X10_mayPick V (nI b) (nI r) = some (if fb_ct (pkb (V 254) b r) 8 = 0 then nI 1 else nI 0, V) := by
  have h5 := ok_b5 ok
  have hc := ok_c24 ok
  have hp := ok_p1l ok hr h0
  have ep := ok_p1 ok hr h0
  unfold f_X10_mayPick
  refine lp_run 8 (fun n k => f_X10_mayPick_L5 (nI b) (nI r) n V (if fb_ct (pkb (V 254) b r) k = 0 then nI 1 else nI 0) (nI k)) _ ?_ ?_ (n := FU) (k := 0) (by omega) (by decide)
  · intro n
    rw [f_X10_mayPick_L5.eq_2]
    by_cases q : fb_ct (pkb (V 254) b r) 8 = 0
    · simp (disch := omega) only [bd_s, bv_s, lt_d, jn_d, om_s, om_n, zl0, zl1, zl2, zl3, zl4, zl5, zl6, zl7, zl8, zl9, zl10, zl11, zl12, zl13, zl16, zl23, zl24, zl26, zl31, zl32, zl35, zl36, zl40, zl42, zl45, zl48, zl57, zl58, zl59, zl60, zl61, zl62, zl63, zl64, zl65, zl78, zl90, zl94, zl97, zl98, zl114, zl122, zl126, zl244, zl290, zl291, zl326, zl335, zl361, zl2527, zl2888, neg1, le_T, le_F, lt_T, lt_F, eq_T, eq_F, m1_ne, m1_ne', m1_lt, m1_le, lt_m1, le_m1, cl_n, ib_T, nI_add, pk_mul, sub_n, add_m1, sub_m1, m1_1, m1_1', pw_d, st_e, st_n, vu_e, vu_n, up_e, up_n, if_true, if_false, true_or, or_true, false_or, or_false, eq_self, reduceCtorEq, not_true_eq_false, not_false_eq_true, q]
    · simp (disch := omega) only [bd_s, bv_s, lt_d, jn_d, om_s, om_n, zl0, zl1, zl2, zl3, zl4, zl5, zl6, zl7, zl8, zl9, zl10, zl11, zl12, zl13, zl16, zl23, zl24, zl26, zl31, zl32, zl35, zl36, zl40, zl42, zl45, zl48, zl57, zl58, zl59, zl60, zl61, zl62, zl63, zl64, zl65, zl78, zl90, zl94, zl97, zl98, zl114, zl122, zl126, zl244, zl290, zl291, zl326, zl335, zl361, zl2527, zl2888, neg1, le_T, le_F, lt_T, lt_F, eq_T, eq_F, m1_ne, m1_ne', m1_lt, m1_le, lt_m1, le_m1, cl_n, ib_T, nI_add, pk_mul, sub_n, add_m1, sub_m1, m1_1, m1_1', pw_d, st_e, st_n, vu_e, vu_n, up_e, up_n, if_true, if_false, true_or, or_true, false_or, or_false, eq_self, reduceCtorEq, not_true_eq_false, not_false_eq_true, q]
  · intro n k hk
    rw [f_X10_mayPick_L5.eq_2, fb_ct_succ]
    have l1 := sm_letter (V := V) (show p1 (V 254) r < 24 by omega) hk
    have l2 := sm_letter (V := V) (show r < 24 by omega) hk
    have l3 := sm_work (V := V) (show b < 5 by omega) hk
    unfold pkb
    by_cases q : fb_ct (fun f => decide (V 254 (2 + 12 * p1 (V 254) r + 4 + f) ≠ V 254 (2 + 12 * r + 4 + f) ∧ V 254 (290 + 9 * b + 1 + f) ≠ V 254 (2 + 12 * p1 (V 254) r + 4 + f) ∧ V 254 (290 + 9 * b + 1 + f) ≠ V 254 (2 + 12 * r + 4 + f))) k = 0
    · by_cases q1 : V 254 (2 + 12 * p1 (V 254) r + 4 + k) = V 254 (2 + 12 * r + 4 + k)
      · simp (disch := omega) only [bd_s, bv_s, lt_d, jn_d, om_s, om_n, zl0, zl1, zl2, zl3, zl4, zl5, zl6, zl7, zl8, zl9, zl10, zl11, zl12, zl13, zl16, zl23, zl24, zl26, zl31, zl32, zl35, zl36, zl40, zl42, zl45, zl48, zl57, zl58, zl59, zl60, zl61, zl62, zl63, zl64, zl65, zl78, zl90, zl94, zl97, zl98, zl114, zl122, zl126, zl244, zl290, zl291, zl326, zl335, zl361, zl2527, zl2888, neg1, le_T, le_F, lt_T, lt_F, eq_T, eq_F, m1_ne, m1_ne', m1_lt, m1_le, lt_m1, le_m1, cl_n, ib_T, nI_add, pk_mul, sub_n, add_m1, sub_m1, m1_1, m1_1', pw_d, st_e, st_n, vu_e, vu_n, up_e, up_n, if_true, if_false, true_or, or_true, false_or, or_false, eq_self, reduceCtorEq, not_true_eq_false, not_false_eq_true, sm_revAt, ep, l1, l2, q1, q, ne_eq, false_and, decide_false, Bool.false_eq_true]
      · by_cases q2 : V 254 (290 + 9 * b + 1 + k) = V 254 (2 + 12 * p1 (V 254) r + 4 + k)
        · simp (disch := omega) only [bd_s, bv_s, lt_d, jn_d, om_s, om_n, zl0, zl1, zl2, zl3, zl4, zl5, zl6, zl7, zl8, zl9, zl10, zl11, zl12, zl13, zl16, zl23, zl24, zl26, zl31, zl32, zl35, zl36, zl40, zl42, zl45, zl48, zl57, zl58, zl59, zl60, zl61, zl62, zl63, zl64, zl65, zl78, zl90, zl94, zl97, zl98, zl114, zl122, zl126, zl244, zl290, zl291, zl326, zl335, zl361, zl2527, zl2888, neg1, le_T, le_F, lt_T, lt_F, eq_T, eq_F, m1_ne, m1_ne', m1_lt, m1_le, lt_m1, le_m1, cl_n, ib_T, nI_add, pk_mul, sub_n, add_m1, sub_m1, m1_1, m1_1', pw_d, st_e, st_n, vu_e, vu_n, up_e, up_n, if_true, if_false, true_or, or_true, false_or, or_false, eq_self, reduceCtorEq, not_true_eq_false, not_false_eq_true, sm_revAt, ep, l1, l2, l3, q1, q2, q, ne_eq, false_and, and_false, decide_false, Bool.false_eq_true]
        · by_cases q3 : V 254 (290 + 9 * b + 1 + k) = V 254 (2 + 12 * r + 4 + k)
          · have q2' : ¬ V 254 (2 + 12 * r + 4 + k) = V 254 (2 + 12 * p1 (V 254) r + 4 + k) := fun z => q2 (q3.trans z)
            simp (disch := omega) only [bd_s, bv_s, lt_d, jn_d, om_s, om_n, zl0, zl1, zl2, zl3, zl4, zl5, zl6, zl7, zl8, zl9, zl10, zl11, zl12, zl13, zl16, zl23, zl24, zl26, zl31, zl32, zl35, zl36, zl40, zl42, zl45, zl48, zl57, zl58, zl59, zl60, zl61, zl62, zl63, zl64, zl65, zl78, zl90, zl94, zl97, zl98, zl114, zl122, zl126, zl244, zl290, zl291, zl326, zl335, zl361, zl2527, zl2888, neg1, le_T, le_F, lt_T, lt_F, eq_T, eq_F, m1_ne, m1_ne', m1_lt, m1_le, lt_m1, le_m1, cl_n, ib_T, nI_add, pk_mul, sub_n, add_m1, sub_m1, m1_1, m1_1', pw_d, st_e, st_n, vu_e, vu_n, up_e, up_n, if_true, if_false, true_or, or_true, false_or, or_false, eq_self, reduceCtorEq, not_true_eq_false, not_false_eq_true, sm_revAt, ep, l1, l2, l3, q1, q2, q3, q2', q, ne_eq, false_and, and_false, decide_false, Bool.false_eq_true]
          · simp (disch := omega) only [bd_s, bv_s, lt_d, jn_d, om_s, om_n, zl0, zl1, zl2, zl3, zl4, zl5, zl6, zl7, zl8, zl9, zl10, zl11, zl12, zl13, zl16, zl23, zl24, zl26, zl31, zl32, zl35, zl36, zl40, zl42, zl45, zl48, zl57, zl58, zl59, zl60, zl61, zl62, zl63, zl64, zl65, zl78, zl90, zl94, zl97, zl98, zl114, zl122, zl126, zl244, zl290, zl291, zl326, zl335, zl361, zl2527, zl2888, neg1, le_T, le_F, lt_T, lt_F, eq_T, eq_F, m1_ne, m1_ne', m1_lt, m1_le, lt_m1, le_m1, cl_n, ib_T, nI_add, pk_mul, sub_n, add_m1, sub_m1, m1_1, m1_1', pw_d, st_e, st_n, vu_e, vu_n, up_e, up_n, if_true, if_false, true_or, or_true, false_or, or_false, eq_self, reduceCtorEq, not_true_eq_false, not_false_eq_true, sm_revAt, ep, l1, l2, l3, q1, q2, q3, q, ne_eq, true_and, and_true, decide_true] <;> rfl
    · have q' : ∀ z, ¬ fb_ct (fun f => decide (V 254 (2 + 12 * p1 (V 254) r + 4 + f) ≠ V 254 (2 + 12 * r + 4 + f) ∧ V 254 (290 + 9 * b + 1 + f) ≠ V 254 (2 + 12 * p1 (V 254) r + 4 + f) ∧ V 254 (290 + 9 * b + 1 + f) ≠ V 254 (2 + 12 * r + 4 + f))) k + z = 0 := fun z => by omega
      rw [if_neg q, if_neg (q' _)]
      simp (disch := omega) only [bd_s, bv_s, lt_d, jn_d, om_s, om_n, zl0, zl1, zl2, zl3, zl4, zl5, zl6, zl7, zl8, zl9, zl10, zl11, zl12, zl13, zl16, zl23, zl24, zl26, zl31, zl32, zl35, zl36, zl40, zl42, zl45, zl48, zl57, zl58, zl59, zl60, zl61, zl62, zl63, zl64, zl65, zl78, zl90, zl94, zl97, zl98, zl114, zl122, zl126, zl244, zl290, zl291, zl326, zl335, zl361, zl2527, zl2888, neg1, le_T, le_F, lt_T, lt_F, eq_T, eq_F, m1_ne, m1_ne', m1_lt, m1_le, lt_m1, le_m1, cl_n, ib_T, nI_add, pk_mul, sub_n, add_m1, sub_m1, m1_1, m1_1', pw_d, st_e, st_n, vu_e, vu_n, up_e, up_n, if_true, if_false, true_or, or_true, false_or, or_false, eq_self, reduceCtorEq, not_true_eq_false, not_false_eq_true, sm_revAt, ep, l1, l2]
theorem mm_pick {b r : Nat} (ok : OKg (V 254)) (hb : b < bcn (V 254)) (hr : r < cnt (V 254)) (ha : ¬ arc (V 254) r) (h0 : 0 < r) (hm : fb_ct (pkb (V 254) b r) 8 = 0) : f_X10_pickIt V (nI b) (nI r) = some (nI (fb_ct (pkn (V 254) b r) 8), va_up V 254 (bwg (V 254) b (hd (V 254) b) (pkl (V 254) b r))) := by
  have h5 := ok_b5 ok
  have hc := ok_c24 ok
  have hp := ok_p1l ok hr h0
  have ep := ok_p1 ok hr h0
  have e8 : fb_put (V 254) (pkl (V 254) b r) (290 + 9 * b + 1) 8 = bwg (V 254) b (hd (V 254) b) (pkl (V 254) b r) := by
    funext j
    by_cases e1 : j = 290 + 9 * b
    · subst e1; rw [fb_put_out (by omega), bwg_h]; exact ok_hd ok hb
    · by_cases e2 : 290 + 9 * b + 1 ≤ j ∧ j < 290 + 9 * b + 1 + 8
      · obtain ⟨f, rfl⟩ : ∃ f, j = 290 + 9 * b + 1 + f := ⟨j - (290 + 9 * b + 1), by omega⟩
        rw [fb_put_in e2.1 e2.2, bwg_l (by omega)]; congr 1; omega
      · rw [fb_put_out (by omega), bwg_o (by omega)]
  rw [← e8]
  unfold f_X10_pickIt
  simp (disch := omega) only [bd_s, bv_s, lt_d, jn_d, om_s, om_n, zl0, zl1, zl2, zl3, zl4, zl5, zl6, zl7, zl8, zl9, zl10, zl11, zl12, zl13, zl16, zl23, zl24, zl26, zl31, zl32, zl35, zl36, zl40, zl42, zl45, zl48, zl57, zl58, zl59, zl60, zl61, zl62, zl63, zl64, zl65, zl78, zl90, zl94, zl97, zl98, zl114, zl122, zl126, zl244, zl290, zl291, zl326, zl335, zl361, zl2527, zl2888, neg1, le_T, le_F, lt_T, lt_F, eq_T, eq_F, m1_ne, m1_ne', m1_lt, m1_le, lt_m1, le_m1, cl_n, ib_T, nI_add, pk_mul, sub_n, add_m1, sub_m1, m1_1, m1_1', pw_d, st_e, st_n, vu_e, vu_n, up_e, up_n, if_true, if_false, true_or, or_true, false_or, or_false, eq_self, reduceCtorEq, not_true_eq_false, not_false_eq_true, sm_isBra_T (V := V) (ok_bcn ok) h5 hb, sm_isOpen_T (V := V) ok hr ha, mm_mayP ok hb hr h0, hm]
  refine Eq.trans (congrArg (fun W => f_X10_pickIt_L52 (nI b) (nI r) FU W (nI 0) (nI 0)) (show V = va_up V 254 (fb_put (V 254) (pkl (V 254) b r) (290 + 9 * b + 1) 0) by rw [fb_put_0, vu_id])) ?_
  refine lp_run 8 (fun n k => f_X10_pickIt_L52 (nI b) (nI r) n (va_up V 254 (fb_put (V 254) (pkl (V 254) b r) (290 + 9 * b + 1) k)) (nI (fb_ct (pkn (V 254) b r) k)) (nI k)) _ ?_ ?_ (n := FU) (k := 0) (by omega) (by decide)
  · intro n
    rw [f_X10_pickIt_L52.eq_2]
    simp (disch := omega) only [bd_s, bv_s, lt_d, jn_d, om_s, om_n, zl0, zl1, zl2, zl3, zl4, zl5, zl6, zl7, zl8, zl9, zl10, zl11, zl12, zl13, zl16, zl23, zl24, zl26, zl31, zl32, zl35, zl36, zl40, zl42, zl45, zl48, zl57, zl58, zl59, zl60, zl61, zl62, zl63, zl64, zl65, zl78, zl90, zl94, zl97, zl98, zl114, zl122, zl126, zl244, zl290, zl291, zl326, zl335, zl361, zl2527, zl2888, neg1, le_T, le_F, lt_T, lt_F, eq_T, eq_F, m1_ne, m1_ne', m1_lt, m1_le, lt_m1, le_m1, cl_n, ib_T, nI_add, pk_mul, sub_n, add_m1, sub_m1, m1_1, m1_1', pw_d, st_e, st_n, vu_e, vu_n, up_e, up_n, if_true, if_false, true_or, or_true, false_or, or_false, eq_self, reduceCtorEq, not_true_eq_false, not_false_eq_true]
  · intro n k hk
    have hs := fb_put_succ (V 254) (pkl (V 254) b r) (290 + 9 * b + 1) k
    have gb : fb_put (V 254) (pkl (V 254) b r) (290 + 9 * b + 1) k (2 + 12 * p1 (V 254) r + 4 + k) = V 254 (2 + 12 * p1 (V 254) r + 4 + k) := fb_put_out (by omega)
    have go : fb_put (V 254) (pkl (V 254) b r) (290 + 9 * b + 1) k (2 + 12 * r + 4 + k) = V 254 (2 + 12 * r + 4 + k) := fb_put_out (by omega)
    have gp : fb_put (V 254) (pkl (V 254) b r) (290 + 9 * b + 1) k (2 + 12 * r) = nI (p1 (V 254) r) := by rw [fb_put_out (by omega)]; exact ep
    have gw : fb_put (V 254) (pkl (V 254) b r) (290 + 9 * b + 1) k (290 + 9 * b + 1 + k) = V 254 (290 + 9 * b + 1 + k) := fb_put_out (by omega)
    rw [← hs]
    generalize fb_put (V 254) (pkl (V 254) b r) (290 + 9 * b + 1) k = P at *
    have l1 := sm_letter (V := va_up V 254 P) (show p1 (V 254) r < 24 by omega) hk
    have l2 := sm_letter (V := va_up V 254 P) (show r < 24 by omega) hk
    have l3 := sm_work (V := va_up V 254 P) (show b < 5 by omega) hk
    rw [vu_e, gb] at l1
    rw [vu_e, go] at l2
    rw [vu_e, gw] at l3
    rw [f_X10_pickIt_L52.eq_2, fb_ct_succ]
    have keep : ∀ x, x = V 254 (290 + 9 * b + 1 + k) → upd P (290 + 9 * b + 1 + k) x = P := fun x hx => by
      funext j
      by_cases e : j = 290 + 9 * b + 1 + k
      · subst e; rw [up_e, gw, hx]
      · rw [up_n e]
    by_cases q1 : V 254 (2 + 12 * p1 (V 254) r + 4 + k) = V 254 (2 + 12 * r + 4 + k)
    · have el : pkl (V 254) b r k = V 254 (290 + 9 * b + 1 + k) := by unfold pkl; rw [if_neg (fun z => z q1)]
      have en : pkn (V 254) b r k = false := by unfold pkn; exact decide_eq_false (fun z => z.1 q1)
      rw [keep _ el, en]
      simp (disch := omega) only [bd_s, bv_s, lt_d, jn_d, om_s, om_n, zl0, zl1, zl2, zl3, zl4, zl5, zl6, zl7, zl8, zl9, zl10, zl11, zl12, zl13, zl16, zl23, zl24, zl26, zl31, zl32, zl35, zl36, zl40, zl42, zl45, zl48, zl57, zl58, zl59, zl60, zl61, zl62, zl63, zl64, zl65, zl78, zl90, zl94, zl97, zl98, zl114, zl122, zl126, zl244, zl290, zl291, zl326, zl335, zl361, zl2527, zl2888, neg1, le_T, le_F, lt_T, lt_F, eq_T, eq_F, m1_ne, m1_ne', m1_lt, m1_le, lt_m1, le_m1, cl_n, ib_T, nI_add, pk_mul, sub_n, add_m1, sub_m1, m1_1, m1_1', pw_d, st_e, st_n, vu_e, vu_n, up_e, up_n, if_true, if_false, true_or, or_true, false_or, or_false, eq_self, reduceCtorEq, not_true_eq_false, not_false_eq_true, sm_revAt, gp, l1, l2, q1, Bool.false_eq_true, Nat.add_zero]
    · have el : pkl (V 254) b r k = V 254 (2 + 12 * r + 4 + k) := by unfold pkl; rw [if_pos q1]
      by_cases q2 : V 254 (290 + 9 * b + 1 + k) = V 254 (2 + 12 * r + 4 + k)
      · have en : pkn (V 254) b r k = false := by unfold pkn; exact decide_eq_false (fun z => z.2 q2)
        rw [keep _ (el.trans q2.symm), en]
        simp (disch := omega) only [bd_s, bv_s, lt_d, jn_d, om_s, om_n, zl0, zl1, zl2, zl3, zl4, zl5, zl6, zl7, zl8, zl9, zl10, zl11, zl12, zl13, zl16, zl23, zl24, zl26, zl31, zl32, zl35, zl36, zl40, zl42, zl45, zl48, zl57, zl58, zl59, zl60, zl61, zl62, zl63, zl64, zl65, zl78, zl90, zl94, zl97, zl98, zl114, zl122, zl126, zl244, zl290, zl291, zl326, zl335, zl361, zl2527, zl2888, neg1, le_T, le_F, lt_T, lt_F, eq_T, eq_F, m1_ne, m1_ne', m1_lt, m1_le, lt_m1, le_m1, cl_n, ib_T, nI_add, pk_mul, sub_n, add_m1, sub_m1, m1_1, m1_1', pw_d, st_e, st_n, vu_e, vu_n, up_e, up_n, if_true, if_false, true_or, or_true, false_or, or_false, eq_self, reduceCtorEq, not_true_eq_false, not_false_eq_true, sm_revAt, gp, l1, l2, l3, q1, q2, Bool.false_eq_true, Nat.add_zero]
      · have en : pkn (V 254) b r k = true := by unfold pkn; exact decide_eq_true ⟨q1, q2⟩
        rw [el, en]
        simp (disch := omega) only [bd_s, bv_s, lt_d, jn_d, om_s, om_n, zl0, zl1, zl2, zl3, zl4, zl5, zl6, zl7, zl8, zl9, zl10, zl11, zl12, zl13, zl16, zl23, zl24, zl26, zl31, zl32, zl35, zl36, zl40, zl42, zl45, zl48, zl57, zl58, zl59, zl60, zl61, zl62, zl63, zl64, zl65, zl78, zl90, zl94, zl97, zl98, zl114, zl122, zl126, zl244, zl290, zl291, zl326, zl335, zl361, zl2527, zl2888, neg1, le_T, le_F, lt_T, lt_F, eq_T, eq_F, m1_ne, m1_ne', m1_lt, m1_le, lt_m1, le_m1, cl_n, ib_T, nI_add, pk_mul, sub_n, add_m1, sub_m1, m1_1, m1_1', pw_d, st_e, st_n, vu_e, vu_n, up_e, up_n, if_true, if_false, true_or, or_true, false_or, or_false, eq_self, reduceCtorEq, not_true_eq_false, not_false_eq_true, sm_revAt, sm_braAt, gp, l1, l2, l3, q1, q2, st_v2]
theorem mm_pick_1 {a d : Int32} (ok : OKg (V 254)) (h : Bad a (bcn (V 254))) : MNo (f_X10_pickIt V a d) V 1 := by
  have h5 := ok_b5 ok
  refine MNo.of (r := m1) ?_
  unfold f_X10_pickIt
  simp (disch := omega) only [bd_s, bv_s, lt_d, jn_d, om_s, om_n, zl0, zl1, zl2, zl3, zl4, zl5, zl6, zl7, zl8, zl9, zl10, zl11, zl12, zl13, zl16, zl23, zl24, zl26, zl31, zl32, zl35, zl36, zl40, zl42, zl45, zl48, zl57, zl58, zl59, zl60, zl61, zl62, zl63, zl64, zl65, zl78, zl90, zl94, zl97, zl98, zl114, zl122, zl126, zl244, zl290, zl291, zl326, zl335, zl361, zl2527, zl2888, neg1, le_T, le_F, lt_T, lt_F, eq_T, eq_F, m1_ne, m1_ne', m1_lt, m1_le, lt_m1, le_m1, cl_n, ib_T, nI_add, pk_mul, sub_n, add_m1, sub_m1, m1_1, m1_1', pw_d, st_e, st_n, vu_e, vu_n, up_e, up_n, if_true, if_false, true_or, or_true, false_or, or_false, eq_self, reduceCtorEq, not_true_eq_false, not_false_eq_true, sm_isBra_F (V := V) (ok_bcn ok) (ok_b1 ok) h5 h, sm_th]
theorem mm_pick_2 {b : Nat} {d : Int32} (ok : OKg (V 254)) (hb : b < bcn (V 254)) (h : Bad d (cnt (V 254)) ∨ ∃ r, d = nI r ∧ r < cnt (V 254) ∧ arc (V 254) r) : MNo (f_X10_pickIt V (nI b) d) V 2 := by
  have h5 := ok_b5 ok
  refine MNo.of (r := m1) ?_
  unfold f_X10_pickIt
  rcases h with h | ⟨r, rfl, h1, h2⟩
  · simp (disch := omega) only [bd_s, bv_s, lt_d, jn_d, om_s, om_n, zl0, zl1, zl2, zl3, zl4, zl5, zl6, zl7, zl8, zl9, zl10, zl11, zl12, zl13, zl16, zl23, zl24, zl26, zl31, zl32, zl35, zl36, zl40, zl42, zl45, zl48, zl57, zl58, zl59, zl60, zl61, zl62, zl63, zl64, zl65, zl78, zl90, zl94, zl97, zl98, zl114, zl122, zl126, zl244, zl290, zl291, zl326, zl335, zl361, zl2527, zl2888, neg1, le_T, le_F, lt_T, lt_F, eq_T, eq_F, m1_ne, m1_ne', m1_lt, m1_le, lt_m1, le_m1, cl_n, ib_T, nI_add, pk_mul, sub_n, add_m1, sub_m1, m1_1, m1_1', pw_d, st_e, st_n, vu_e, vu_n, up_e, up_n, if_true, if_false, true_or, or_true, false_or, or_false, eq_self, reduceCtorEq, not_true_eq_false, not_false_eq_true, sm_isBra_T (V := V) (ok_bcn ok) h5 hb, sm_isOpen_B (V := V) ok h, sm_th]
  · simp (disch := omega) only [bd_s, bv_s, lt_d, jn_d, om_s, om_n, zl0, zl1, zl2, zl3, zl4, zl5, zl6, zl7, zl8, zl9, zl10, zl11, zl12, zl13, zl16, zl23, zl24, zl26, zl31, zl32, zl35, zl36, zl40, zl42, zl45, zl48, zl57, zl58, zl59, zl60, zl61, zl62, zl63, zl64, zl65, zl78, zl90, zl94, zl97, zl98, zl114, zl122, zl126, zl244, zl290, zl291, zl326, zl335, zl361, zl2527, zl2888, neg1, le_T, le_F, lt_T, lt_F, eq_T, eq_F, m1_ne, m1_ne', m1_lt, m1_le, lt_m1, le_m1, cl_n, ib_T, nI_add, pk_mul, sub_n, add_m1, sub_m1, m1_1, m1_1', pw_d, st_e, st_n, vu_e, vu_n, up_e, up_n, if_true, if_false, true_or, or_true, false_or, or_false, eq_self, reduceCtorEq, not_true_eq_false, not_false_eq_true, sm_isBra_T (V := V) (ok_bcn ok) h5 hb, sm_isOpen_F (V := V) ok h1 h2, sm_th]
theorem mm_pick_3 {b r : Nat} (ok : OKg (V 254)) (hb : b < bcn (V 254)) (hr : r < cnt (V 254)) (ha : ¬ arc (V 254) r) (h : r = 0 ∨ 0 < fb_ct (pkb (V 254) b r) 8) : MNo (f_X10_pickIt V (nI b) (nI r)) V 3 := by
  have h5 := ok_b5 ok
  have hc := ok_c24 ok
  refine MNo.of (r := m1) ?_
  unfold f_X10_pickIt
  by_cases h0 : r = 0
  · subst h0
    simp (disch := omega) only [bd_s, bv_s, lt_d, jn_d, om_s, om_n, zl0, zl1, zl2, zl3, zl4, zl5, zl6, zl7, zl8, zl9, zl10, zl11, zl12, zl13, zl16, zl23, zl24, zl26, zl31, zl32, zl35, zl36, zl40, zl42, zl45, zl48, zl57, zl58, zl59, zl60, zl61, zl62, zl63, zl64, zl65, zl78, zl90, zl94, zl97, zl98, zl114, zl122, zl126, zl244, zl290, zl291, zl326, zl335, zl361, zl2527, zl2888, neg1, le_T, le_F, lt_T, lt_F, eq_T, eq_F, m1_ne, m1_ne', m1_lt, m1_le, lt_m1, le_m1, cl_n, ib_T, nI_add, pk_mul, sub_n, add_m1, sub_m1, m1_1, m1_1', pw_d, st_e, st_n, vu_e, vu_n, up_e, up_n, if_true, if_false, true_or, or_true, false_or, or_false, eq_self, reduceCtorEq, not_true_eq_false, not_false_eq_true, sm_isBra_T (V := V) (ok_bcn ok) h5 hb, sm_isOpen_T (V := V) ok hr ha, sm_th]
  · have q := h.resolve_left h0
    simp (disch := omega) only [bd_s, bv_s, lt_d, jn_d, om_s, om_n, zl0, zl1, zl2, zl3, zl4, zl5, zl6, zl7, zl8, zl9, zl10, zl11, zl12, zl13, zl16, zl23, zl24, zl26, zl31, zl32, zl35, zl36, zl40, zl42, zl45, zl48, zl57, zl58, zl59, zl60, zl61, zl62, zl63, zl64, zl65, zl78, zl90, zl94, zl97, zl98, zl114, zl122, zl126, zl244, zl290, zl291, zl326, zl335, zl361, zl2527, zl2888, neg1, le_T, le_F, lt_T, lt_F, eq_T, eq_F, m1_ne, m1_ne', m1_lt, m1_le, lt_m1, le_m1, cl_n, ib_T, nI_add, pk_mul, sub_n, add_m1, sub_m1, m1_1, m1_1', pw_d, st_e, st_n, vu_e, vu_n, up_e, up_n, if_true, if_false, true_or, or_true, false_or, or_false, eq_self, reduceCtorEq, not_true_eq_false, not_false_eq_true, sm_isBra_T (V := V) (ok_bcn ok) h5 hb, sm_isOpen_T (V := V) ok hr ha, mm_mayP ok hb hr (by omega), show ¬ fb_ct (pkb (V 254) b r) 8 = 0 by omega, sm_th]
/-! tags -/
theorem mm_tags (hT : ∀ t, t < 26 → TagOk (V 254) t) (hc : cnt (V 254) ≤ 24) : f_X10_tags V = some (nI (tgn (V 254)), V) := by
  unfold f_X10_tags
  refine lp_run 26 (fun n k => f_X10_tags_L4 n V (nI (fb_ct (fun t => decide (V 254 (335 + t) ≠ m1)) k)) (nI k)) _ ?_ ?_ (n := FU) (k := 0) (by omega) (by decide)
  · intro n
    rw [f_X10_tags_L4.eq_2]
    simp (disch := omega) only [bd_s, bv_s, lt_d, jn_d, om_s, om_n, zl0, zl1, zl2, zl3, zl4, zl5, zl6, zl7, zl8, zl9, zl10, zl11, zl12, zl13, zl16, zl23, zl24, zl26, zl31, zl32, zl35, zl36, zl40, zl42, zl45, zl48, zl57, zl58, zl59, zl60, zl61, zl62, zl63, zl64, zl65, zl78, zl90, zl94, zl97, zl98, zl114, zl122, zl126, zl244, zl290, zl291, zl326, zl335, zl361, zl2527, zl2888, neg1, le_T, le_F, lt_T, lt_F, eq_T, eq_F, m1_ne, m1_ne', m1_lt, m1_le, lt_m1, le_m1, cl_n, ib_T, nI_add, pk_mul, sub_n, add_m1, sub_m1, m1_1, m1_1', pw_d, st_e, st_n, vu_e, vu_n, up_e, up_n, if_true, if_false, true_or, or_true, false_or, or_false, eq_self, reduceCtorEq, not_true_eq_false, not_false_eq_true] <;> rfl
  · intro n k hk
    rw [f_X10_tags_L4.eq_2, fb_ct_succ]
    rcases hT k hk with q | ⟨q, q2, q3⟩
    · simp (disch := omega) only [bd_s, bv_s, lt_d, jn_d, om_s, om_n, zl0, zl1, zl2, zl3, zl4, zl5, zl6, zl7, zl8, zl9, zl10, zl11, zl12, zl13, zl16, zl23, zl24, zl26, zl31, zl32, zl35, zl36, zl40, zl42, zl45, zl48, zl57, zl58, zl59, zl60, zl61, zl62, zl63, zl64, zl65, zl78, zl90, zl94, zl97, zl98, zl114, zl122, zl126, zl244, zl290, zl291, zl326, zl335, zl361, zl2527, zl2888, neg1, le_T, le_F, lt_T, lt_F, eq_T, eq_F, m1_ne, m1_ne', m1_lt, m1_le, lt_m1, le_m1, cl_n, ib_T, nI_add, pk_mul, sub_n, add_m1, sub_m1, m1_1, m1_1', pw_d, st_e, st_n, vu_e, vu_n, up_e, up_n, if_true, if_false, true_or, or_true, false_or, or_false, eq_self, reduceCtorEq, not_true_eq_false, not_false_eq_true, q, ne_eq, decide_false, Bool.false_eq_true]
    · simp (disch := omega) only [bd_s, bv_s, lt_d, jn_d, om_s, om_n, zl0, zl1, zl2, zl3, zl4, zl5, zl6, zl7, zl8, zl9, zl10, zl11, zl12, zl13, zl16, zl23, zl24, zl26, zl31, zl32, zl35, zl36, zl40, zl42, zl45, zl48, zl57, zl58, zl59, zl60, zl61, zl62, zl63, zl64, zl65, zl78, zl90, zl94, zl97, zl98, zl114, zl122, zl126, zl244, zl290, zl291, zl326, zl335, zl361, zl2527, zl2888, neg1, le_T, le_F, lt_T, lt_F, eq_T, eq_F, m1_ne, m1_ne', m1_lt, m1_le, lt_m1, le_m1, cl_n, ib_T, nI_add, pk_mul, sub_n, add_m1, sub_m1, m1_1, m1_1', pw_d, st_e, st_n, vu_e, vu_n, up_e, up_n, if_true, if_false, true_or, or_true, false_or, or_false, eq_self, reduceCtorEq, not_true_eq_false, not_false_eq_true, q, ne_eq, decide_true]
theorem x65 (t : Nat) : 335 + (65 + t) - 65 = 335 + t := by omega
theorem mm_tag {t r : Nat} (ok : OKg (V 254)) (ht : t < 26) (hr : r < cnt (V 254)) (ha : ¬ arc (V 254) r) (hf : V 254 (335 + t) = m1) : f_X10_tagIt V (nI (65 + t)) (nI r) = some (nI (tgn (upd (V 254) (335 + t) (nI r))), va_up V 254 (upd (V 254) (335 + t) (nI r))) := by
  have hc := ok_c24 ok
  have ok2 : OKg (upd (V 254) (335 + t) (nI r)) := OK_tg ok ht (.inr ⟨r, hr, ha, rfl⟩)
  have tt := mm_tags (V := va_up V 254 (upd (V 254) (335 + t) (nI r))) (fun t' h => ok_tag ok2 h) (ok_c24 ok2)
  unfold f_X10_tagIt
  simp (disch := omega) only [bd_s, bv_s, lt_d, jn_d, om_s, om_n, zl0, zl1, zl2, zl3, zl4, zl5, zl6, zl7, zl8, zl9, zl10, zl11, zl12, zl13, zl16, zl23, zl24, zl26, zl31, zl32, zl35, zl36, zl40, zl42, zl45, zl48, zl57, zl58, zl59, zl60, zl61, zl62, zl63, zl64, zl65, zl78, zl90, zl94, zl97, zl98, zl114, zl122, zl126, zl244, zl290, zl291, zl326, zl335, zl361, zl2527, zl2888, neg1, le_T, le_F, lt_T, lt_F, eq_T, eq_F, m1_ne, m1_ne', m1_lt, m1_le, lt_m1, le_m1, cl_n, ib_T, nI_add, pk_mul, sub_n, add_m1, sub_m1, m1_1, m1_1', pw_d, st_e, st_n, vu_e, vu_n, up_e, up_n, if_true, if_false, true_or, or_true, false_or, or_false, eq_self, reduceCtorEq, not_true_eq_false, not_false_eq_true, sm_in_T V (A := (nI (65 + t)).toInt64) (B := 65) (C := 90) rfl w65 w90 (nI_le (show 65 ≤ 65 + t by omega) (by omega)) (nI_le (show 65 + t ≤ 90 by omega) (by omega)), sm_isOpen_T (V := V) ok hr ha, x65, hf]
  rw [st_vu, tt]
  rfl
theorem mm_tag_1 {a d : Int32} (h : a < nI 65 ∨ nI 90 < a) : MNo (f_X10_tagIt V a d) V 1 := by
  refine MNo.of (r := m1) ?_
  unfold f_X10_tagIt
  simp (disch := omega) only [bd_s, bv_s, lt_d, jn_d, om_s, om_n, zl0, zl1, zl2, zl3, zl4, zl5, zl6, zl7, zl8, zl9, zl10, zl11, zl12, zl13, zl16, zl23, zl24, zl26, zl31, zl32, zl35, zl36, zl40, zl42, zl45, zl48, zl57, zl58, zl59, zl60, zl61, zl62, zl63, zl64, zl65, zl78, zl90, zl94, zl97, zl98, zl114, zl122, zl126, zl244, zl290, zl291, zl326, zl335, zl361, zl2527, zl2888, neg1, le_T, le_F, lt_T, lt_F, eq_T, eq_F, m1_ne, m1_ne', m1_lt, m1_le, lt_m1, le_m1, cl_n, ib_T, nI_add, pk_mul, sub_n, add_m1, sub_m1, m1_1, m1_1', pw_d, st_e, st_n, vu_e, vu_n, up_e, up_n, if_true, if_false, true_or, or_true, false_or, or_false, eq_self, reduceCtorEq, not_true_eq_false, not_false_eq_true, sm_in_F V (A := a.toInt64) (B := 65) (C := 90) rfl w65 w90 h, sm_th]
theorem mm_tag_2 {t : Nat} {d : Int32} (ok : OKg (V 254)) (ht : t < 26) (h : Bad d (cnt (V 254)) ∨ ∃ r, d = nI r ∧ r < cnt (V 254) ∧ arc (V 254) r) : MNo (f_X10_tagIt V (nI (65 + t)) d) V 2 := by
  refine MNo.of (r := m1) ?_
  unfold f_X10_tagIt
  have e := sm_in_T V (A := (nI (65 + t)).toInt64) (B := 65) (C := 90) rfl w65 w90 (nI_le (show 65 ≤ 65 + t by omega) (by omega)) (nI_le (show 65 + t ≤ 90 by omega) (by omega))
  rcases h with h | ⟨r, rfl, h1, h2⟩
  · simp (disch := omega) only [bd_s, bv_s, lt_d, jn_d, om_s, om_n, zl0, zl1, zl2, zl3, zl4, zl5, zl6, zl7, zl8, zl9, zl10, zl11, zl12, zl13, zl16, zl23, zl24, zl26, zl31, zl32, zl35, zl36, zl40, zl42, zl45, zl48, zl57, zl58, zl59, zl60, zl61, zl62, zl63, zl64, zl65, zl78, zl90, zl94, zl97, zl98, zl114, zl122, zl126, zl244, zl290, zl291, zl326, zl335, zl361, zl2527, zl2888, neg1, le_T, le_F, lt_T, lt_F, eq_T, eq_F, m1_ne, m1_ne', m1_lt, m1_le, lt_m1, le_m1, cl_n, ib_T, nI_add, pk_mul, sub_n, add_m1, sub_m1, m1_1, m1_1', pw_d, st_e, st_n, vu_e, vu_n, up_e, up_n, if_true, if_false, true_or, or_true, false_or, or_false, eq_self, reduceCtorEq, not_true_eq_false, not_false_eq_true, e, sm_isOpen_B (V := V) ok h, sm_th]
  · simp (disch := omega) only [bd_s, bv_s, lt_d, jn_d, om_s, om_n, zl0, zl1, zl2, zl3, zl4, zl5, zl6, zl7, zl8, zl9, zl10, zl11, zl12, zl13, zl16, zl23, zl24, zl26, zl31, zl32, zl35, zl36, zl40, zl42, zl45, zl48, zl57, zl58, zl59, zl60, zl61, zl62, zl63, zl64, zl65, zl78, zl90, zl94, zl97, zl98, zl114, zl122, zl126, zl244, zl290, zl291, zl326, zl335, zl361, zl2527, zl2888, neg1, le_T, le_F, lt_T, lt_F, eq_T, eq_F, m1_ne, m1_ne', m1_lt, m1_le, lt_m1, le_m1, cl_n, ib_T, nI_add, pk_mul, sub_n, add_m1, sub_m1, m1_1, m1_1', pw_d, st_e, st_n, vu_e, vu_n, up_e, up_n, if_true, if_false, true_or, or_true, false_or, or_false, eq_self, reduceCtorEq, not_true_eq_false, not_false_eq_true, e, sm_isOpen_F (V := V) ok h1 h2, sm_th]
theorem mm_tag_3 {t r : Nat} (ok : OKg (V 254)) (ht : t < 26) (hr : r < cnt (V 254)) (ha : ¬ arc (V 254) r) (hf : ¬ V 254 (335 + t) = m1) : MNo (f_X10_tagIt V (nI (65 + t)) (nI r)) V 3 := by
  refine MNo.of (r := m1) ?_
  unfold f_X10_tagIt
  have e := sm_in_T V (A := (nI (65 + t)).toInt64) (B := 65) (C := 90) rfl w65 w90 (nI_le (show 65 ≤ 65 + t by omega) (by omega)) (nI_le (show 65 + t ≤ 90 by omega) (by omega))
  simp (disch := omega) only [bd_s, bv_s, lt_d, jn_d, om_s, om_n, zl0, zl1, zl2, zl3, zl4, zl5, zl6, zl7, zl8, zl9, zl10, zl11, zl12, zl13, zl16, zl23, zl24, zl26, zl31, zl32, zl35, zl36, zl40, zl42, zl45, zl48, zl57, zl58, zl59, zl60, zl61, zl62, zl63, zl64, zl65, zl78, zl90, zl94, zl97, zl98, zl114, zl122, zl126, zl244, zl290, zl291, zl326, zl335, zl361, zl2527, zl2888, neg1, le_T, le_F, lt_T, lt_F, eq_T, eq_F, m1_ne, m1_ne', m1_lt, m1_le, lt_m1, le_m1, cl_n, ib_T, nI_add, pk_mul, sub_n, add_m1, sub_m1, m1_1, m1_1', pw_d, st_e, st_n, vu_e, vu_n, up_e, up_n, if_true, if_false, true_or, or_true, false_or, or_false, eq_self, reduceCtorEq, not_true_eq_false, not_false_eq_true, e, sm_isOpen_T (V := V) ok hr ha, x65, hf, sm_th]
theorem mm_utg {t : Nat} (ht : t < 26) (hf : ¬ V 254 (335 + t) = m1) : f_X10_untagIt V (nI (65 + t)) = some (V 254 (335 + t), va_up V 254 (upd (V 254) (335 + t) m1)) := by
  unfold f_X10_untagIt
  have e := sm_in_T V (A := (nI (65 + t)).toInt64) (B := 65) (C := 90) rfl w65 w90 (nI_le (show 65 ≤ 65 + t by omega) (by omega)) (nI_le (show 65 + t ≤ 90 by omega) (by omega))
  simp (disch := omega) only [bd_s, bv_s, lt_d, jn_d, om_s, om_n, zl0, zl1, zl2, zl3, zl4, zl5, zl6, zl7, zl8, zl9, zl10, zl11, zl12, zl13, zl16, zl23, zl24, zl26, zl31, zl32, zl35, zl36, zl40, zl42, zl45, zl48, zl57, zl58, zl59, zl60, zl61, zl62, zl63, zl64, zl65, zl78, zl90, zl94, zl97, zl98, zl114, zl122, zl126, zl244, zl290, zl291, zl326, zl335, zl361, zl2527, zl2888, neg1, le_T, le_F, lt_T, lt_F, eq_T, eq_F, m1_ne, m1_ne', m1_lt, m1_le, lt_m1, le_m1, cl_n, ib_T, nI_add, pk_mul, sub_n, add_m1, sub_m1, m1_1, m1_1', pw_d, st_e, st_n, vu_e, vu_n, up_e, up_n, if_true, if_false, true_or, or_true, false_or, or_false, eq_self, reduceCtorEq, not_true_eq_false, not_false_eq_true, e, x65, hf]
  rw [st_vu]
theorem mm_utg_1 {a : Int32} (h : (a < nI 65 ∨ nI 90 < a) ∨ ∃ t, t < 26 ∧ a = nI (65 + t) ∧ V 254 (335 + t) = m1) : MNo (f_X10_untagIt V a) V 1 := by
  refine MNo.of (r := m1) ?_
  unfold f_X10_untagIt
  rcases h with h | ⟨t, ht, rfl, hf⟩
  · simp (disch := omega) only [bd_s, bv_s, lt_d, jn_d, om_s, om_n, zl0, zl1, zl2, zl3, zl4, zl5, zl6, zl7, zl8, zl9, zl10, zl11, zl12, zl13, zl16, zl23, zl24, zl26, zl31, zl32, zl35, zl36, zl40, zl42, zl45, zl48, zl57, zl58, zl59, zl60, zl61, zl62, zl63, zl64, zl65, zl78, zl90, zl94, zl97, zl98, zl114, zl122, zl126, zl244, zl290, zl291, zl326, zl335, zl361, zl2527, zl2888, neg1, le_T, le_F, lt_T, lt_F, eq_T, eq_F, m1_ne, m1_ne', m1_lt, m1_le, lt_m1, le_m1, cl_n, ib_T, nI_add, pk_mul, sub_n, add_m1, sub_m1, m1_1, m1_1', pw_d, st_e, st_n, vu_e, vu_n, up_e, up_n, if_true, if_false, true_or, or_true, false_or, or_false, eq_self, reduceCtorEq, not_true_eq_false, not_false_eq_true, sm_in_F V (A := a.toInt64) (B := 65) (C := 90) rfl w65 w90 h, sm_th]
  · have e := sm_in_T V (A := (nI (65 + t)).toInt64) (B := 65) (C := 90) rfl w65 w90 (nI_le (show 65 ≤ 65 + t by omega) (by omega)) (nI_le (show 65 + t ≤ 90 by omega) (by omega))
    simp (disch := omega) only [bd_s, bv_s, lt_d, jn_d, om_s, om_n, zl0, zl1, zl2, zl3, zl4, zl5, zl6, zl7, zl8, zl9, zl10, zl11, zl12, zl13, zl16, zl23, zl24, zl26, zl31, zl32, zl35, zl36, zl40, zl42, zl45, zl48, zl57, zl58, zl59, zl60, zl61, zl62, zl63, zl64, zl65, zl78, zl90, zl94, zl97, zl98, zl114, zl122, zl126, zl244, zl290, zl291, zl326, zl335, zl361, zl2527, zl2888, neg1, le_T, le_F, lt_T, lt_F, eq_T, eq_F, m1_ne, m1_ne', m1_lt, m1_le, lt_m1, le_m1, cl_n, ib_T, nI_add, pk_mul, sub_n, add_m1, sub_m1, m1_1, m1_1', pw_d, st_e, st_n, vu_e, vu_n, up_e, up_n, if_true, if_false, true_or, or_true, false_or, or_false, eq_self, reduceCtorEq, not_true_eq_false, not_false_eq_true, e, x65, hf, sm_th]
/-! in use, archive -/
theorem sm_used (ok : OKg (V 254)) : Rd (fun W => f_X10_used W) V (usd (V 254)) := by
  have h5 := ok_b5 ok
  have hc := ok_c24 ok
  have tl : Rd (fun W => f_X10_used_L34 FU W (ust (V 254) 0) (nI 0)) V (usd (V 254)) := by
    refine lp_rd 26 (fun n k W => f_X10_used_L34 n W (ust (V 254) k) (nI k)) ?_ ?_ (n := FU) (k := 0) (by omega) (by unfold FU; omega)
    · intro n h k'
      show f_X10_used_L34 _ _ _ _ = _
      rw [f_X10_used_L34.eq_2]
      simp (disch := omega) only [bd_s, bv_s, lt_d, jn_d, om_s, om_n, zl0, zl1, zl2, zl3, zl4, zl5, zl6, zl7, zl8, zl9, zl10, zl11, zl12, zl13, zl16, zl23, zl24, zl26, zl31, zl32, zl35, zl36, zl40, zl42, zl45, zl48, zl57, zl58, zl59, zl60, zl61, zl62, zl63, zl64, zl65, zl78, zl90, zl94, zl97, zl98, zl114, zl122, zl126, zl244, zl290, zl291, zl326, zl335, zl361, zl2527, zl2888, neg1, le_T, le_F, lt_T, lt_F, eq_T, eq_F, m1_ne, m1_ne', m1_lt, m1_le, lt_m1, le_m1, cl_n, ib_T, nI_add, pk_mul, sub_n, add_m1, sub_m1, m1_1, m1_1', pw_d, st_e, st_n, vu_e, vu_n, up_e, up_n, if_true, if_false, true_or, or_true, false_or, or_false, eq_self, reduceCtorEq, not_true_eq_false, not_false_eq_true] <;> rfl
    · intro n k h k' hk
      show ∃ h2 k2, f_X10_used_L34 _ _ _ _ = f_X10_used_L34 _ _ _ _
      rcases ok_tag ok hk with q | ⟨q, q2, q3⟩
      · refine ⟨h, k', ?_⟩
        rw [f_X10_used_L34.eq_2, ust]
        simp (disch := omega) only [bd_s, bv_s, lt_d, jn_d, om_s, om_n, zl0, zl1, zl2, zl3, zl4, zl5, zl6, zl7, zl8, zl9, zl10, zl11, zl12, zl13, zl16, zl23, zl24, zl26, zl31, zl32, zl35, zl36, zl40, zl42, zl45, zl48, zl57, zl58, zl59, zl60, zl61, zl62, zl63, zl64, zl65, zl78, zl90, zl94, zl97, zl98, zl114, zl122, zl126, zl244, zl290, zl291, zl326, zl335, zl361, zl2527, zl2888, neg1, le_T, le_F, lt_T, lt_F, eq_T, eq_F, m1_ne, m1_ne', m1_lt, m1_le, lt_m1, le_m1, cl_n, ib_T, nI_add, pk_mul, sub_n, add_m1, sub_m1, m1_1, m1_1', pw_d, st_e, st_n, vu_e, vu_n, up_e, up_n, if_true, if_false, true_or, or_true, false_or, or_false, eq_self, reduceCtorEq, not_true_eq_false, not_false_eq_true, scr_254, q]
      · obtain ⟨h2, k2, e⟩ := sm_anc ok q2 h k'
        have e : f_X10_ancestorsOf (scr V h k') (nI (tg (V 254) k)) = some (Ag (V 254) (tg (V 254) k), scr V h2 k2) := e
        refine ⟨h2, k2, ?_⟩
        rw [f_X10_used_L34.eq_2, ust]
        simp (disch := omega) only [bd_s, bv_s, lt_d, jn_d, om_s, om_n, zl0, zl1, zl2, zl3, zl4, zl5, zl6, zl7, zl8, zl9, zl10, zl11, zl12, zl13, zl16, zl23, zl24, zl26, zl31, zl32, zl35, zl36, zl40, zl42, zl45, zl48, zl57, zl58, zl59, zl60, zl61, zl62, zl63, zl64, zl65, zl78, zl90, zl94, zl97, zl98, zl114, zl122, zl126, zl244, zl290, zl291, zl326, zl335, zl361, zl2527, zl2888, neg1, le_T, le_F, lt_T, lt_F, eq_T, eq_F, m1_ne, m1_ne', m1_lt, m1_le, lt_m1, le_m1, cl_n, ib_T, nI_add, pk_mul, sub_n, add_m1, sub_m1, m1_1, m1_1', pw_d, st_e, st_n, vu_e, vu_n, up_e, up_n, if_true, if_false, true_or, or_true, false_or, or_false, eq_self, reduceCtorEq, not_true_eq_false, not_false_eq_true, scr_254, q, e]
  have jl : ∀ (jj : Mem → Int32 → Option (Int32 × Mem)), Rj (fun W => f_X10_used_L4 jj FU W (usb (V 254) 0) (nI 0)) V (fun W => jj W (usb (V 254) (bcn (V 254)))) := by
    intro jj
    refine lp_rj (G := fun W => jj W (usb (V 254) (bcn (V 254)))) (bcn (V 254)) (fun n k W => f_X10_used_L4 jj n W (usb (V 254) k) (nI k)) ?_ ?_ (n := FU) (k := 0) (by omega) (by unfold FU; omega)
    · intro n h k'
      show f_X10_used_L4 _ _ _ _ _ = _
      rw [f_X10_used_L4.eq_2]
      simp (disch := omega) only [bd_s, bv_s, lt_d, jn_d, om_s, om_n, zl0, zl1, zl2, zl3, zl4, zl5, zl6, zl7, zl8, zl9, zl10, zl11, zl12, zl13, zl16, zl23, zl24, zl26, zl31, zl32, zl35, zl36, zl40, zl42, zl45, zl48, zl57, zl58, zl59, zl60, zl61, zl62, zl63, zl64, zl65, zl78, zl90, zl94, zl97, zl98, zl114, zl122, zl126, zl244, zl290, zl291, zl326, zl335, zl361, zl2527, zl2888, neg1, le_T, le_F, lt_T, lt_F, eq_T, eq_F, m1_ne, m1_ne', m1_lt, m1_le, lt_m1, le_m1, cl_n, ib_T, nI_add, pk_mul, sub_n, add_m1, sub_m1, m1_1, m1_1', pw_d, st_e, st_n, vu_e, vu_n, up_e, up_n, if_true, if_false, true_or, or_true, false_or, or_false, eq_self, reduceCtorEq, not_true_eq_false, not_false_eq_true, scr_254, ok_bcn ok]
    · intro n k h k' hk
      obtain ⟨h2, k2, e⟩ := sm_anc ok (ok_hc ok hk) h k'
      have e : f_X10_ancestorsOf (scr V h k') (nI (hd (V 254) k)) = some (Ag (V 254) (hd (V 254) k), scr V h2 k2) := e
      refine ⟨h2, k2, ?_⟩
      show f_X10_used_L4 _ _ _ _ _ = f_X10_used_L4 _ _ _ _ _
      rw [f_X10_used_L4.eq_2, usb]
      simp (disch := omega) only [bd_s, bv_s, lt_d, jn_d, om_s, om_n, zl0, zl1, zl2, zl3, zl4, zl5, zl6, zl7, zl8, zl9, zl10, zl11, zl12, zl13, zl16, zl23, zl24, zl26, zl31, zl32, zl35, zl36, zl40, zl42, zl45, zl48, zl57, zl58, zl59, zl60, zl61, zl62, zl63, zl64, zl65, zl78, zl90, zl94, zl97, zl98, zl114, zl122, zl126, zl244, zl290, zl291, zl326, zl335, zl361, zl2527, zl2888, neg1, le_T, le_F, lt_T, lt_F, eq_T, eq_F, m1_ne, m1_ne', m1_lt, m1_le, lt_m1, le_m1, cl_n, ib_T, nI_add, pk_mul, sub_n, add_m1, sub_m1, m1_1, m1_1', pw_d, st_e, st_n, vu_e, vu_n, up_e, up_n, if_true, if_false, true_or, or_true, false_or, or_false, eq_self, reduceCtorEq, not_true_eq_false, not_false_eq_true, scr_254, ok_bcn ok, sm_headOf (V := scr V h k') (show k < 5 by omega), ok_hd ok hk, e]
  intro h k
  obtain ⟨h1, k1, e1⟩ := jl (fun V32 x1_32 => f_X10_used_L34 FU V32 x1_32 0) h k
  obtain ⟨h2, k2, e2⟩ := tl h1 k1
  refine ⟨h2, k2, ?_⟩
  show f_X10_used _ = _
  unfold f_X10_used
  rw [jn_d]
  exact e1.trans e2
theorem mm_ar (ok : OKg (V 254)) : MOk (f_X10_archiveIt V) V (nI (arn (V 254) (usd (V 254)) (cnt (V 254)))) (arg (V 254) (usd (V 254)) (cnt (V 254))) := by
  have hc := ok_c24 ok
  obtain ⟨h, k, e⟩ := (sm_used ok).at
  refine ⟨h, k, ?_⟩
  unfold f_X10_archiveIt
  have e : f_X10_used V = some (usd (V 254), scr V h k) := e
  rw [e, bd_s]
  generalize hu : usd (V 254) = u
  refine Eq.trans (congrArg (fun W => f_X10_archiveIt_L9 u FU W (nI 0) (nI 0)) (show scr V h k = scr (va_up V 254 (arg (V 254) u 0)) h k by rw [arg_0, vu_id])) ?_
  refine lp_run (cnt (V 254)) (fun n r => f_X10_archiveIt_L9 u n (scr (va_up V 254 (arg (V 254) u r)) h k) (nI (arn (V 254) u r)) (nI r)) _ ?_ ?_ (n := FU) (k := 0) (by omega) (by unfold FU; omega)
  · intro n
    rw [f_X10_archiveIt_L9.eq_2]
    have e0 : scr (va_up V 254 (arg (V 254) u (cnt (V 254)))) h k 254 0 = nI (cnt (V 254)) := by rw [scr_254, vu_e, arg_o (by omega)]; exact ok_cnt ok
    simp (disch := omega) only [bd_s, bv_s, lt_d, jn_d, om_s, om_n, zl0, zl1, zl2, zl3, zl4, zl5, zl6, zl7, zl8, zl9, zl10, zl11, zl12, zl13, zl16, zl23, zl24, zl26, zl31, zl32, zl35, zl36, zl40, zl42, zl45, zl48, zl57, zl58, zl59, zl60, zl61, zl62, zl63, zl64, zl65, zl78, zl90, zl94, zl97, zl98, zl114, zl122, zl126, zl244, zl290, zl291, zl326, zl335, zl361, zl2527, zl2888, neg1, le_T, le_F, lt_T, lt_F, eq_T, eq_F, m1_ne, m1_ne', m1_lt, m1_le, lt_m1, le_m1, cl_n, ib_T, nI_add, pk_mul, sub_n, add_m1, sub_m1, m1_1, m1_1', pw_d, st_e, st_n, vu_e, vu_n, up_e, up_n, if_true, if_false, true_or, or_true, false_or, or_false, eq_self, reduceCtorEq, not_true_eq_false, not_false_eq_true, e0]
  · intro n r hr
    rw [f_X10_archiveIt_L9.eq_2]
    have e0 : scr (va_up V 254 (arg (V 254) u r)) h k 254 0 = nI (cnt (V 254)) := by rw [scr_254, vu_e, arg_o (by omega)]; exact ok_cnt ok
    have e3 : scr (va_up V 254 (arg (V 254) u r)) h k 254 (2 + 12 * r + 3) = V 254 (2 + 12 * r + 3) := by rw [scr_254, vu_e, arg_o (by omega)]
    have ws : ∀ x, stv (scr (va_up V 254 (arg (V 254) u r)) h k) 254 (2 + 12 * r + 3) x = scr (va_up V 254 (upd (arg (V 254) u r) (2 + 12 * r + 3) x)) h k := fun x => by
      rw [st_vu, scr_254, scr_vu, vu_e, vu_vu]
    have same : ∀ x, x = V 254 (2 + 12 * r + 3) → upd (arg (V 254) u r) (2 + 12 * r + 3) x = arg (V 254) u r := fun x hx => by
      funext j
      by_cases q : j = 2 + 12 * r + 3
      · subst q; rw [up_e, hx, arg_o (by omega)]
      · rw [up_n q]
    have es : ∀ x, (if bt u r = true then nI 1 else nI 0) = x → ((u >>> (nI r &&& nI 31)) &&& nI 1) = x := fun x hx => by rw [sh_bt (by omega)]; exact hx
    rw [show arn (V 254) u (r + 1) = arn (V 254) u r + (if (!bt u r && decide (V 254 (2 + 12 * r + 3) = nI 0)) = true then 1 else 0) from rfl, arg_s]
    cases q : bt u r
    · rcases ok_ar ok hr with z | z
      · simp (disch := omega) only [bd_s, bv_s, lt_d, jn_d, om_s, om_n, zl0, zl1, zl2, zl3, zl4, zl5, zl6, zl7, zl8, zl9, zl10, zl11, zl12, zl13, zl16, zl23, zl24, zl26, zl31, zl32, zl35, zl36, zl40, zl42, zl45, zl48, zl57, zl58, zl59, zl60, zl61, zl62, zl63, zl64, zl65, zl78, zl90, zl94, zl97, zl98, zl114, zl122, zl126, zl244, zl290, zl291, zl326, zl335, zl361, zl2527, zl2888, neg1, le_T, le_F, lt_T, lt_F, eq_T, eq_F, m1_ne, m1_ne', m1_lt, m1_le, lt_m1, le_m1, cl_n, ib_T, nI_add, pk_mul, sub_n, add_m1, sub_m1, m1_1, m1_1', pw_d, st_e, st_n, vu_e, vu_n, up_e, up_n, if_true, if_false, true_or, or_true, false_or, or_false, eq_self, reduceCtorEq, not_true_eq_false, not_false_eq_true, e0, es (nI 0) (by rw [q]; rfl), sm_revAt, e3, z, ws, Bool.not_false, Bool.true_and, decide_true]
      · have same1 := same (nI 1) z.symm
        simp (disch := omega) only [bd_s, bv_s, lt_d, jn_d, om_s, om_n, zl0, zl1, zl2, zl3, zl4, zl5, zl6, zl7, zl8, zl9, zl10, zl11, zl12, zl13, zl16, zl23, zl24, zl26, zl31, zl32, zl35, zl36, zl40, zl42, zl45, zl48, zl57, zl58, zl59, zl60, zl61, zl62, zl63, zl64, zl65, zl78, zl90, zl94, zl97, zl98, zl114, zl122, zl126, zl244, zl290, zl291, zl326, zl335, zl361, zl2527, zl2888, neg1, le_T, le_F, lt_T, lt_F, eq_T, eq_F, m1_ne, m1_ne', m1_lt, m1_le, lt_m1, le_m1, cl_n, ib_T, nI_add, pk_mul, sub_n, add_m1, sub_m1, m1_1, m1_1', pw_d, st_e, st_n, vu_e, vu_n, up_e, up_n, if_true, if_false, true_or, or_true, false_or, or_false, eq_self, reduceCtorEq, not_true_eq_false, not_false_eq_true, e0, es (nI 0) (by rw [q]; rfl), sm_revAt, e3, z, ws, same1, Bool.not_false, Bool.true_and, decide_false, Bool.false_eq_true, Nat.add_zero]
    · have same1 := same _ rfl
      simp (disch := omega) only [bd_s, bv_s, lt_d, jn_d, om_s, om_n, zl0, zl1, zl2, zl3, zl4, zl5, zl6, zl7, zl8, zl9, zl10, zl11, zl12, zl13, zl16, zl23, zl24, zl26, zl31, zl32, zl35, zl36, zl40, zl42, zl45, zl48, zl57, zl58, zl59, zl60, zl61, zl62, zl63, zl64, zl65, zl78, zl90, zl94, zl97, zl98, zl114, zl122, zl126, zl244, zl290, zl291, zl326, zl335, zl361, zl2527, zl2888, neg1, le_T, le_F, lt_T, lt_F, eq_T, eq_F, m1_ne, m1_ne', m1_lt, m1_le, lt_m1, le_m1, cl_n, ib_T, nI_add, pk_mul, sub_n, add_m1, sub_m1, m1_1, m1_1', pw_d, st_e, st_n, vu_e, vu_n, up_e, up_n, if_true, if_false, true_or, or_true, false_or, or_false, eq_self, reduceCtorEq, not_true_eq_false, not_false_eq_true, e0, es (nI 1) (by rw [q]; rfl), sm_revAt, e3, ws, same1, Bool.not_true, Bool.false_and, Bool.false_eq_true, Nat.add_zero, Bool.true_eq_false]
end MM
