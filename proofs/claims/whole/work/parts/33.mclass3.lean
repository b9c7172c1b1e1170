/-! PURE, 33: the class's refusals of pairs, picks, tags -/
section CM
variable {V : Mem} {g : Arr}
theorem cx_pair {b o : Nat} (ok : OKg g) (R : RelS V g) (hb : b < bcn g) (ho : o < bcn g) (hne : b ≠ o) : f_X8_refusalOfPair V (nI b) (nI o) = some (0, V) := by
  have h5 := ok_b5 ok
  unfold f_X8_refusalOfPair
  simp (disch := omega) only [bd_s, bv_s, lt_d, jn_d, om_s, om_n, zl0, zl1, zl2, zl3, zl4, zl5, zl6, zl7, zl8, zl9, zl10, zl11, zl12, zl13, zl16, zl23, zl24, zl26, zl31, zl32, zl35, zl36, zl40, zl42, zl45, zl48, zl57, zl58, zl59, zl60, zl61, zl62, zl63, zl64, zl65, zl78, zl90, zl94, zl97, zl98, zl114, zl122, zl126, zl244, zl290, zl291, zl326, zl335, zl361, zl2527, zl2888, neg1, le_T, le_F, lt_T, lt_F, eq_T, eq_F, m1_ne, m1_ne', m1_lt, m1_le, lt_m1, le_m1, cl_n, ib_T, nI_add, pk_mul, sub_n, add_m1, sub_m1, m1_1, m1_1', pw_d, st_e, st_n, vu_e, vu_n, up_e, up_n, if_true, if_false, true_or, or_true, false_or, or_false, eq_self, reduceCtorEq, not_true_eq_false, not_false_eq_true, cx_hasB ok R hb, cx_hasB ok R ho]
theorem cx_pair_1 {a d : Int32} (ok : OKg g) (R : RelS V g) (h : Bad a (bcn g) ∨ Bad d (bcn g)) : f_X8_refusalOfPair V a d = some (1, V) := by
  have h5 := ok_b5 ok
  unfold f_X8_refusalOfPair
  rcases bad_or a (show bcn g < 2 ^ 31 by omega) with ⟨b, hb, rfl⟩ | hB
  · have q := h.resolve_left (fun q => by
      rcases q with q | q
      · rw [lt_F (by omega) (by omega)] at q; exact q
      · rw [le_F (by omega) (by omega)] at q; exact q)
    simp (disch := omega) only [bd_s, bv_s, lt_d, jn_d, om_s, om_n, zl0, zl1, zl2, zl3, zl4, zl5, zl6, zl7, zl8, zl9, zl10, zl11, zl12, zl13, zl16, zl23, zl24, zl26, zl31, zl32, zl35, zl36, zl40, zl42, zl45, zl48, zl57, zl58, zl59, zl60, zl61, zl62, zl63, zl64, zl65, zl78, zl90, zl94, zl97, zl98, zl114, zl122, zl126, zl244, zl290, zl291, zl326, zl335, zl361, zl2527, zl2888, neg1, le_T, le_F, lt_T, lt_F, eq_T, eq_F, m1_ne, m1_ne', m1_lt, m1_le, lt_m1, le_m1, cl_n, ib_T, nI_add, pk_mul, sub_n, add_m1, sub_m1, m1_1, m1_1', pw_d, st_e, st_n, vu_e, vu_n, up_e, up_n, if_true, if_false, true_or, or_true, false_or, or_false, eq_self, reduceCtorEq, not_true_eq_false, not_false_eq_true, cx_hasB ok R hb, cx_hasB_B ok R q]
  · simp (disch := omega) only [bd_s, bv_s, lt_d, jn_d, om_s, om_n, zl0, zl1, zl2, zl3, zl4, zl5, zl6, zl7, zl8, zl9, zl10, zl11, zl12, zl13, zl16, zl23, zl24, zl26, zl31, zl32, zl35, zl36, zl40, zl42, zl45, zl48, zl57, zl58, zl59, zl60, zl61, zl62, zl63, zl64, zl65, zl78, zl90, zl94, zl97, zl98, zl114, zl122, zl126, zl244, zl290, zl291, zl326, zl335, zl361, zl2527, zl2888, neg1, le_T, le_F, lt_T, lt_F, eq_T, eq_F, m1_ne, m1_ne', m1_lt, m1_le, lt_m1, le_m1, cl_n, ib_T, nI_add, pk_mul, sub_n, add_m1, sub_m1, m1_1, m1_1', pw_d, st_e, st_n, vu_e, vu_n, up_e, up_n, if_true, if_false, true_or, or_true, false_or, or_false, eq_self, reduceCtorEq, not_true_eq_false, not_false_eq_true, cx_hasB_B ok R hB]
theorem cx_pair_2 {b : Nat} (ok : OKg g) (R : RelS V g) (hb : b < bcn g) : f_X8_refusalOfPair V (nI b) (nI b) = some (2, V) := by
  unfold f_X8_refusalOfPair
  simp (disch := omega) only [bd_s, bv_s, lt_d, jn_d, om_s, om_n, zl0, zl1, zl2, zl3, zl4, zl5, zl6, zl7, zl8, zl9, zl10, zl11, zl12, zl13, zl16, zl23, zl24, zl26, zl31, zl32, zl35, zl36, zl40, zl42, zl45, zl48, zl57, zl58, zl59, zl60, zl61, zl62, zl63, zl64, zl65, zl78, zl90, zl94, zl97, zl98, zl114, zl122, zl126, zl244, zl290, zl291, zl326, zl335, zl361, zl2527, zl2888, neg1, le_T, le_F, lt_T, lt_F, eq_T, eq_F, m1_ne, m1_ne', m1_lt, m1_le, lt_m1, le_m1, cl_n, ib_T, nI_add, pk_mul, sub_n, add_m1, sub_m1, m1_1, m1_1', pw_d, st_e, st_n, vu_e, vu_n, up_e, up_n, if_true, if_false, true_or, or_true, false_or, or_false, eq_self, reduceCtorEq, not_true_eq_false, not_false_eq_true, cx_hasB ok R hb]
theorem cx_keep {b o : Nat} (ok : OKg g) (R : RelS V g) (hb : b < bcn g) (ho : o < bcn g) (hne : b ≠ o) : (mayM g b o → f_X8_refusalOfKeeping V (nI b) (nI o) = some (0, V)) ∧ (¬ mayM g b o → f_X8_refusalOfKeeping V (nI b) (nI o) = some (4, V)) := by
  have h5 := ok_b5 ok
  have hc := ok_c24 ok
  have h1 := ok_hc ok hb
  have h2 := ok_hc ok ho
  have h8 : edn g b ≤ 8 := fb_ct_le _ 8
  have h9 : edn g o ≤ 8 := fb_ct_le _ 8
  have ct := sx_cont (V := V) (x := Ag g (hd g b)) (show hd g o < 24 by omega)
  have fl := cx_full ok R
  constructor
  · rintro ⟨q1, q2, q3, q4⟩
    rw [q3] at ct
    rw [if_neg (show ¬ cnt g = 24 by omega)] at fl
    unfold f_X8_refusalOfKeeping
    simp (disch := omega) only [bd_s, bv_s, lt_d, jn_d, om_s, om_n, zl0, zl1, zl2, zl3, zl4, zl5, zl6, zl7, zl8, zl9, zl10, zl11, zl12, zl13, zl16, zl23, zl24, zl26, zl31, zl32, zl35, zl36, zl40, zl42, zl45, zl48, zl57, zl58, zl59, zl60, zl61, zl62, zl63, zl64, zl65, zl78, zl90, zl94, zl97, zl98, zl114, zl122, zl126, zl244, zl290, zl291, zl326, zl335, zl361, zl2527, zl2888, neg1, le_T, le_F, lt_T, lt_F, eq_T, eq_F, m1_ne, m1_ne', m1_lt, m1_le, lt_m1, le_m1, cl_n, ib_T, nI_add, pk_mul, sub_n, add_m1, sub_m1, m1_1, m1_1', pw_d, st_e, st_n, vu_e, vu_n, up_e, up_n, if_true, if_false, true_or, or_true, false_or, or_false, eq_self, reduceCtorEq, not_true_eq_false, not_false_eq_true, cx_pair ok R hb ho hne, cx_ed ok R hb, cx_ed ok R ho, q1, q2, cx_hd ok R hb, cx_hd ok R ho, cx_as ok R h1, ct, fl, Bool.false_eq_true, show (0 : Nat) < 5 by decide]
  · intro q
    unfold f_X8_refusalOfKeeping
    by_cases q1 : edn g b = 0
    · by_cases q2 : edn g o = 0
      · cases q3 : bt (Ag g (hd g b)) (hd g o)
        · have q4 : cnt g = 24 := by
            rcases Nat.lt_or_ge (cnt g) 24 with z | z
            · exact absurd ⟨q1, q2, q3, z⟩ q
            · omega
          rw [q3] at ct
          rw [if_pos q4] at fl
          simp (disch := omega) only [bd_s, bv_s, lt_d, jn_d, om_s, om_n, zl0, zl1, zl2, zl3, zl4, zl5, zl6, zl7, zl8, zl9, zl10, zl11, zl12, zl13, zl16, zl23, zl24, zl26, zl31, zl32, zl35, zl36, zl40, zl42, zl45, zl48, zl57, zl58, zl59, zl60, zl61, zl62, zl63, zl64, zl65, zl78, zl90, zl94, zl97, zl98, zl114, zl122, zl126, zl244, zl290, zl291, zl326, zl335, zl361, zl2527, zl2888, neg1, le_T, le_F, lt_T, lt_F, eq_T, eq_F, m1_ne, m1_ne', m1_lt, m1_le, lt_m1, le_m1, cl_n, ib_T, nI_add, pk_mul, sub_n, add_m1, sub_m1, m1_1, m1_1', pw_d, st_e, st_n, vu_e, vu_n, up_e, up_n, if_true, if_false, true_or, or_true, false_or, or_false, eq_self, reduceCtorEq, not_true_eq_false, not_false_eq_true, cx_pair ok R hb ho hne, cx_ed ok R hb, cx_ed ok R ho, q1, q2, cx_hd ok R hb, cx_hd ok R ho, cx_as ok R h1, ct, fl, Bool.false_eq_true, show (0 : Nat) < 5 by decide]
        · rw [q3] at ct
          simp (disch := omega) only [bd_s, bv_s, lt_d, jn_d, om_s, om_n, zl0, zl1, zl2, zl3, zl4, zl5, zl6, zl7, zl8, zl9, zl10, zl11, zl12, zl13, zl16, zl23, zl24, zl26, zl31, zl32, zl35, zl36, zl40, zl42, zl45, zl48, zl57, zl58, zl59, zl60, zl61, zl62, zl63, zl64, zl65, zl78, zl90, zl94, zl97, zl98, zl114, zl122, zl126, zl244, zl290, zl291, zl326, zl335, zl361, zl2527, zl2888, neg1, le_T, le_F, lt_T, lt_F, eq_T, eq_F, m1_ne, m1_ne', m1_lt, m1_le, lt_m1, le_m1, cl_n, ib_T, nI_add, pk_mul, sub_n, add_m1, sub_m1, m1_1, m1_1', pw_d, st_e, st_n, vu_e, vu_n, up_e, up_n, if_true, if_false, true_or, or_true, false_or, or_false, eq_self, reduceCtorEq, not_true_eq_false, not_false_eq_true, cx_pair ok R hb ho hne, cx_ed ok R hb, cx_ed ok R ho, q1, q2, cx_hd ok R hb, cx_hd ok R ho, cx_as ok R h1, ct, show (0 : Nat) < 5 by decide]
      · simp (disch := omega) only [bd_s, bv_s, lt_d, jn_d, om_s, om_n, zl0, zl1, zl2, zl3, zl4, zl5, zl6, zl7, zl8, zl9, zl10, zl11, zl12, zl13, zl16, zl23, zl24, zl26, zl31, zl32, zl35, zl36, zl40, zl42, zl45, zl48, zl57, zl58, zl59, zl60, zl61, zl62, zl63, zl64, zl65, zl78, zl90, zl94, zl97, zl98, zl114, zl122, zl126, zl244, zl290, zl291, zl326, zl335, zl361, zl2527, zl2888, neg1, le_T, le_F, lt_T, lt_F, eq_T, eq_F, m1_ne, m1_ne', m1_lt, m1_le, lt_m1, le_m1, cl_n, ib_T, nI_add, pk_mul, sub_n, add_m1, sub_m1, m1_1, m1_1', pw_d, st_e, st_n, vu_e, vu_n, up_e, up_n, if_true, if_false, true_or, or_true, false_or, or_false, eq_self, reduceCtorEq, not_true_eq_false, not_false_eq_true, cx_pair ok R hb ho hne, cx_ed ok R hb, cx_ed ok R ho, q1, q2, cx_hd ok R hb, cx_hd ok R ho, cx_as ok R h1, ct, show (0 : Nat) < 5 by decide]
    · simp (disch := omega) only [bd_s, bv_s, lt_d, jn_d, om_s, om_n, zl0, zl1, zl2, zl3, zl4, zl5, zl6, zl7, zl8, zl9, zl10, zl11, zl12, zl13, zl16, zl23, zl24, zl26, zl31, zl32, zl35, zl36, zl40, zl42, zl45, zl48, zl57, zl58, zl59, zl60, zl61, zl62, zl63, zl64, zl65, zl78, zl90, zl94, zl97, zl98, zl114, zl122, zl126, zl244, zl290, zl291, zl326, zl335, zl361, zl2527, zl2888, neg1, le_T, le_F, lt_T, lt_F, eq_T, eq_F, m1_ne, m1_ne', m1_lt, m1_le, lt_m1, le_m1, cl_n, ib_T, nI_add, pk_mul, sub_n, add_m1, sub_m1, m1_1, m1_1', pw_d, st_e, st_n, vu_e, vu_n, up_e, up_n, if_true, if_false, true_or, or_true, false_or, or_false, eq_self, reduceCtorEq, not_true_eq_false, not_false_eq_true, cx_pair ok R hb ho hne, cx_ed ok R hb, q1, cx_hd ok R hb, cx_hd ok R ho, cx_as ok R h1, ct, show (0 : Nat) < 5 by decide]
theorem cx_keep_1 {a d : Int32} (ok : OKg g) (R : RelS V g) (h : Bad a (bcn g) ∨ Bad d (bcn g)) : f_X8_refusalOfKeeping V a d = some (1, V) := by
  unfold f_X8_refusalOfKeeping
  rw [cx_pair_1 ok R h, bd_s, if_pos (by decide), if_neg (by decide)]
theorem cx_keep_2 {b : Nat} (ok : OKg g) (R : RelS V g) (hb : b < bcn g) : f_X8_refusalOfKeeping V (nI b) (nI b) = some (2, V) := by
  unfold f_X8_refusalOfKeeping
  rw [cx_pair_2 ok R hb, bd_s, if_pos (by decide), if_neg (by decide)]
def mayC (g : Arr) (b o : Nat) : Prop := mayM g b o ∧ fb_ct (cfl g b o) 8 = 0
theorem cx_rMrg {b o : Nat} (ok : OKg g) (R : RelS V g) (hb : b < bcn g) (ho : o < bcn g) (hne : b ≠ o) : (mayC g b o → f_X8_refusalOfMerge V (nI b) (nI o) = some (0, V)) ∧ (¬ mayC g b o → f_X8_refusalOfMerge V (nI b) (nI o) = some (4, V)) := by
  have h8 : fb_ct (cfl g b o) 8 ≤ 8 := fb_ct_le _ 8
  constructor
  · rintro ⟨q1, q2⟩
    unfold f_X8_refusalOfMerge
    rw [(cx_keep ok R hb ho hne).1 q1, bd_s, if_pos (by decide), if_pos rfl, cx_cf ok R hb ho, bd_s, q2, if_pos (by decide)]
  · intro q
    unfold f_X8_refusalOfMerge
    by_cases q1 : mayM g b o
    · have q2 : 0 < fb_ct (cfl g b o) 8 := by
        rcases Nat.eq_zero_or_pos (fb_ct (cfl g b o) 8) with z | z
        · exact absurd ⟨q1, z⟩ q
        · exact z
      rw [(cx_keep ok R hb ho hne).1 q1, bd_s, if_pos (by decide), if_pos rfl, cx_cf ok R hb ho, bd_s, if_neg (nI_nle q2 (by omega))]
    · rw [(cx_keep ok R hb ho hne).2 q1, bd_s, if_pos (by decide), if_neg (by decide)]
theorem cx_rMrg_1 {a d : Int32} (ok : OKg g) (R : RelS V g) (h : Bad a (bcn g) ∨ Bad d (bcn g)) : f_X8_refusalOfMerge V a d = some (1, V) := by
  unfold f_X8_refusalOfMerge
  rw [cx_keep_1 ok R h, bd_s, if_pos (by decide), if_neg (by decide)]
theorem cx_rMrg_2 {b : Nat} (ok : OKg g) (R : RelS V g) (hb : b < bcn g) : f_X8_refusalOfMerge V (nI b) (nI b) = some (2, V) := by
  unfold f_X8_refusalOfMerge
  rw [cx_keep_2 ok R hb, bd_s, if_pos (by decide), if_neg (by decide)]
/-! picks -/
theorem cx_blk {b r : Nat} (ok : OKg g) (R : RelS V g) (hb : b < bcn g) (hr : r < cnt g) (h0 : 0 < r) : f_X8_blocksPicking V (nI b) (nI r) = some (if fb_ct (pkb g b r) 8 = 0 then nI 0 else nI 1, V) := by
  have hp := ok_p1l ok hr h0
  have ep := ok_p1 ok hr h0
  unfold f_X8_blocksPicking
  rw [cx_fp ok R hr, bd_s, ep]
  refine lp_up 8 (fun n k => fb_ct (pkb g b r) k = 0 → f_X8_blocksPicking_L12 (nI b) (nI r) (nI (p1 g r)) n V (nI k) = some (if fb_ct (pkb g b r) 8 = 0 then nI 0 else nI 1, V)) ?_ ?_ FU 0 (by omega) (by decide) rfl
  · intro n h
    rw [f_X8_blocksPicking_L12.eq_2, h]
    simp (disch := omega) only [bd_s, bv_s, lt_d, jn_d, om_s, om_n, zl0, zl1, zl2, zl3, zl4, zl5, zl6, zl7, zl8, zl9, zl10, zl11, zl12, zl13, zl16, zl23, zl24, zl26, zl31, zl32, zl35, zl36, zl40, zl42, zl45, zl48, zl57, zl58, zl59, zl60, zl61, zl62, zl63, zl64, zl65, zl78, zl90, zl94, zl97, zl98, zl114, zl122, zl126, zl244, zl290, zl291, zl326, zl335, zl361, zl2527, zl2888, neg1, le_T, le_F, lt_T, lt_F, eq_T, eq_F, m1_ne, m1_ne', m1_lt, m1_le, lt_m1, le_m1, cl_n, ib_T, nI_add, pk_mul, sub_n, add_m1, sub_m1, m1_1, m1_1', pw_d, st_e, st_n, vu_e, vu_n, up_e, up_n, if_true, if_false, true_or, or_true, false_or, or_false, eq_self, reduceCtorEq, not_true_eq_false, not_false_eq_true]
  · intro n k hk ih h
    rw [f_X8_blocksPicking_L12.eq_2]
    have es : fb_ct (pkb g b r) (k + 1) = fb_ct (pkb g b r) k + (if pkb g b r k then 1 else 0) := rfl
    have w := cx_wk ok R hb hk
    have l1 := cx_le ok R (show p1 g r < cnt g by omega) hk
    have l2 := cx_le ok R hr hk
    have fp := cx_fp ok R hr
    have ec : f_X8_isChanged V (nI r) (nI k) = some (if g (2 + 12 * r + 4 + k) = g (2 + 12 * p1 g r + 4 + k) then nI 0 else nI 1, V) := by
      unfold f_X8_isChanged
      rw [l2, bd_s, fp, bd_s, ep, l1, bd_s]
      split <;> rfl
    by_cases q : pkb g b r k = true
    · have hpos : 0 < fb_ct (pkb g b r) 8 := fb_ct_pos.mpr ⟨k, hk, q⟩
      unfold pkb at q
      obtain ⟨q1, q2, q3⟩ := of_decide_eq_true q
      have q1' : ¬ g (2 + 12 * r + 4 + k) = g (2 + 12 * p1 g r + 4 + k) := fun z => q1 z.symm
      rw [if_neg (show ¬ fb_ct (pkb g b r) 8 = 0 by omega)]
      simp (disch := omega) only [bd_s, bv_s, lt_d, jn_d, om_s, om_n, zl0, zl1, zl2, zl3, zl4, zl5, zl6, zl7, zl8, zl9, zl10, zl11, zl12, zl13, zl16, zl23, zl24, zl26, zl31, zl32, zl35, zl36, zl40, zl42, zl45, zl48, zl57, zl58, zl59, zl60, zl61, zl62, zl63, zl64, zl65, zl78, zl90, zl94, zl97, zl98, zl114, zl122, zl126, zl244, zl290, zl291, zl326, zl335, zl361, zl2527, zl2888, neg1, le_T, le_F, lt_T, lt_F, eq_T, eq_F, m1_ne, m1_ne', m1_lt, m1_le, lt_m1, le_m1, cl_n, ib_T, nI_add, pk_mul, sub_n, add_m1, sub_m1, m1_1, m1_1', pw_d, st_e, st_n, vu_e, vu_n, up_e, up_n, if_true, if_false, true_or, or_true, false_or, or_false, eq_self, reduceCtorEq, not_true_eq_false, not_false_eq_true, w, ec, q1', l1, l2, q2, q3]
    · have hf : pkb g b r k = false := by cases z : pkb g b r k <;> simp_all
      have ih := ih (by rw [es, h, hf]; rfl)
      unfold pkb at hf
      have q := of_decide_eq_false hf
      by_cases q1 : g (2 + 12 * r + 4 + k) = g (2 + 12 * p1 g r + 4 + k)
      · simp (disch := omega) only [bd_s, bv_s, lt_d, jn_d, om_s, om_n, zl0, zl1, zl2, zl3, zl4, zl5, zl6, zl7, zl8, zl9, zl10, zl11, zl12, zl13, zl16, zl23, zl24, zl26, zl31, zl32, zl35, zl36, zl40, zl42, zl45, zl48, zl57, zl58, zl59, zl60, zl61, zl62, zl63, zl64, zl65, zl78, zl90, zl94, zl97, zl98, zl114, zl122, zl126, zl244, zl290, zl291, zl326, zl335, zl361, zl2527, zl2888, neg1, le_T, le_F, lt_T, lt_F, eq_T, eq_F, m1_ne, m1_ne', m1_lt, m1_le, lt_m1, le_m1, cl_n, ib_T, nI_add, pk_mul, sub_n, add_m1, sub_m1, m1_1, m1_1', pw_d, st_e, st_n, vu_e, vu_n, up_e, up_n, if_true, if_false, true_or, or_true, false_or, or_false, eq_self, reduceCtorEq, not_true_eq_false, not_false_eq_true, w, ec, q1]
        exact ih
      · by_cases q2 : g (290 + 9 * b + 1 + k) = g (2 + 12 * p1 g r + 4 + k)
        · simp (disch := omega) only [bd_s, bv_s, lt_d, jn_d, om_s, om_n, zl0, zl1, zl2, zl3, zl4, zl5, zl6, zl7, zl8, zl9, zl10, zl11, zl12, zl13, zl16, zl23, zl24, zl26, zl31, zl32, zl35, zl36, zl40, zl42, zl45, zl48, zl57, zl58, zl59, zl60, zl61, zl62, zl63, zl64, zl65, zl78, zl90, zl94, zl97, zl98, zl114, zl122, zl126, zl244, zl290, zl291, zl326, zl335, zl361, zl2527, zl2888, neg1, le_T, le_F, lt_T, lt_F, eq_T, eq_F, m1_ne, m1_ne', m1_lt, m1_le, lt_m1, le_m1, cl_n, ib_T, nI_add, pk_mul, sub_n, add_m1, sub_m1, m1_1, m1_1', pw_d, st_e, st_n, vu_e, vu_n, up_e, up_n, if_true, if_false, true_or, or_true, false_or, or_false, eq_self, reduceCtorEq, not_true_eq_false, not_false_eq_true, w, ec, q1, l1, q2]
          exact ih
        · have q3 : g (290 + 9 * b + 1 + k) = g (2 + 12 * r + 4 + k) := by
            refine Classical.byContradiction fun z => q ⟨fun y => q1 y.symm, q2, z⟩
          simp (disch := omega) only [bd_s, bv_s, lt_d, jn_d, om_s, om_n, zl0, zl1, zl2, zl3, zl4, zl5, zl6, zl7, zl8, zl9, zl10, zl11, zl12, zl13, zl16, zl23, zl24, zl26, zl31, zl32, zl35, zl36, zl40, zl42, zl45, zl48, zl57, zl58, zl59, zl60, zl61, zl62, zl63, zl64, zl65, zl78, zl90, zl94, zl97, zl98, zl114, zl122, zl126, zl244, zl290, zl291, zl326, zl335, zl361, zl2527, zl2888, neg1, le_T, le_F, lt_T, lt_F, eq_T, eq_F, m1_ne, m1_ne', m1_lt, m1_le, lt_m1, le_m1, cl_n, ib_T, nI_add, pk_mul, sub_n, add_m1, sub_m1, m1_1, m1_1', pw_d, st_e, st_n, vu_e, vu_n, up_e, up_n, if_true, if_false, true_or, or_true, false_or, or_false, eq_self, reduceCtorEq, not_true_eq_false, not_false_eq_true, w, ec, q1, l1, l2, q2, q3]
          exact ih
theorem cx_rPk {b r : Nat} (ok : OKg g) (R : RelS V g) (hb : b < bcn g) (hr : r < cnt g) (ha : ¬ arc g r) (h0 : 0 < r) (hm : fb_ct (pkb g b r) 8 = 0) : f_X8_refusalOfPick V (nI b) (nI r) = some (0, V) := by
  have hc := ok_c24 ok
  have hp := ok_p1l ok hr h0
  unfold f_X8_refusalOfPick
  simp (disch := omega) only [bd_s, bv_s, lt_d, jn_d, om_s, om_n, zl0, zl1, zl2, zl3, zl4, zl5, zl6, zl7, zl8, zl9, zl10, zl11, zl12, zl13, zl16, zl23, zl24, zl26, zl31, zl32, zl35, zl36, zl40, zl42, zl45, zl48, zl57, zl58, zl59, zl60, zl61, zl62, zl63, zl64, zl65, zl78, zl90, zl94, zl97, zl98, zl114, zl122, zl126, zl244, zl290, zl291, zl326, zl335, zl361, zl2527, zl2888, neg1, le_T, le_F, lt_T, lt_F, eq_T, eq_F, m1_ne, m1_ne', m1_lt, m1_le, lt_m1, le_m1, cl_n, ib_T, nI_add, pk_mul, sub_n, add_m1, sub_m1, m1_1, m1_1', pw_d, st_e, st_n, vu_e, vu_n, up_e, up_n, if_true, if_false, true_or, or_true, false_or, or_false, eq_self, reduceCtorEq, not_true_eq_false, not_false_eq_true, cx_hasB ok R hb, cx_open ok R hr ha, cx_fp ok R hr, ok_p1 ok hr h0, cx_blk ok R hb hr h0, hm]
theorem cx_rPk_1 {a d : Int32} (ok : OKg g) (R : RelS V g) (h : Bad a (bcn g)) : f_X8_refusalOfPick V a d = some (1, V) := by
  unfold f_X8_refusalOfPick
  simp (disch := omega) only [bd_s, bv_s, lt_d, jn_d, om_s, om_n, zl0, zl1, zl2, zl3, zl4, zl5, zl6, zl7, zl8, zl9, zl10, zl11, zl12, zl13, zl16, zl23, zl24, zl26, zl31, zl32, zl35, zl36, zl40, zl42, zl45, zl48, zl57, zl58, zl59, zl60, zl61, zl62, zl63, zl64, zl65, zl78, zl90, zl94, zl97, zl98, zl114, zl122, zl126, zl244, zl290, zl291, zl326, zl335, zl361, zl2527, zl2888, neg1, le_T, le_F, lt_T, lt_F, eq_T, eq_F, m1_ne, m1_ne', m1_lt, m1_le, lt_m1, le_m1, cl_n, ib_T, nI_add, pk_mul, sub_n, add_m1, sub_m1, m1_1, m1_1', pw_d, st_e, st_n, vu_e, vu_n, up_e, up_n, if_true, if_false, true_or, or_true, false_or, or_false, eq_self, reduceCtorEq, not_true_eq_false, not_false_eq_true, cx_hasB_B ok R h]
theorem cx_rPk_2 {b : Nat} {d : Int32} (ok : OKg g) (R : RelS V g) (hb : b < bcn g) (h : Nop g d) : f_X8_refusalOfPick V (nI b) d = some (3, V) := by
  unfold f_X8_refusalOfPick
  simp (disch := omega) only [bd_s, bv_s, lt_d, jn_d, om_s, om_n, zl0, zl1, zl2, zl3, zl4, zl5, zl6, zl7, zl8, zl9, zl10, zl11, zl12, zl13, zl16, zl23, zl24, zl26, zl31, zl32, zl35, zl36, zl40, zl42, zl45, zl48, zl57, zl58, zl59, zl60, zl61, zl62, zl63, zl64, zl65, zl78, zl90, zl94, zl97, zl98, zl114, zl122, zl126, zl244, zl290, zl291, zl326, zl335, zl361, zl2527, zl2888, neg1, le_T, le_F, lt_T, lt_F, eq_T, eq_F, m1_ne, m1_ne', m1_lt, m1_le, lt_m1, le_m1, cl_n, ib_T, nI_add, pk_mul, sub_n, add_m1, sub_m1, m1_1, m1_1', pw_d, st_e, st_n, vu_e, vu_n, up_e, up_n, if_true, if_false, true_or, or_true, false_or, or_false, eq_self, reduceCtorEq, not_true_eq_false, not_false_eq_true, cx_hasB ok R hb, cx_nop ok R h]
theorem cx_rPk_3 {b r : Nat} (ok : OKg g) (R : RelS V g) (hb : b < bcn g) (hr : r < cnt g) (ha : ¬ arc g r) (h : r = 0 ∨ 0 < fb_ct (pkb g b r) 8) : f_X8_refusalOfPick V (nI b) (nI r) = some (4, V) := by
  have hc := ok_c24 ok
  unfold f_X8_refusalOfPick
  by_cases h0 : r = 0
  · subst h0
    simp (disch := omega) only [bd_s, bv_s, lt_d, jn_d, om_s, om_n, zl0, zl1, zl2, zl3, zl4, zl5, zl6, zl7, zl8, zl9, zl10, zl11, zl12, zl13, zl16, zl23, zl24, zl26, zl31, zl32, zl35, zl36, zl40, zl42, zl45, zl48, zl57, zl58, zl59, zl60, zl61, zl62, zl63, zl64, zl65, zl78, zl90, zl94, zl97, zl98, zl114, zl122, zl126, zl244, zl290, zl291, zl326, zl335, zl361, zl2527, zl2888, neg1, le_T, le_F, lt_T, lt_F, eq_T, eq_F, m1_ne, m1_ne', m1_lt, m1_le, lt_m1, le_m1, cl_n, ib_T, nI_add, pk_mul, sub_n, add_m1, sub_m1, m1_1, m1_1', pw_d, st_e, st_n, vu_e, vu_n, up_e, up_n, if_true, if_false, true_or, or_true, false_or, or_false, eq_self, reduceCtorEq, not_true_eq_false, not_false_eq_true, cx_hasB ok R hb, cx_open ok R hr ha, cx_fp ok R hr, ok_p0 ok]
  · have hp := ok_p1l ok hr (by omega)
    simp (disch := omega) only [bd_s, bv_s, lt_d, jn_d, om_s, om_n, zl0, zl1, zl2, zl3, zl4, zl5, zl6, zl7, zl8, zl9, zl10, zl11, zl12, zl13, zl16, zl23, zl24, zl26, zl31, zl32, zl35, zl36, zl40, zl42, zl45, zl48, zl57, zl58, zl59, zl60, zl61, zl62, zl63, zl64, zl65, zl78, zl90, zl94, zl97, zl98, zl114, zl122, zl126, zl244, zl290, zl291, zl326, zl335, zl361, zl2527, zl2888, neg1, le_T, le_F, lt_T, lt_F, eq_T, eq_F, m1_ne, m1_ne', m1_lt, m1_le, lt_m1, le_m1, cl_n, ib_T, nI_add, pk_mul, sub_n, add_m1, sub_m1, m1_1, m1_1', pw_d, st_e, st_n, vu_e, vu_n, up_e, up_n, if_true, if_false, true_or, or_true, false_or, or_false, eq_self, reduceCtorEq, not_true_eq_false, not_false_eq_true, cx_hasB ok R hb, cx_open ok R hr ha, cx_fp ok R hr, ok_p1 ok hr (by omega), cx_blk ok R hb hr (by omega), show ¬ fb_ct (pkb g b r) 8 = 0 by have := h.resolve_left h0; omega]
theorem cx_pk {b r : Nat} (ok : OKg g) (R : RelS V g) (hb : b < bcn g) (hr : r < cnt g) (h0 : 0 < r) : COk (f_X8_pickChange V (nI b) (nI r)) V (nI (fb_ct (pkn g b r) 8)) (bwg g b (hd g b) (pkl g b r)) := by
  have hc := ok_c24 ok
  have h5 := ok_b5 ok
  have hp := ok_p1l ok hr h0
  have ep := ok_p1 ok hr h0
  refine ⟨va_up V 17 (fb_put (V 17) (pkl g b r) (b * 8) 8), ?_, Rel_bwp ok hb R (vu_n (by omega)) (fun c _ _ => vu_n (by omega)) (fun i hi => ?_) (fun i f hi hf => ?_) (vu_n (by omega)), fun c hc => vu_n (by omega)⟩
  · unfold f_X8_pickChange
    refine Eq.trans (congrArg (fun W => f_X8_pickChange_L5 (nI b) (nI r) FU W (nI 0) (nI 0)) (show V = va_up V 17 (fb_put (V 17) (pkl g b r) (b * 8) 0) by rw [fb_put_0, vu_id])) ?_
    refine lp_run 8 (fun n k => f_X8_pickChange_L5 (nI b) (nI r) n (va_up V 17 (fb_put (V 17) (pkl g b r) (b * 8) k)) (nI (fb_ct (pkn g b r) k)) (nI k)) _ ?_ ?_ (n := FU) (k := 0) (by omega) (by decide)
    · intro n
      rw [f_X8_pickChange_L5.eq_2]
      simp (disch := omega) only [bd_s, bv_s, lt_d, jn_d, om_s, om_n, zl0, zl1, zl2, zl3, zl4, zl5, zl6, zl7, zl8, zl9, zl10, zl11, zl12, zl13, zl16, zl23, zl24, zl26, zl31, zl32, zl35, zl36, zl40, zl42, zl45, zl48, zl57, zl58, zl59, zl60, zl61, zl62, zl63, zl64, zl65, zl78, zl90, zl94, zl97, zl98, zl114, zl122, zl126, zl244, zl290, zl291, zl326, zl335, zl361, zl2527, zl2888, neg1, le_T, le_F, lt_T, lt_F, eq_T, eq_F, m1_ne, m1_ne', m1_lt, m1_le, lt_m1, le_m1, cl_n, ib_T, nI_add, pk_mul, sub_n, add_m1, sub_m1, m1_1, m1_1', pw_d, st_e, st_n, vu_e, vu_n, up_e, up_n, if_true, if_false, true_or, or_true, false_or, or_false, eq_self, reduceCtorEq, not_true_eq_false, not_false_eq_true]
    · intro n k hk
      have hs := fb_put_succ (V 17) (pkl g b r) (b * 8) k
      have gw : fb_put (V 17) (pkl g b r) (b * 8) k (b * 8 + k) = g (290 + 9 * b + 1 + k) := by rw [fb_put_out (by omega)]; exact rl_w R hb hk
      rw [← hs]
      generalize fb_put (V 17) (pkl g b r) (b * 8) k = P at *
      have el : ∀ q, q < cnt g → f_X6_letterOf (va_up V 17 P) (nI q) (nI k) = some (g (2 + 12 * q + 4 + k), va_up V 17 P) := fun q hq => by rw [rx_le (by omega) hk, vu_n (by omega), (rl_r R hq).2.2.2 k hk]
      have efp : f_X6_firstParentOf (va_up V 17 P) (nI r) = some (nI (p1 g r), va_up V 17 P) := by
        unfold f_X6_firstParentOf
        rw [sx_get (by omega) (by omega), bd_s, vu_n (by omega), (rl_r R hr).1.1, ep]
      have ew : f_X8_workingLetter (va_up V 17 P) (nI b) (nI k) = some (g (290 + 9 * b + 1 + k), va_up V 17 P) := by rw [rx_wk (by omega) hk, vu_e, gw]
      have epw : ∀ x, f_X8_putWorking (va_up V 17 P) (nI b) (nI k) x = some (va_up V 17 (upd P (b * 8 + k) x)) := fun x => by rw [rx_pw (by omega) hk, st_v2]
      have ec : f_X8_isChanged (va_up V 17 P) (nI r) (nI k) = some (if g (2 + 12 * r + 4 + k) = g (2 + 12 * p1 g r + 4 + k) then nI 0 else nI 1, va_up V 17 P) := by
        unfold f_X8_isChanged
        rw [el r hr, bd_s, efp, bd_s, el _ (by omega), bd_s]
        split <;> rfl
      have keep : ∀ x, x = g (290 + 9 * b + 1 + k) → upd P (b * 8 + k) x = P := fun x hx => by
        funext j
        by_cases e : j = b * 8 + k
        · subst e; rw [up_e, gw, hx]
        · rw [up_n e]
      rw [f_X8_pickChange_L5.eq_2, fb_ct_succ]
      by_cases q1 : g (2 + 12 * r + 4 + k) = g (2 + 12 * p1 g r + 4 + k)
      · have e1 : pkl g b r k = g (290 + 9 * b + 1 + k) := by unfold pkl; rw [if_neg (fun z => z q1.symm)]
        have en : pkn g b r k = false := by unfold pkn; exact decide_eq_false (fun z => z.1 q1.symm)
        rw [keep _ e1, en]
        simp (disch := omega) only [bd_s, bv_s, lt_d, jn_d, om_s, om_n, zl0, zl1, zl2, zl3, zl4, zl5, zl6, zl7, zl8, zl9, zl10, zl11, zl12, zl13, zl16, zl23, zl24, zl26, zl31, zl32, zl35, zl36, zl40, zl42, zl45, zl48, zl57, zl58, zl59, zl60, zl61, zl62, zl63, zl64, zl65, zl78, zl90, zl94, zl97, zl98, zl114, zl122, zl126, zl244, zl290, zl291, zl326, zl335, zl361, zl2527, zl2888, neg1, le_T, le_F, lt_T, lt_F, eq_T, eq_F, m1_ne, m1_ne', m1_lt, m1_le, lt_m1, le_m1, cl_n, ib_T, nI_add, pk_mul, sub_n, add_m1, sub_m1, m1_1, m1_1', pw_d, st_e, st_n, vu_e, vu_n, up_e, up_n, if_true, if_false, true_or, or_true, false_or, or_false, eq_self, reduceCtorEq, not_true_eq_false, not_false_eq_true, el r hr, ec, q1, Bool.false_eq_true, Nat.add_zero]
      · have e1 : pkl g b r k = g (2 + 12 * r + 4 + k) := by unfold pkl; rw [if_pos (fun z => q1 z.symm)]
        by_cases q2 : g (290 + 9 * b + 1 + k) = g (2 + 12 * r + 4 + k)
        · have en : pkn g b r k = false := by unfold pkn; exact decide_eq_false (fun z => z.2 q2)
          rw [keep _ (e1.trans q2.symm), en]
          simp (disch := omega) only [bd_s, bv_s, lt_d, jn_d, om_s, om_n, zl0, zl1, zl2, zl3, zl4, zl5, zl6, zl7, zl8, zl9, zl10, zl11, zl12, zl13, zl16, zl23, zl24, zl26, zl31, zl32, zl35, zl36, zl40, zl42, zl45, zl48, zl57, zl58, zl59, zl60, zl61, zl62, zl63, zl64, zl65, zl78, zl90, zl94, zl97, zl98, zl114, zl122, zl126, zl244, zl290, zl291, zl326, zl335, zl361, zl2527, zl2888, neg1, le_T, le_F, lt_T, lt_F, eq_T, eq_F, m1_ne, m1_ne', m1_lt, m1_le, lt_m1, le_m1, cl_n, ib_T, nI_add, pk_mul, sub_n, add_m1, sub_m1, m1_1, m1_1', pw_d, st_e, st_n, vu_e, vu_n, up_e, up_n, if_true, if_false, true_or, or_true, false_or, or_false, eq_self, reduceCtorEq, not_true_eq_false, not_false_eq_true, el r hr, ec, q1, ew, q2, Bool.false_eq_true, Nat.add_zero]
        · have en : pkn g b r k = true := by unfold pkn; exact decide_eq_true ⟨fun z => q1 z.symm, q2⟩
          rw [e1, en]
          simp (disch := omega) only [bd_s, bv_s, lt_d, jn_d, om_s, om_n, zl0, zl1, zl2, zl3, zl4, zl5, zl6, zl7, zl8, zl9, zl10, zl11, zl12, zl13, zl16, zl23, zl24, zl26, zl31, zl32, zl35, zl36, zl40, zl42, zl45, zl48, zl57, zl58, zl59, zl60, zl61, zl62, zl63, zl64, zl65, zl78, zl90, zl94, zl97, zl98, zl114, zl122, zl126, zl244, zl290, zl291, zl326, zl335, zl361, zl2527, zl2888, neg1, le_T, le_F, lt_T, lt_F, eq_T, eq_F, m1_ne, m1_ne', m1_lt, m1_le, lt_m1, le_m1, cl_n, ib_T, nI_add, pk_mul, sub_n, add_m1, sub_m1, m1_1, m1_1', pw_d, st_e, st_n, vu_e, vu_n, up_e, up_n, if_true, if_false, true_or, or_true, false_or, or_false, eq_self, reduceCtorEq, not_true_eq_false, not_false_eq_true, el r hr, ec, q1, ew, q2, epw, bv_s]
  · rw [vu_n (by omega)]
    by_cases q : i = b
    · subst q; rw [if_pos rfl, rl_h R hi]; exact ok_hd ok hi
    · rw [if_neg q]
  · rw [vu_e]
    by_cases q : i = b
    · subst q; rw [if_pos rfl, fb_put_in (by omega) (by omega)]; congr 1; omega
    · rw [if_neg q, fb_put_out (by omega)]
/-! tags -/
theorem cx_tw {t : Nat} (R : RelS V g) (ht : t < 26) : f_X8_revisionWithTag V (nI (65 + t)) = some (g (335 + t), V) := by
  unfold f_X8_revisionWithTag
  simp (disch := omega) only [bd_s, bv_s, lt_d, jn_d, om_s, om_n, zl0, zl1, zl2, zl3, zl4, zl5, zl6, zl7, zl8, zl9, zl10, zl11, zl12, zl13, zl16, zl23, zl24, zl26, zl31, zl32, zl35, zl36, zl40, zl42, zl45, zl48, zl57, zl58, zl59, zl60, zl61, zl62, zl63, zl64, zl65, zl78, zl90, zl94, zl97, zl98, zl114, zl122, zl126, zl244, zl290, zl291, zl326, zl335, zl361, zl2527, zl2888, neg1, le_T, le_F, lt_T, lt_F, eq_T, eq_F, m1_ne, m1_ne', m1_lt, m1_le, lt_m1, le_m1, cl_n, ib_T, nI_add, pk_mul, sub_n, add_m1, sub_m1, m1_1, m1_1', pw_d, st_e, st_n, vu_e, vu_n, up_e, up_n, if_true, if_false, true_or, or_true, false_or, or_false, eq_self, reduceCtorEq, not_true_eq_false, not_false_eq_true, sx_get, show 65 + t - 65 = t by omega, rl_t R ht]
theorem cx_tw_B {a : Int32} (h : a < nI 65 ∨ nI 90 < a) : f_X8_revisionWithTag V a = some (m1, V) := by
  have hB : Bad (a - nI 65) 26 := by
    have r1 := Int32.le_toInt a
    have r2 := Int32.toInt_lt a
    have e65 : (nI 65).toInt = 65 := by decide
    have e90 : (nI 90).toInt = 90 := by decide
    have e26 : (nI 26).toInt = 26 := by decide
    have e0 : (nI 0).toInt = 0 := by decide
    have es : (a - nI 65).toInt = (a.toInt - 65).bmod (2 ^ 32) := by rw [Int32.toInt_sub, e65]
    unfold Bad
    rw [fa_lt', fa_lt', e65, e90] at h
    rw [fa_lt', fa_le', es, e0, e26]
    rw [Int.bmod_def]
    omega
  unfold f_X8_revisionWithTag
  rw [zl65, sx_get_B hB, bd_s]
theorem cx_tags (hT : ∀ t, t < 26 → TagOk g t) (hc : cnt g ≤ 24) (h19 : ∀ t, t < 26 → V 19 t = g (335 + t)) : f_X8_countTags V = some (nI (tgn g), V) := by
  unfold f_X8_countTags
  have tw : ∀ t, t < 26 → f_X8_revisionWithTag V (nI (65 + t)) = some (g (335 + t), V) := fun t ht => by
    unfold f_X8_revisionWithTag
    simp (disch := omega) only [bd_s, bv_s, lt_d, jn_d, om_s, om_n, zl0, zl1, zl2, zl3, zl4, zl5, zl6, zl7, zl8, zl9, zl10, zl11, zl12, zl13, zl16, zl23, zl24, zl26, zl31, zl32, zl35, zl36, zl40, zl42, zl45, zl48, zl57, zl58, zl59, zl60, zl61, zl62, zl63, zl64, zl65, zl78, zl90, zl94, zl97, zl98, zl114, zl122, zl126, zl244, zl290, zl291, zl326, zl335, zl361, zl2527, zl2888, neg1, le_T, le_F, lt_T, lt_F, eq_T, eq_F, m1_ne, m1_ne', m1_lt, m1_le, lt_m1, le_m1, cl_n, ib_T, nI_add, pk_mul, sub_n, add_m1, sub_m1, m1_1, m1_1', pw_d, st_e, st_n, vu_e, vu_n, up_e, up_n, if_true, if_false, true_or, or_true, false_or, or_false, eq_self, reduceCtorEq, not_true_eq_false, not_false_eq_true, sx_get, show 65 + t - 65 = t by omega, h19 t ht]
  refine lp_run 26 (fun n k => f_X8_countTags_L5 n V (nI (fb_ct (fun t => decide (g (335 + t) ≠ m1)) k)) (nI (65 + k))) _ ?_ ?_ (n := FU) (k := 0) (by omega) (by decide)
  · intro n
    rw [f_X8_countTags_L5.eq_2]
    simp (disch := omega) only [bd_s, bv_s, lt_d, jn_d, om_s, om_n, zl0, zl1, zl2, zl3, zl4, zl5, zl6, zl7, zl8, zl9, zl10, zl11, zl12, zl13, zl16, zl23, zl24, zl26, zl31, zl32, zl35, zl36, zl40, zl42, zl45, zl48, zl57, zl58, zl59, zl60, zl61, zl62, zl63, zl64, zl65, zl78, zl90, zl94, zl97, zl98, zl114, zl122, zl126, zl244, zl290, zl291, zl326, zl335, zl361, zl2527, zl2888, neg1, le_T, le_F, lt_T, lt_F, eq_T, eq_F, m1_ne, m1_ne', m1_lt, m1_le, lt_m1, le_m1, cl_n, ib_T, nI_add, pk_mul, sub_n, add_m1, sub_m1, m1_1, m1_1', pw_d, st_e, st_n, vu_e, vu_n, up_e, up_n, if_true, if_false, true_or, or_true, false_or, or_false, eq_self, reduceCtorEq, not_true_eq_false, not_false_eq_true] <;> rfl
  · intro n k hk
    rw [f_X8_countTags_L5.eq_2, fb_ct_succ]
    rcases hT k hk with q | ⟨q, q2, q3⟩
    · simp (disch := omega) only [bd_s, bv_s, lt_d, jn_d, om_s, om_n, zl0, zl1, zl2, zl3, zl4, zl5, zl6, zl7, zl8, zl9, zl10, zl11, zl12, zl13, zl16, zl23, zl24, zl26, zl31, zl32, zl35, zl36, zl40, zl42, zl45, zl48, zl57, zl58, zl59, zl60, zl61, zl62, zl63, zl64, zl65, zl78, zl90, zl94, zl97, zl98, zl114, zl122, zl126, zl244, zl290, zl291, zl326, zl335, zl361, zl2527, zl2888, neg1, le_T, le_F, lt_T, lt_F, eq_T, eq_F, m1_ne, m1_ne', m1_lt, m1_le, lt_m1, le_m1, cl_n, ib_T, nI_add, pk_mul, sub_n, add_m1, sub_m1, m1_1, m1_1', pw_d, st_e, st_n, vu_e, vu_n, up_e, up_n, if_true, if_false, true_or, or_true, false_or, or_false, eq_self, reduceCtorEq, not_true_eq_false, not_false_eq_true, tw k hk, q, ne_eq, decide_false, Bool.false_eq_true, Nat.add_zero, Nat.add_assoc]
    · simp (disch := omega) only [bd_s, bv_s, lt_d, jn_d, om_s, om_n, zl0, zl1, zl2, zl3, zl4, zl5, zl6, zl7, zl8, zl9, zl10, zl11, zl12, zl13, zl16, zl23, zl24, zl26, zl31, zl32, zl35, zl36, zl40, zl42, zl45, zl48, zl57, zl58, zl59, zl60, zl61, zl62, zl63, zl64, zl65, zl78, zl90, zl94, zl97, zl98, zl114, zl122, zl126, zl244, zl290, zl291, zl326, zl335, zl361, zl2527, zl2888, neg1, le_T, le_F, lt_T, lt_F, eq_T, eq_F, m1_ne, m1_ne', m1_lt, m1_le, lt_m1, le_m1, cl_n, ib_T, nI_add, pk_mul, sub_n, add_m1, sub_m1, m1_1, m1_1', pw_d, st_e, st_n, vu_e, vu_n, up_e, up_n, if_true, if_false, true_or, or_true, false_or, or_false, eq_self, reduceCtorEq, not_true_eq_false, not_false_eq_true, tw k hk, q, ne_eq, decide_true, Nat.add_assoc]
theorem sx_cap {t : Nat} (ht : t < 26) : f_X9_isCapital V (nI (65 + t)) = some (nI 1, V) := by
  unfold f_X9_isCapital
  simp (disch := omega) only [bd_s, bv_s, lt_d, jn_d, om_s, om_n, zl0, zl1, zl2, zl3, zl4, zl5, zl6, zl7, zl8, zl9, zl10, zl11, zl12, zl13, zl16, zl23, zl24, zl26, zl31, zl32, zl35, zl36, zl40, zl42, zl45, zl48, zl57, zl58, zl59, zl60, zl61, zl62, zl63, zl64, zl65, zl78, zl90, zl94, zl97, zl98, zl114, zl122, zl126, zl244, zl290, zl291, zl326, zl335, zl361, zl2527, zl2888, neg1, le_T, le_F, lt_T, lt_F, eq_T, eq_F, m1_ne, m1_ne', m1_lt, m1_le, lt_m1, le_m1, cl_n, ib_T, nI_add, pk_mul, sub_n, add_m1, sub_m1, m1_1, m1_1', pw_d, st_e, st_n, vu_e, vu_n, up_e, up_n, if_true, if_false, true_or, or_true, false_or, or_false, eq_self, reduceCtorEq, not_true_eq_false, not_false_eq_true]
theorem sx_cap_B {a : Int32} (h : a < nI 65 ∨ nI 90 < a) : f_X9_isCapital V a = some (nI 0, V) := by
  unfold f_X9_isCapital
  by_cases q : a < 65
  · rw [if_pos q]; rfl
  · rw [if_neg q, zl90, if_pos (h.resolve_left q)]; rfl
theorem cx_rTag {t r : Nat} (ok : OKg g) (R : RelS V g) (ht : t < 26) (hr : r < cnt g) (ha : ¬ arc g r) (hf : g (335 + t) = m1) : f_X8_refusalOfTag V (nI (65 + t)) (nI r) = some (0, V) := by
  unfold f_X8_refusalOfTag
  simp (disch := omega) only [bd_s, bv_s, lt_d, jn_d, om_s, om_n, zl0, zl1, zl2, zl3, zl4, zl5, zl6, zl7, zl8, zl9, zl10, zl11, zl12, zl13, zl16, zl23, zl24, zl26, zl31, zl32, zl35, zl36, zl40, zl42, zl45, zl48, zl57, zl58, zl59, zl60, zl61, zl62, zl63, zl64, zl65, zl78, zl90, zl94, zl97, zl98, zl114, zl122, zl126, zl244, zl290, zl291, zl326, zl335, zl361, zl2527, zl2888, neg1, le_T, le_F, lt_T, lt_F, eq_T, eq_F, m1_ne, m1_ne', m1_lt, m1_le, lt_m1, le_m1, cl_n, ib_T, nI_add, pk_mul, sub_n, add_m1, sub_m1, m1_1, m1_1', pw_d, st_e, st_n, vu_e, vu_n, up_e, up_n, if_true, if_false, true_or, or_true, false_or, or_false, eq_self, reduceCtorEq, not_true_eq_false, not_false_eq_true, sx_cap (V := V) ht, cx_open ok R hr ha, cx_tw R ht, hf]
theorem cx_rTag_1 {a d : Int32} (h : a < nI 65 ∨ nI 90 < a) : f_X8_refusalOfTag V a d = some (2, V) := by
  unfold f_X8_refusalOfTag
  simp (disch := omega) only [bd_s, bv_s, lt_d, jn_d, om_s, om_n, zl0, zl1, zl2, zl3, zl4, zl5, zl6, zl7, zl8, zl9, zl10, zl11, zl12, zl13, zl16, zl23, zl24, zl26, zl31, zl32, zl35, zl36, zl40, zl42, zl45, zl48, zl57, zl58, zl59, zl60, zl61, zl62, zl63, zl64, zl65, zl78, zl90, zl94, zl97, zl98, zl114, zl122, zl126, zl244, zl290, zl291, zl326, zl335, zl361, zl2527, zl2888, neg1, le_T, le_F, lt_T, lt_F, eq_T, eq_F, m1_ne, m1_ne', m1_lt, m1_le, lt_m1, le_m1, cl_n, ib_T, nI_add, pk_mul, sub_n, add_m1, sub_m1, m1_1, m1_1', pw_d, st_e, st_n, vu_e, vu_n, up_e, up_n, if_true, if_false, true_or, or_true, false_or, or_false, eq_self, reduceCtorEq, not_true_eq_false, not_false_eq_true, sx_cap_B (V := V) h]
theorem cx_rTag_2 {t : Nat} {d : Int32} (ok : OKg g) (R : RelS V g) (ht : t < 26) (h : Nop g d) : f_X8_refusalOfTag V (nI (65 + t)) d = some (3, V) := by
  unfold f_X8_refusalOfTag
  simp (disch := omega) only [bd_s, bv_s, lt_d, jn_d, om_s, om_n, zl0, zl1, zl2, zl3, zl4, zl5, zl6, zl7, zl8, zl9, zl10, zl11, zl12, zl13, zl16, zl23, zl24, zl26, zl31, zl32, zl35, zl36, zl40, zl42, zl45, zl48, zl57, zl58, zl59, zl60, zl61, zl62, zl63, zl64, zl65, zl78, zl90, zl94, zl97, zl98, zl114, zl122, zl126, zl244, zl290, zl291, zl326, zl335, zl361, zl2527, zl2888, neg1, le_T, le_F, lt_T, lt_F, eq_T, eq_F, m1_ne, m1_ne', m1_lt, m1_le, lt_m1, le_m1, cl_n, ib_T, nI_add, pk_mul, sub_n, add_m1, sub_m1, m1_1, m1_1', pw_d, st_e, st_n, vu_e, vu_n, up_e, up_n, if_true, if_false, true_or, or_true, false_or, or_false, eq_self, reduceCtorEq, not_true_eq_false, not_false_eq_true, sx_cap (V := V) ht, cx_nop ok R h]
theorem cx_rTag_3 {t r : Nat} (ok : OKg g) (R : RelS V g) (ht : t < 26) (hr : r < cnt g) (ha : ¬ arc g r) (hf : ¬ g (335 + t) = m1) : f_X8_refusalOfTag V (nI (65 + t)) (nI r) = some (4, V) := by
  unfold f_X8_refusalOfTag
  simp (disch := omega) only [bd_s, bv_s, lt_d, jn_d, om_s, om_n, zl0, zl1, zl2, zl3, zl4, zl5, zl6, zl7, zl8, zl9, zl10, zl11, zl12, zl13, zl16, zl23, zl24, zl26, zl31, zl32, zl35, zl36, zl40, zl42, zl45, zl48, zl57, zl58, zl59, zl60, zl61, zl62, zl63, zl64, zl65, zl78, zl90, zl94, zl97, zl98, zl114, zl122, zl126, zl244, zl290, zl291, zl326, zl335, zl361, zl2527, zl2888, neg1, le_T, le_F, lt_T, lt_F, eq_T, eq_F, m1_ne, m1_ne', m1_lt, m1_le, lt_m1, le_m1, cl_n, ib_T, nI_add, pk_mul, sub_n, add_m1, sub_m1, m1_1, m1_1', pw_d, st_e, st_n, vu_e, vu_n, up_e, up_n, if_true, if_false, true_or, or_true, false_or, or_false, eq_self, reduceCtorEq, not_true_eq_false, not_false_eq_true, sx_cap (V := V) ht, cx_open ok R hr ha, cx_tw R ht, hf]
theorem cx_tag {t r : Nat} (ok : OKg g) (R : RelS V g) (ht : t < 26) (hr : r < cnt g) (ha : ¬ arc g r) : COk (f_X8_putTag V (nI (65 + t)) (nI r)) V (nI (tgn (upd g (335 + t) (nI r)))) (upd g (335 + t) (nI r)) := by
  have ok2 : OKg (upd g (335 + t) (nI r)) := OK_tg ok ht (.inr ⟨r, hr, ha, rfl⟩)
  have R2 : RelS (stv V 19 t (nI r)) (upd g (335 + t) (nI r)) := Rel_tg ok ht R (fun c hc => st_n (by omega)) st_e
  have e := cx_tags (V := stv V 19 t (nI r)) (fun t' h => ok_tag ok2 h) (ok_c24 ok2) (fun t' h => rl_t R2 h)
  refine ⟨stv V 19 t (nI r), ?_, R2, fun c hc => st_n (by omega)⟩
  unfold f_X8_putTag
  simp (disch := omega) only [bd_s, bv_s, lt_d, jn_d, om_s, om_n, zl0, zl1, zl2, zl3, zl4, zl5, zl6, zl7, zl8, zl9, zl10, zl11, zl12, zl13, zl16, zl23, zl24, zl26, zl31, zl32, zl35, zl36, zl40, zl42, zl45, zl48, zl57, zl58, zl59, zl60, zl61, zl62, zl63, zl64, zl65, zl78, zl90, zl94, zl97, zl98, zl114, zl122, zl126, zl244, zl290, zl291, zl326, zl335, zl361, zl2527, zl2888, neg1, le_T, le_F, lt_T, lt_F, eq_T, eq_F, m1_ne, m1_ne', m1_lt, m1_le, lt_m1, le_m1, cl_n, ib_T, nI_add, pk_mul, sub_n, add_m1, sub_m1, m1_1, m1_1', pw_d, st_e, st_n, vu_e, vu_n, up_e, up_n, if_true, if_false, true_or, or_true, false_or, or_false, eq_self, reduceCtorEq, not_true_eq_false, not_false_eq_true, sx_set, show 65 + t - 65 = t by omega, bv_s, e]
theorem cx_rUtg {t : Nat} (R : RelS V g) (ht : t < 26) (hf : ¬ g (335 + t) = m1) : f_X8_refusalOfUntag V (nI (65 + t)) = some (0, V) := by
  unfold f_X8_refusalOfUntag
  simp (disch := omega) only [bd_s, bv_s, lt_d, jn_d, om_s, om_n, zl0, zl1, zl2, zl3, zl4, zl5, zl6, zl7, zl8, zl9, zl10, zl11, zl12, zl13, zl16, zl23, zl24, zl26, zl31, zl32, zl35, zl36, zl40, zl42, zl45, zl48, zl57, zl58, zl59, zl60, zl61, zl62, zl63, zl64, zl65, zl78, zl90, zl94, zl97, zl98, zl114, zl122, zl126, zl244, zl290, zl291, zl326, zl335, zl361, zl2527, zl2888, neg1, le_T, le_F, lt_T, lt_F, eq_T, eq_F, m1_ne, m1_ne', m1_lt, m1_le, lt_m1, le_m1, cl_n, ib_T, nI_add, pk_mul, sub_n, add_m1, sub_m1, m1_1, m1_1', pw_d, st_e, st_n, vu_e, vu_n, up_e, up_n, if_true, if_false, true_or, or_true, false_or, or_false, eq_self, reduceCtorEq, not_true_eq_false, not_false_eq_true, cx_tw R ht, hf]
theorem cx_rUtg_1 {a : Int32} (R : RelS V g) (h : (a < nI 65 ∨ nI 90 < a) ∨ ∃ t, t < 26 ∧ a = nI (65 + t) ∧ g (335 + t) = m1) : f_X8_refusalOfUntag V a = some (3, V) := by
  unfold f_X8_refusalOfUntag
  rcases h with h | ⟨t, ht, rfl, hf⟩
  · simp (disch := omega) only [bd_s, bv_s, lt_d, jn_d, om_s, om_n, zl0, zl1, zl2, zl3, zl4, zl5, zl6, zl7, zl8, zl9, zl10, zl11, zl12, zl13, zl16, zl23, zl24, zl26, zl31, zl32, zl35, zl36, zl40, zl42, zl45, zl48, zl57, zl58, zl59, zl60, zl61, zl62, zl63, zl64, zl65, zl78, zl90, zl94, zl97, zl98, zl114, zl122, zl126, zl244, zl290, zl291, zl326, zl335, zl361, zl2527, zl2888, neg1, le_T, le_F, lt_T, lt_F, eq_T, eq_F, m1_ne, m1_ne', m1_lt, m1_le, lt_m1, le_m1, cl_n, ib_T, nI_add, pk_mul, sub_n, add_m1, sub_m1, m1_1, m1_1', pw_d, st_e, st_n, vu_e, vu_n, up_e, up_n, if_true, if_false, true_or, or_true, false_or, or_false, eq_self, reduceCtorEq, not_true_eq_false, not_false_eq_true, cx_tw_B (V := V) h]
  · simp (disch := omega) only [bd_s, bv_s, lt_d, jn_d, om_s, om_n, zl0, zl1, zl2, zl3, zl4, zl5, zl6, zl7, zl8, zl9, zl10, zl11, zl12, zl13, zl16, zl23, zl24, zl26, zl31, zl32, zl35, zl36, zl40, zl42, zl45, zl48, zl57, zl58, zl59, zl60, zl61, zl62, zl63, zl64, zl65, zl78, zl90, zl94, zl97, zl98, zl114, zl122, zl126, zl244, zl290, zl291, zl326, zl335, zl361, zl2527, zl2888, neg1, le_T, le_F, lt_T, lt_F, eq_T, eq_F, m1_ne, m1_ne', m1_lt, m1_le, lt_m1, le_m1, cl_n, ib_T, nI_add, pk_mul, sub_n, add_m1, sub_m1, m1_1, m1_1', pw_d, st_e, st_n, vu_e, vu_n, up_e, up_n, if_true, if_false, true_or, or_true, false_or, or_false, eq_self, reduceCtorEq, not_true_eq_false, not_false_eq_true, cx_tw R ht, hf]
theorem cx_utg {t : Nat} (ok : OKg g) (R : RelS V g) (ht : t < 26) : COk (f_X8_takeTag V (nI (65 + t))) V (g (335 + t)) (upd g (335 + t) m1) := by
  refine ⟨stv V 19 t m1, ?_, Rel_tg ok ht R (fun c hc => st_n (by omega)) st_e, fun c hc => st_n (by omega)⟩
  unfold f_X8_takeTag
  simp (disch := omega) only [bd_s, bv_s, lt_d, jn_d, om_s, om_n, zl0, zl1, zl2, zl3, zl4, zl5, zl6, zl7, zl8, zl9, zl10, zl11, zl12, zl13, zl16, zl23, zl24, zl26, zl31, zl32, zl35, zl36, zl40, zl42, zl45, zl48, zl57, zl58, zl59, zl60, zl61, zl62, zl63, zl64, zl65, zl78, zl90, zl94, zl97, zl98, zl114, zl122, zl126, zl244, zl290, zl291, zl326, zl335, zl361, zl2527, zl2888, neg1, le_T, le_F, lt_T, lt_F, eq_T, eq_F, m1_ne, m1_ne', m1_lt, m1_le, lt_m1, le_m1, cl_n, ib_T, nI_add, pk_mul, sub_n, add_m1, sub_m1, m1_1, m1_1', pw_d, st_e, st_n, vu_e, vu_n, up_e, up_n, if_true, if_false, true_or, or_true, false_or, or_false, eq_self, reduceCtorEq, not_true_eq_false, not_false_eq_true, cx_tw R ht, sx_set, show 65 + t - 65 = t by omega, bv_s]
end CM
