/-! PURE, 32: the class's commits, merges, picks, tags -/
def addW (V : Mem) (c p : Nat) (x a G S : Int32) : Mem := stv (stv (stv (stv (stv (stv V 3 c (nI p)) 5 c x) 7 c a) 9 c G) 11 c S) 1 1 (nI (c + 1))
theorem addW_n {V : Mem} {c p d : Nat} {x a G S : Int32} (h : d ≠ 3 ∧ d ≠ 5 ∧ d ≠ 7 ∧ d ≠ 9 ∧ d ≠ 11 ∧ d ≠ 1) : addW V c p x a G S d = V d := by
  unfold addW; rw [st_n h.2.2.2.2.2, st_n h.2.2.2.2.1, st_n h.2.2.2.1, st_n h.2.2.1, st_n h.2.1, st_n h.1]
section CM
variable {V : Mem} {g : Arr}
theorem addW_3 {c p : Nat} {x a G S : Int32} : addW V c p x a G S 3 = upd (V 3) c (nI p) := by unfold addW; simp (disch := omega) only [bd_s, bv_s, lt_d, jn_d, om_s, om_n, zl0, zl1, zl2, zl3, zl4, zl5, zl6, zl7, zl8, zl9, zl10, zl11, zl12, zl13, zl16, zl23, zl24, zl26, zl31, zl32, zl35, zl36, zl40, zl42, zl45, zl48, zl57, zl58, zl59, zl60, zl61, zl62, zl63, zl64, zl65, zl78, zl90, zl94, zl97, zl98, zl114, zl122, zl126, zl244, zl290, zl291, zl326, zl335, zl361, zl2527, zl2888, neg1, le_T, le_F, lt_T, lt_F, eq_T, eq_F, m1_ne, m1_ne', m1_lt, m1_le, lt_m1, le_m1, cl_n, ib_T, nI_add, pk_mul, sub_n, add_m1, sub_m1, m1_1, m1_1', pw_d, st_e, st_n, vu_e, vu_n, up_e, up_n, if_true, if_false, true_or, or_true, false_or, or_false, eq_self, reduceCtorEq, not_true_eq_false, not_false_eq_true]
theorem addW_5 {c p : Nat} {x a G S : Int32} : addW V c p x a G S 5 = upd (V 5) c x := by unfold addW; simp (disch := omega) only [bd_s, bv_s, lt_d, jn_d, om_s, om_n, zl0, zl1, zl2, zl3, zl4, zl5, zl6, zl7, zl8, zl9, zl10, zl11, zl12, zl13, zl16, zl23, zl24, zl26, zl31, zl32, zl35, zl36, zl40, zl42, zl45, zl48, zl57, zl58, zl59, zl60, zl61, zl62, zl63, zl64, zl65, zl78, zl90, zl94, zl97, zl98, zl114, zl122, zl126, zl244, zl290, zl291, zl326, zl335, zl361, zl2527, zl2888, neg1, le_T, le_F, lt_T, lt_F, eq_T, eq_F, m1_ne, m1_ne', m1_lt, m1_le, lt_m1, le_m1, cl_n, ib_T, nI_add, pk_mul, sub_n, add_m1, sub_m1, m1_1, m1_1', pw_d, st_e, st_n, vu_e, vu_n, up_e, up_n, if_true, if_false, true_or, or_true, false_or, or_false, eq_self, reduceCtorEq, not_true_eq_false, not_false_eq_true]
theorem addW_7 {c p : Nat} {x a G S : Int32} : addW V c p x a G S 7 = upd (V 7) c a := by unfold addW; simp (disch := omega) only [bd_s, bv_s, lt_d, jn_d, om_s, om_n, zl0, zl1, zl2, zl3, zl4, zl5, zl6, zl7, zl8, zl9, zl10, zl11, zl12, zl13, zl16, zl23, zl24, zl26, zl31, zl32, zl35, zl36, zl40, zl42, zl45, zl48, zl57, zl58, zl59, zl60, zl61, zl62, zl63, zl64, zl65, zl78, zl90, zl94, zl97, zl98, zl114, zl122, zl126, zl244, zl290, zl291, zl326, zl335, zl361, zl2527, zl2888, neg1, le_T, le_F, lt_T, lt_F, eq_T, eq_F, m1_ne, m1_ne', m1_lt, m1_le, lt_m1, le_m1, cl_n, ib_T, nI_add, pk_mul, sub_n, add_m1, sub_m1, m1_1, m1_1', pw_d, st_e, st_n, vu_e, vu_n, up_e, up_n, if_true, if_false, true_or, or_true, false_or, or_false, eq_self, reduceCtorEq, not_true_eq_false, not_false_eq_true]
theorem addW_9 {c p : Nat} {x a G S : Int32} : addW V c p x a G S 9 = upd (V 9) c G := by unfold addW; simp (disch := omega) only [bd_s, bv_s, lt_d, jn_d, om_s, om_n, zl0, zl1, zl2, zl3, zl4, zl5, zl6, zl7, zl8, zl9, zl10, zl11, zl12, zl13, zl16, zl23, zl24, zl26, zl31, zl32, zl35, zl36, zl40, zl42, zl45, zl48, zl57, zl58, zl59, zl60, zl61, zl62, zl63, zl64, zl65, zl78, zl90, zl94, zl97, zl98, zl114, zl122, zl126, zl244, zl290, zl291, zl326, zl335, zl361, zl2527, zl2888, neg1, le_T, le_F, lt_T, lt_F, eq_T, eq_F, m1_ne, m1_ne', m1_lt, m1_le, lt_m1, le_m1, cl_n, ib_T, nI_add, pk_mul, sub_n, add_m1, sub_m1, m1_1, m1_1', pw_d, st_e, st_n, vu_e, vu_n, up_e, up_n, if_true, if_false, true_or, or_true, false_or, or_false, eq_self, reduceCtorEq, not_true_eq_false, not_false_eq_true]
theorem addW_11 {c p : Nat} {x a G S : Int32} : addW V c p x a G S 11 = upd (V 11) c S := by unfold addW; simp (disch := omega) only [bd_s, bv_s, lt_d, jn_d, om_s, om_n, zl0, zl1, zl2, zl3, zl4, zl5, zl6, zl7, zl8, zl9, zl10, zl11, zl12, zl13, zl16, zl23, zl24, zl26, zl31, zl32, zl35, zl36, zl40, zl42, zl45, zl48, zl57, zl58, zl59, zl60, zl61, zl62, zl63, zl64, zl65, zl78, zl90, zl94, zl97, zl98, zl114, zl122, zl126, zl244, zl290, zl291, zl326, zl335, zl361, zl2527, zl2888, neg1, le_T, le_F, lt_T, lt_F, eq_T, eq_F, m1_ne, m1_ne', m1_lt, m1_le, lt_m1, le_m1, cl_n, ib_T, nI_add, pk_mul, sub_n, add_m1, sub_m1, m1_1, m1_1', pw_d, st_e, st_n, vu_e, vu_n, up_e, up_n, if_true, if_false, true_or, or_true, false_or, or_false, eq_self, reduceCtorEq, not_true_eq_false, not_false_eq_true]
theorem addW_1 {c p : Nat} {x a G S : Int32} : addW V c p x a G S 1 = upd (V 1) 1 (nI (c + 1)) := by unfold addW; simp (disch := omega) only [bd_s, bv_s, lt_d, jn_d, om_s, om_n, zl0, zl1, zl2, zl3, zl4, zl5, zl6, zl7, zl8, zl9, zl10, zl11, zl12, zl13, zl16, zl23, zl24, zl26, zl31, zl32, zl35, zl36, zl40, zl42, zl45, zl48, zl57, zl58, zl59, zl60, zl61, zl62, zl63, zl64, zl65, zl78, zl90, zl94, zl97, zl98, zl114, zl122, zl126, zl244, zl290, zl291, zl326, zl335, zl361, zl2527, zl2888, neg1, le_T, le_F, lt_T, lt_F, eq_T, eq_F, m1_ne, m1_ne', m1_lt, m1_le, lt_m1, le_m1, cl_n, ib_T, nI_add, pk_mul, sub_n, add_m1, sub_m1, m1_1, m1_1', pw_d, st_e, st_n, vu_e, vu_n, up_e, up_n, if_true, if_false, true_or, or_true, false_or, or_false, eq_self, reduceCtorEq, not_true_eq_false, not_false_eq_true]
theorem rx_add_m {c p : Nat} {a : Int32} (hn : V 1 1 = nI c) (hc : c < 24) (hp : p < c) : f_X6_add V (nI p) m1 a = some (nI c, addW V c p m1 a (nI 1 + (if V 9 p < m1 then m1 else V 9 p)) ((V 11 p ||| nI 0) ||| pw c)) := by
  unfold f_X6_add addW
  simp (disch := omega) only [bd_s, bv_s, lt_d, jn_d, om_s, om_n, zl0, zl1, zl2, zl3, zl4, zl5, zl6, zl7, zl8, zl9, zl10, zl11, zl12, zl13, zl16, zl23, zl24, zl26, zl31, zl32, zl35, zl36, zl40, zl42, zl45, zl48, zl57, zl58, zl59, zl60, zl61, zl62, zl63, zl64, zl65, zl78, zl90, zl94, zl97, zl98, zl114, zl122, zl126, zl244, zl290, zl291, zl326, zl335, zl361, zl2527, zl2888, neg1, le_T, le_F, lt_T, lt_F, eq_T, eq_F, m1_ne, m1_ne', m1_lt, m1_le, lt_m1, le_m1, cl_n, ib_T, nI_add, pk_mul, sub_n, add_m1, sub_m1, m1_1, m1_1', pw_d, st_e, st_n, vu_e, vu_n, up_e, up_n, if_true, if_false, true_or, or_true, false_or, or_false, eq_self, reduceCtorEq, not_true_eq_false, not_false_eq_true, hn, sx_set, rx_gn, cx_gn_m, rx_as, cx_as_m, sx_setOf]
theorem rx_add_q {c p q : Nat} {a : Int32} (hn : V 1 1 = nI c) (hc : c < 24) (hp : p < c) (hq : q < c) : f_X6_add V (nI p) (nI q) a = some (nI c, addW V c p (nI q) a (nI 1 + (if V 9 p < V 9 q then V 9 q else V 9 p)) ((V 11 p ||| V 11 q) ||| pw c)) := by
  unfold f_X6_add addW
  simp (disch := omega) only [bd_s, bv_s, lt_d, jn_d, om_s, om_n, zl0, zl1, zl2, zl3, zl4, zl5, zl6, zl7, zl8, zl9, zl10, zl11, zl12, zl13, zl16, zl23, zl24, zl26, zl31, zl32, zl35, zl36, zl40, zl42, zl45, zl48, zl57, zl58, zl59, zl60, zl61, zl62, zl63, zl64, zl65, zl78, zl90, zl94, zl97, zl98, zl114, zl122, zl126, zl244, zl290, zl291, zl326, zl335, zl361, zl2527, zl2888, neg1, le_T, le_F, lt_T, lt_F, eq_T, eq_F, m1_ne, m1_ne', m1_lt, m1_le, lt_m1, le_m1, cl_n, ib_T, nI_add, pk_mul, sub_n, add_m1, sub_m1, m1_1, m1_1', pw_d, st_e, st_n, vu_e, vu_n, up_e, up_n, if_true, if_false, true_or, or_true, false_or, or_false, eq_self, reduceCtorEq, not_true_eq_false, not_false_eq_true, hn, sx_set, rx_gn, rx_as, sx_setOf]
theorem or_3 (a b c : Int32) : (a ||| b) ||| c = (c ||| a) ||| b := by
  apply b_ext; intro i hi; rw [b_or, b_or, b_or, b_or]; cases bt a i <;> cases bt b i <;> cases bt c i <;> rfl
theorem cx_rCom {b a : Nat} (ok : OKg g) (R : RelS V g) (hb : b < bcn g) (ha : a < 10) (he : 0 < edn g b) (hc : cnt g < 24) : f_X8_refusalOfCommit V (nI b) (nI a) = some (0, V) := by
  have h8 : edn g b ≤ 8 := fb_ct_le _ 8
  unfold f_X8_refusalOfCommit
  simp (disch := omega) only [bd_s, bv_s, lt_d, jn_d, om_s, om_n, zl0, zl1, zl2, zl3, zl4, zl5, zl6, zl7, zl8, zl9, zl10, zl11, zl12, zl13, zl16, zl23, zl24, zl26, zl31, zl32, zl35, zl36, zl40, zl42, zl45, zl48, zl57, zl58, zl59, zl60, zl61, zl62, zl63, zl64, zl65, zl78, zl90, zl94, zl97, zl98, zl114, zl122, zl126, zl244, zl290, zl291, zl326, zl335, zl361, zl2527, zl2888, neg1, le_T, le_F, lt_T, lt_F, eq_T, eq_F, m1_ne, m1_ne', m1_lt, m1_le, lt_m1, le_m1, cl_n, ib_T, nI_add, pk_mul, sub_n, add_m1, sub_m1, m1_1, m1_1', pw_d, st_e, st_n, vu_e, vu_n, up_e, up_n, if_true, if_false, true_or, or_true, false_or, or_false, eq_self, reduceCtorEq, not_true_eq_false, not_false_eq_true, cx_hasB ok R hb, sx_isAuthor (V := V) ha, cx_ed ok R hb, cx_full ok R, show ¬ cnt g = 24 by omega]
theorem cx_rCom_1 {a d : Int32} (ok : OKg g) (R : RelS V g) (h : Bad a (bcn g)) : f_X8_refusalOfCommit V a d = some (1, V) := by
  unfold f_X8_refusalOfCommit
  simp (disch := omega) only [bd_s, bv_s, lt_d, jn_d, om_s, om_n, zl0, zl1, zl2, zl3, zl4, zl5, zl6, zl7, zl8, zl9, zl10, zl11, zl12, zl13, zl16, zl23, zl24, zl26, zl31, zl32, zl35, zl36, zl40, zl42, zl45, zl48, zl57, zl58, zl59, zl60, zl61, zl62, zl63, zl64, zl65, zl78, zl90, zl94, zl97, zl98, zl114, zl122, zl126, zl244, zl290, zl291, zl326, zl335, zl361, zl2527, zl2888, neg1, le_T, le_F, lt_T, lt_F, eq_T, eq_F, m1_ne, m1_ne', m1_lt, m1_le, lt_m1, le_m1, cl_n, ib_T, nI_add, pk_mul, sub_n, add_m1, sub_m1, m1_1, m1_1', pw_d, st_e, st_n, vu_e, vu_n, up_e, up_n, if_true, if_false, true_or, or_true, false_or, or_false, eq_self, reduceCtorEq, not_true_eq_false, not_false_eq_true, cx_hasB_B ok R h]
theorem cx_rCom_2 {b : Nat} {d : Int32} (ok : OKg g) (R : RelS V g) (hb : b < bcn g) (h : Bad d 10) : f_X8_refusalOfCommit V (nI b) d = some (2, V) := by
  unfold f_X8_refusalOfCommit
  simp (disch := omega) only [bd_s, bv_s, lt_d, jn_d, om_s, om_n, zl0, zl1, zl2, zl3, zl4, zl5, zl6, zl7, zl8, zl9, zl10, zl11, zl12, zl13, zl16, zl23, zl24, zl26, zl31, zl32, zl35, zl36, zl40, zl42, zl45, zl48, zl57, zl58, zl59, zl60, zl61, zl62, zl63, zl64, zl65, zl78, zl90, zl94, zl97, zl98, zl114, zl122, zl126, zl244, zl290, zl291, zl326, zl335, zl361, zl2527, zl2888, neg1, le_T, le_F, lt_T, lt_F, eq_T, eq_F, m1_ne, m1_ne', m1_lt, m1_le, lt_m1, le_m1, cl_n, ib_T, nI_add, pk_mul, sub_n, add_m1, sub_m1, m1_1, m1_1', pw_d, st_e, st_n, vu_e, vu_n, up_e, up_n, if_true, if_false, true_or, or_true, false_or, or_false, eq_self, reduceCtorEq, not_true_eq_false, not_false_eq_true, cx_hasB ok R hb, sx_isAuthor_B (V := V) h]
theorem cx_rCom_3 {b a : Nat} (ok : OKg g) (R : RelS V g) (hb : b < bcn g) (ha : a < 10) (he : edn g b = 0 ∨ cnt g = 24) : f_X8_refusalOfCommit V (nI b) (nI a) = some (4, V) := by
  have h8 : edn g b ≤ 8 := fb_ct_le _ 8
  unfold f_X8_refusalOfCommit
  by_cases q : edn g b = 0
  · simp (disch := omega) only [bd_s, bv_s, lt_d, jn_d, om_s, om_n, zl0, zl1, zl2, zl3, zl4, zl5, zl6, zl7, zl8, zl9, zl10, zl11, zl12, zl13, zl16, zl23, zl24, zl26, zl31, zl32, zl35, zl36, zl40, zl42, zl45, zl48, zl57, zl58, zl59, zl60, zl61, zl62, zl63, zl64, zl65, zl78, zl90, zl94, zl97, zl98, zl114, zl122, zl126, zl244, zl290, zl291, zl326, zl335, zl361, zl2527, zl2888, neg1, le_T, le_F, lt_T, lt_F, eq_T, eq_F, m1_ne, m1_ne', m1_lt, m1_le, lt_m1, le_m1, cl_n, ib_T, nI_add, pk_mul, sub_n, add_m1, sub_m1, m1_1, m1_1', pw_d, st_e, st_n, vu_e, vu_n, up_e, up_n, if_true, if_false, true_or, or_true, false_or, or_false, eq_self, reduceCtorEq, not_true_eq_false, not_false_eq_true, cx_hasB ok R hb, sx_isAuthor (V := V) ha, cx_ed ok R hb, q]
  · simp (disch := omega) only [bd_s, bv_s, lt_d, jn_d, om_s, om_n, zl0, zl1, zl2, zl3, zl4, zl5, zl6, zl7, zl8, zl9, zl10, zl11, zl12, zl13, zl16, zl23, zl24, zl26, zl31, zl32, zl35, zl36, zl40, zl42, zl45, zl48, zl57, zl58, zl59, zl60, zl61, zl62, zl63, zl64, zl65, zl78, zl90, zl94, zl97, zl98, zl114, zl122, zl126, zl244, zl290, zl291, zl326, zl335, zl361, zl2527, zl2888, neg1, le_T, le_F, lt_T, lt_F, eq_T, eq_F, m1_ne, m1_ne', m1_lt, m1_le, lt_m1, le_m1, cl_n, ib_T, nI_add, pk_mul, sub_n, add_m1, sub_m1, m1_1, m1_1', pw_d, st_e, st_n, vu_e, vu_n, up_e, up_n, if_true, if_false, true_or, or_true, false_or, or_false, eq_self, reduceCtorEq, not_true_eq_false, not_false_eq_true, cx_hasB ok R hb, sx_isAuthor (V := V) ha, cx_ed ok R hb, cx_full ok R, he.resolve_left q]
theorem cx_com {b a : Nat} (ok : OKg g) (R : RelS V g) (hb : b < bcn g) (ha : a < 10) (hc : cnt g < 24) : COk (f_X8_commitWorking V (nI b) (nI a)) V (nI (cnt g)) (nrg g b (hd g b) m1 (nI a) (fun f => g (290 + 9 * b + 1 + f))) := by
  have h5 := ok_b5 ok
  have hh := ok_hc ok hb
  have hn : V 1 1 = nI (cnt g) := (rl_n R).trans (ok_cnt ok)
  obtain ⟨⟨a1, a2, a3⟩, ⟨b1, b2⟩, d1, d2⟩ := rl_r R hh
  have ead := rx_add_m (V := V) (a := nI a) hn hc hh
  generalize hW : addW V (cnt g) (hd g b) m1 (nI a) (nI 1 + (if V 9 (hd g b) < m1 then m1 else V 9 (hd g b))) ((V 11 (hd g b) ||| nI 0) ||| pw (cnt g)) = W at *
  have L : ∀ (j : Mem → Option (Int32 × Mem)), f_X8_commitWorking_L18 (nI b) (nI (cnt g)) j FU W (nI 0) = j (va_up W 13 (fb_put (W 13) (fun f => W 17 (b * 8 + f)) (cnt g * 8) 8)) := by
    intro j
    refine Eq.trans (congrArg (fun X => f_X8_commitWorking_L18 (nI b) (nI (cnt g)) j FU X (nI 0)) (show W = va_up W 13 (fb_put (W 13) (fun f => W 17 (b * 8 + f)) (cnt g * 8) 0) by rw [fb_put_0, vu_id])) ?_
    refine lp_run 8 (fun n k => f_X8_commitWorking_L18 (nI b) (nI (cnt g)) j n (va_up W 13 (fb_put (W 13) (fun f => W 17 (b * 8 + f)) (cnt g * 8) k)) (nI k)) _ ?_ ?_ (n := FU) (k := 0) (by omega) (by decide)
    · intro n
      rw [f_X8_commitWorking_L18.eq_2]
      simp (disch := omega) only [bd_s, bv_s, lt_d, jn_d, om_s, om_n, zl0, zl1, zl2, zl3, zl4, zl5, zl6, zl7, zl8, zl9, zl10, zl11, zl12, zl13, zl16, zl23, zl24, zl26, zl31, zl32, zl35, zl36, zl40, zl42, zl45, zl48, zl57, zl58, zl59, zl60, zl61, zl62, zl63, zl64, zl65, zl78, zl90, zl94, zl97, zl98, zl114, zl122, zl126, zl244, zl290, zl291, zl326, zl335, zl361, zl2527, zl2888, neg1, le_T, le_F, lt_T, lt_F, eq_T, eq_F, m1_ne, m1_ne', m1_lt, m1_le, lt_m1, le_m1, cl_n, ib_T, nI_add, pk_mul, sub_n, add_m1, sub_m1, m1_1, m1_1', pw_d, st_e, st_n, vu_e, vu_n, up_e, up_n, if_true, if_false, true_or, or_true, false_or, or_false, eq_self, reduceCtorEq, not_true_eq_false, not_false_eq_true]
    · intro n k hk
      rw [f_X8_commitWorking_L18.eq_2]
      simp (disch := omega) only [bd_s, bv_s, lt_d, jn_d, om_s, om_n, zl0, zl1, zl2, zl3, zl4, zl5, zl6, zl7, zl8, zl9, zl10, zl11, zl12, zl13, zl16, zl23, zl24, zl26, zl31, zl32, zl35, zl36, zl40, zl42, zl45, zl48, zl57, zl58, zl59, zl60, zl61, zl62, zl63, zl64, zl65, zl78, zl90, zl94, zl97, zl98, zl114, zl122, zl126, zl244, zl290, zl291, zl326, zl335, zl361, zl2527, zl2888, neg1, le_T, le_F, lt_T, lt_F, eq_T, eq_F, m1_ne, m1_ne', m1_lt, m1_le, lt_m1, le_m1, cl_n, ib_T, nI_add, pk_mul, sub_n, add_m1, sub_m1, m1_1, m1_1', pw_d, st_e, st_n, vu_e, vu_n, up_e, up_n, if_true, if_false, true_or, or_true, false_or, or_false, eq_self, reduceCtorEq, not_true_eq_false, not_false_eq_true, rx_wk (V := va_up W 13 (fb_put (W 13) (fun f => W 17 (b * 8 + f)) (cnt g * 8) k)) (show b < 5 by omega) hk, rx_pl (V := va_up W 13 (fb_put (W 13) (fun f => W 17 (b * 8 + f)) (cnt g * 8) k)) hc hk, st_v2]
      rw [← fb_put_succ]
  refine ⟨stv (va_up W 13 (fb_put (W 13) (fun f => W 17 (b * 8 + f)) (cnt g * 8) 8)) 15 b (nI (cnt g)), ?_, ?_, fun c hc' => ?_⟩
  · unfold f_X8_commitWorking
    simp (disch := omega) only [bd_s, bv_s, lt_d, jn_d, om_s, om_n, zl0, zl1, zl2, zl3, zl4, zl5, zl6, zl7, zl8, zl9, zl10, zl11, zl12, zl13, zl16, zl23, zl24, zl26, zl31, zl32, zl35, zl36, zl40, zl42, zl45, zl48, zl57, zl58, zl59, zl60, zl61, zl62, zl63, zl64, zl65, zl78, zl90, zl94, zl97, zl98, zl114, zl122, zl126, zl244, zl290, zl291, zl326, zl335, zl361, zl2527, zl2888, neg1, le_T, le_F, lt_T, lt_F, eq_T, eq_F, m1_ne, m1_ne', m1_lt, m1_le, lt_m1, le_m1, cl_n, ib_T, nI_add, pk_mul, sub_n, add_m1, sub_m1, m1_1, m1_1', pw_d, st_e, st_n, vu_e, vu_n, up_e, up_n, if_true, if_false, true_or, or_true, false_or, or_false, eq_self, reduceCtorEq, not_true_eq_false, not_false_eq_true, cx_hd ok R hb, ead, L, sx_set (V := va_up W 13 (fb_put (W 13) (fun f => W 17 (b * 8 + f)) (cnt g * 8) 8)) (i := 14) (N := 5) (show b < 5 by omega) (by omega)]
  · refine Rel_nr ok hc hb hh (.inl rfl) R ?_ ?_ ?_ ?_ ?_ ?_ ?_ ?_ ?_ ?_ ?_ ?_
    · rw [st_n (by omega), vu_n (by omega), ← hW, addW_n (by omega)]
    · rw [st_n (by omega), vu_n (by omega), ← hW, addW_1, up_n (by omega)]
    · rw [st_n (by omega), vu_n (by omega), ← hW, addW_1, up_e]
    · rw [st_n (by omega), vu_n (by omega), ← hW, addW_3]
    · rw [st_n (by omega), vu_n (by omega), ← hW, addW_5]
    · rw [st_n (by omega), vu_n (by omega), ← hW, addW_7]
    · rw [st_n (by omega), vu_n (by omega), ← hW, addW_9, b1, Int32.add_comm, if_pos rfl]
    · rw [st_n (by omega), vu_n (by omega), ← hW, addW_11, b2, or_3, if_pos rfl]
    · rw [st_n (by omega), vu_e, ← hW, addW_n (by omega), addW_n (by omega)]
      exact fb_put_cong (fun _ _ => rfl) (fun f hf => rl_w R hb hf)
    · rw [st_e, vu_n (by omega), ← hW, addW_n (by omega)]
    · rw [st_n (by omega), vu_n (by omega), ← hW, addW_n (by omega)]
      funext j
      by_cases q : b * 8 ≤ j ∧ j < b * 8 + 8
      · rw [fb_put_in q.1 q.2, ← rl_w R hb (show j - b * 8 < 8 by omega)]; congr 1; omega
      · rw [fb_put_out (by omega)]
    · rw [st_n (by omega), vu_n (by omega), ← hW, addW_n (by omega)]
  · rw [st_n (by omega), vu_n (by omega), ← hW, addW_n (by omega)]
/-! merges: what mergedSign reads -/
def RelM (W : Nat → Arr) (g : Arr) : Prop := (∀ r, r < cnt g → W 11 r = Ag g r ∧ ∀ f, f < 8 → W 13 (r * 8 + f) = g (2 + 12 * r + 4 + f)) ∧ ∀ b, b < bcn g → W 15 b = g (290 + 9 * b)
theorem cy_cs {a b : Nat} (ok : OKg g) (R : RelM V g) (ha : a < cnt g) (hb : b < cnt g) : f_X6_latestCommonBySets V (nI a) (nI b) = some (nI (com g a b), V) := by
  have hc := ok_c24 ok
  unfold f_X6_latestCommonBySets
  rw [rx_as (show a < 24 by omega), bd_s, rx_as (show b < 24 by omega), bd_s, (R.1 a ha).1, (R.1 b hb).1]
  have key : ∀ (k n : Nat), k < 24 → k < n → f_X6_latestCommonBySets_L16 (Ag g a &&& Ag g b) n V (nI k) = some (nI (cmn (Ag g a &&& Ag g b) (k + 1)), V) := by
    intro k
    induction k with
    | zero =>
      intro n _ hn
      obtain ⟨n, rfl⟩ : ∃ n', n = n' + 1 := ⟨n - 1, by omega⟩
      rw [f_X6_latestCommonBySets_L16.eq_2]
      simp (disch := omega) only [bd_s, bv_s, lt_d, jn_d, om_s, om_n, zl0, zl1, zl2, zl3, zl4, zl5, zl6, zl7, zl8, zl9, zl10, zl11, zl12, zl13, zl16, zl23, zl24, zl26, zl31, zl32, zl35, zl36, zl40, zl42, zl45, zl48, zl57, zl58, zl59, zl60, zl61, zl62, zl63, zl64, zl65, zl78, zl90, zl94, zl97, zl98, zl114, zl122, zl126, zl244, zl290, zl291, zl326, zl335, zl361, zl2527, zl2888, neg1, le_T, le_F, lt_T, lt_F, eq_T, eq_F, m1_ne, m1_ne', m1_lt, m1_le, lt_m1, le_m1, cl_n, ib_T, nI_add, pk_mul, sub_n, add_m1, sub_m1, m1_1, m1_1', pw_d, st_e, st_n, vu_e, vu_n, up_e, up_n, if_true, if_false, true_or, or_true, false_or, or_false, eq_self, reduceCtorEq, not_true_eq_false, not_false_eq_true, cmn]
      split <;> rfl
    | succ k ih =>
      intro n hk hn
      obtain ⟨n, rfl⟩ : ∃ n', n = n' + 1 := ⟨n - 1, by omega⟩
      rw [f_X6_latestCommonBySets_L16.eq_2, cmn]
      simp (disch := omega) only [bd_s, bv_s, lt_d, jn_d, om_s, om_n, zl0, zl1, zl2, zl3, zl4, zl5, zl6, zl7, zl8, zl9, zl10, zl11, zl12, zl13, zl16, zl23, zl24, zl26, zl31, zl32, zl35, zl36, zl40, zl42, zl45, zl48, zl57, zl58, zl59, zl60, zl61, zl62, zl63, zl64, zl65, zl78, zl90, zl94, zl97, zl98, zl114, zl122, zl126, zl244, zl290, zl291, zl326, zl335, zl361, zl2527, zl2888, neg1, le_T, le_F, lt_T, lt_F, eq_T, eq_F, m1_ne, m1_ne', m1_lt, m1_le, lt_m1, le_m1, cl_n, ib_T, nI_add, pk_mul, sub_n, add_m1, sub_m1, m1_1, m1_1', pw_d, st_e, st_n, vu_e, vu_n, up_e, up_n, if_true, if_false, true_or, or_true, false_or, or_false, eq_self, reduceCtorEq, not_true_eq_false, not_false_eq_true, sx_cont (V := V) (x := Ag g a &&& Ag g b) hk]
      cases bt (Ag g a &&& Ag g b) (k + 1)
      · simp (disch := omega) only [bd_s, bv_s, lt_d, jn_d, om_s, om_n, zl0, zl1, zl2, zl3, zl4, zl5, zl6, zl7, zl8, zl9, zl10, zl11, zl12, zl13, zl16, zl23, zl24, zl26, zl31, zl32, zl35, zl36, zl40, zl42, zl45, zl48, zl57, zl58, zl59, zl60, zl61, zl62, zl63, zl64, zl65, zl78, zl90, zl94, zl97, zl98, zl114, zl122, zl126, zl244, zl290, zl291, zl326, zl335, zl361, zl2527, zl2888, neg1, le_T, le_F, lt_T, lt_F, eq_T, eq_F, m1_ne, m1_ne', m1_lt, m1_le, lt_m1, le_m1, cl_n, ib_T, nI_add, pk_mul, sub_n, add_m1, sub_m1, m1_1, m1_1', pw_d, st_e, st_n, vu_e, vu_n, up_e, up_n, if_true, if_false, true_or, or_true, false_or, or_false, eq_self, reduceCtorEq, not_true_eq_false, not_false_eq_true, Bool.false_eq_true]
        exact ih n (by omega) (by omega)
      · simp (disch := omega) only [bd_s, bv_s, lt_d, jn_d, om_s, om_n, zl0, zl1, zl2, zl3, zl4, zl5, zl6, zl7, zl8, zl9, zl10, zl11, zl12, zl13, zl16, zl23, zl24, zl26, zl31, zl32, zl35, zl36, zl40, zl42, zl45, zl48, zl57, zl58, zl59, zl60, zl61, zl62, zl63, zl64, zl65, zl78, zl90, zl94, zl97, zl98, zl114, zl122, zl126, zl244, zl290, zl291, zl326, zl335, zl361, zl2527, zl2888, neg1, le_T, le_F, lt_T, lt_F, eq_T, eq_F, m1_ne, m1_ne', m1_lt, m1_le, lt_m1, le_m1, cl_n, ib_T, nI_add, pk_mul, sub_n, add_m1, sub_m1, m1_1, m1_1', pw_d, st_e, st_n, vu_e, vu_n, up_e, up_n, if_true, if_false, true_or, or_true, false_or, or_false, eq_self, reduceCtorEq, not_true_eq_false, not_false_eq_true]
  exact key 23 FU (by omega) (by unfold FU; omega)
theorem cy_ms {b o f : Nat} (ok : OKg g) (R : RelM V g) (hb : b < bcn g) (ho : o < bcn g) (hf : f < 8) : f_X8_mergedSign V (nI b) (nI o) (nI f) = some (if mgl g b o f = nI 0 then nI 63 else mgl g b o f, V) := by
  have hc := ok_c24 ok
  have h5 := ok_b5 ok
  have h1 := ok_hc ok hb
  have h2 := ok_hc ok ho
  have h3 := com_lt ok h1 h2
  have n0 : ∀ x, Let x → ¬ x = nI 0 := by
    rintro x ⟨c, c1, c2, rfl⟩; exact nI_ne0 (by omega) (by omega)
  unfold f_X8_mergedSign mgl
  simp (disch := omega) only [bd_s, bv_s, lt_d, jn_d, om_s, om_n, zl0, zl1, zl2, zl3, zl4, zl5, zl6, zl7, zl8, zl9, zl10, zl11, zl12, zl13, zl16, zl23, zl24, zl26, zl31, zl32, zl35, zl36, zl40, zl42, zl45, zl48, zl57, zl58, zl59, zl60, zl61, zl62, zl63, zl64, zl65, zl78, zl90, zl94, zl97, zl98, zl114, zl122, zl126, zl244, zl290, zl291, zl326, zl335, zl361, zl2527, zl2888, neg1, le_T, le_F, lt_T, lt_F, eq_T, eq_F, m1_ne, m1_ne', m1_lt, m1_le, lt_m1, le_m1, cl_n, ib_T, nI_add, pk_mul, sub_n, add_m1, sub_m1, m1_1, m1_1', pw_d, st_e, st_n, vu_e, vu_n, up_e, up_n, if_true, if_false, true_or, or_true, false_or, or_false, eq_self, reduceCtorEq, not_true_eq_false, not_false_eq_true, rx_hd (V := V) (show b < 5 by omega), rx_hd (V := V) (show o < 5 by omega), R.2 b hb, R.2 o ho, ok_hd ok hb, ok_hd ok ho, cy_cs ok R h1 h2, rx_le (V := V) (show hd g b < 24 by omega) hf, rx_le (V := V) (show hd g o < 24 by omega) hf, rx_le (V := V) (show com g (hd g b) (hd g o) < 24 by omega) hf, (R.1 _ h1).2 f hf, (R.1 _ h2).2 f hf, (R.1 _ h3).2 f hf]
  have l1 := n0 _ (ok_le ok h1 hf)
  have l2 := n0 _ (ok_le ok h2 hf)
  generalize g (2 + 12 * hd g b + 4 + f) = x at *
  generalize g (2 + 12 * hd g o + 4 + f) = y at *
  generalize g (2 + 12 * com g (hd g b) (hd g o) + 4 + f) = z at *
  by_cases q1 : x = y
  · subst q1; simp [l1]
  · by_cases q2 : y = z
    · subst q2; simp [q1, l1]
    · by_cases q3 : x = z
      · subst q3; simp [q1, q2, l2]
      · simp [q1, q2, q3]
def kpI (kp : Bool) : Int32 := if kp then nI 1 else nI 0
theorem cx_mrg {b o : Nat} {kp : Bool} (ok : OKg g) (R : RelS V g) (hb : b < bcn g) (ho : o < bcn g) (hc : cnt g < 24) (hnd : ¬ arc g (hd g b)) : COk (f_X8_mergeHeads V (nI b) (nI o) (kpI kp)) V (nI (cnt g)) (nrg g b (hd g b) (nI (hd g o)) (g (2 + 12 * hd g o + 2)) (mrl g b o kp)) := by
  have h5 := ok_b5 ok
  have g1 := ok_hc ok hb
  have g2 := ok_hc ok ho
  have hn : V 1 1 = nI (cnt g) := (rl_n R).trans (ok_cnt ok)
  have ead := rx_add_q (V := V) (a := g (2 + 12 * hd g o + 2)) hn hc g1 g2
  have bb1 := (rl_r R g1).2.1
  have bb2 := (rl_r R g2).2.1
  generalize hW : addW V (cnt g) (hd g b) (nI (hd g o)) (g (2 + 12 * hd g o + 2)) (nI 1 + (if V 9 (hd g b) < V 9 (hd g o) then V 9 (hd g o) else V 9 (hd g b))) ((V 11 (hd g b) ||| V 11 (hd g o)) ||| pw (cnt g)) = W at *
  have M : ∀ k, k ≤ 8 → RelM (va_up W 13 (fb_put (W 13) (mrl g b o kp) (cnt g * 8) k)) g := fun k hk => by
    refine ⟨fun r hr => ⟨?_, fun f hf => ?_⟩, fun i hi => ?_⟩
    · rw [vu_n (by omega), ← hW, addW_11, up_n (by omega)]; exact (rl_r R hr).2.1.2
    · rw [vu_e, fb_put_out (by omega), ← hW, addW_n (by omega)]; exact (rl_r R hr).2.2.2 f hf
    · rw [vu_n (by omega), ← hW, addW_n (by omega)]; exact rl_h R hi
  have L : ∀ (j : Mem → Option (Int32 × Mem)), f_X8_mergeHeads_L34 (nI b) (nI o) (kpI kp) (nI (cnt g)) j FU W (nI 0) = j (va_up W 13 (fb_put (W 13) (mrl g b o kp) (cnt g * 8) 8)) := by
    intro j
    refine Eq.trans (congrArg (fun X => f_X8_mergeHeads_L34 (nI b) (nI o) (kpI kp) (nI (cnt g)) j FU X (nI 0)) (show W = va_up W 13 (fb_put (W 13) (mrl g b o kp) (cnt g * 8) 0) by rw [fb_put_0, vu_id])) ?_
    refine lp_run 8 (fun n k => f_X8_mergeHeads_L34 (nI b) (nI o) (kpI kp) (nI (cnt g)) j n (va_up W 13 (fb_put (W 13) (mrl g b o kp) (cnt g * 8) k)) (nI k)) _ ?_ ?_ (n := FU) (k := 0) (by omega) (by decide)
    · intro n
      rw [f_X8_mergeHeads_L34.eq_2]
      simp (disch := omega) only [bd_s, bv_s, lt_d, jn_d, om_s, om_n, zl0, zl1, zl2, zl3, zl4, zl5, zl6, zl7, zl8, zl9, zl10, zl11, zl12, zl13, zl16, zl23, zl24, zl26, zl31, zl32, zl35, zl36, zl40, zl42, zl45, zl48, zl57, zl58, zl59, zl60, zl61, zl62, zl63, zl64, zl65, zl78, zl90, zl94, zl97, zl98, zl114, zl122, zl126, zl244, zl290, zl291, zl326, zl335, zl361, zl2527, zl2888, neg1, le_T, le_F, lt_T, lt_F, eq_T, eq_F, m1_ne, m1_ne', m1_lt, m1_le, lt_m1, le_m1, cl_n, ib_T, nI_add, pk_mul, sub_n, add_m1, sub_m1, m1_1, m1_1', pw_d, st_e, st_n, vu_e, vu_n, up_e, up_n, if_true, if_false, true_or, or_true, false_or, or_false, eq_self, reduceCtorEq, not_true_eq_false, not_false_eq_true]
    · intro n k hk
      rw [f_X8_mergeHeads_L34.eq_2]
      have Mk := M k (by omega)
      have hs := fb_put_succ (W 13) (mrl g b o kp) (cnt g * 8) k
      rw [← hs]
      have eh : ∀ i, i < bcn g → f_X8_headOf (va_up W 13 (fb_put (W 13) (mrl g b o kp) (cnt g * 8) k)) (nI i) = some (nI (hd g i), va_up W 13 (fb_put (W 13) (mrl g b o kp) (cnt g * 8) k)) := fun i hi => by rw [rx_hd (by omega), Mk.2 i hi, ok_hd ok hi]
      have el : ∀ r, r < cnt g → f_X6_letterOf (va_up W 13 (fb_put (W 13) (mrl g b o kp) (cnt g * 8) k)) (nI r) (nI k) = some (g (2 + 12 * r + 4 + k), va_up W 13 (fb_put (W 13) (mrl g b o kp) (cnt g * 8) k)) := fun r hr => by rw [rx_le (by omega) hk, (Mk.1 r hr).2 k hk]
      have ep : ∀ x, f_X6_putLetter (va_up W 13 (fb_put (W 13) (mrl g b o kp) (cnt g * 8) k)) (nI (cnt g)) (nI k) x = some (va_up W 13 (upd (fb_put (W 13) (mrl g b o kp) (cnt g * 8) k) (cnt g * 8 + k) x)) := fun x => by rw [rx_pl hc hk, st_v2]
      have es := cy_ms ok Mk hb ho hk
      generalize va_up W 13 (fb_put (W 13) (mrl g b o kp) (cnt g * 8) k) = X at *
      rcases mgl_let ok hb ho hk with q | ⟨c, c1, c2, q⟩
      · have ek : mrl g b o kp k = if kp then g (2 + 12 * hd g b + 4 + k) else g (2 + 12 * hd g o + 4 + k) := by unfold mrl; rw [if_pos q]
        rw [ek]
        cases kp
        · simp (disch := omega) only [bd_s, bv_s, lt_d, jn_d, om_s, om_n, zl0, zl1, zl2, zl3, zl4, zl5, zl6, zl7, zl8, zl9, zl10, zl11, zl12, zl13, zl16, zl23, zl24, zl26, zl31, zl32, zl35, zl36, zl40, zl42, zl45, zl48, zl57, zl58, zl59, zl60, zl61, zl62, zl63, zl64, zl65, zl78, zl90, zl94, zl97, zl98, zl114, zl122, zl126, zl244, zl290, zl291, zl326, zl335, zl361, zl2527, zl2888, neg1, le_T, le_F, lt_T, lt_F, eq_T, eq_F, m1_ne, m1_ne', m1_lt, m1_le, lt_m1, le_m1, cl_n, ib_T, nI_add, pk_mul, sub_n, add_m1, sub_m1, m1_1, m1_1', pw_d, st_e, st_n, vu_e, vu_n, up_e, up_n, if_true, if_false, true_or, or_true, false_or, or_false, eq_self, reduceCtorEq, not_true_eq_false, not_false_eq_true, es, q, kpI, eh o ho, el (hd g o) g2, ep, Bool.false_eq_true]
        · simp (disch := omega) only [bd_s, bv_s, lt_d, jn_d, om_s, om_n, zl0, zl1, zl2, zl3, zl4, zl5, zl6, zl7, zl8, zl9, zl10, zl11, zl12, zl13, zl16, zl23, zl24, zl26, zl31, zl32, zl35, zl36, zl40, zl42, zl45, zl48, zl57, zl58, zl59, zl60, zl61, zl62, zl63, zl64, zl65, zl78, zl90, zl94, zl97, zl98, zl114, zl122, zl126, zl244, zl290, zl291, zl326, zl335, zl361, zl2527, zl2888, neg1, le_T, le_F, lt_T, lt_F, eq_T, eq_F, m1_ne, m1_ne', m1_lt, m1_le, lt_m1, le_m1, cl_n, ib_T, nI_add, pk_mul, sub_n, add_m1, sub_m1, m1_1, m1_1', pw_d, st_e, st_n, vu_e, vu_n, up_e, up_n, if_true, if_false, true_or, or_true, false_or, or_false, eq_self, reduceCtorEq, not_true_eq_false, not_false_eq_true, es, q, kpI, eh b hb, el (hd g b) g1, ep]
      · have ek : mrl g b o kp k = nI c := by unfold mrl; rw [q, if_neg (show ¬ nI c = nI 0 from nI_ne0 (by omega) (by omega))]
        rw [ek]
        simp (disch := omega) only [bd_s, bv_s, lt_d, jn_d, om_s, om_n, zl0, zl1, zl2, zl3, zl4, zl5, zl6, zl7, zl8, zl9, zl10, zl11, zl12, zl13, zl16, zl23, zl24, zl26, zl31, zl32, zl35, zl36, zl40, zl42, zl45, zl48, zl57, zl58, zl59, zl60, zl61, zl62, zl63, zl64, zl65, zl78, zl90, zl94, zl97, zl98, zl114, zl122, zl126, zl244, zl290, zl291, zl326, zl335, zl361, zl2527, zl2888, neg1, le_T, le_F, lt_T, lt_F, eq_T, eq_F, m1_ne, m1_ne', m1_lt, m1_le, lt_m1, le_m1, cl_n, ib_T, nI_add, pk_mul, sub_n, add_m1, sub_m1, m1_1, m1_1', pw_d, st_e, st_n, vu_e, vu_n, up_e, up_n, if_true, if_false, true_or, or_true, false_or, or_false, eq_self, reduceCtorEq, not_true_eq_false, not_false_eq_true, es, q, ep]
  have M8 := M 8 (by omega)
  have co := rx_co (V := va_up W 13 (fb_put (W 13) (mrl g b o kp) (cnt g * 8) 8)) (show b < 5 by omega) hc
  generalize hX : va_up W 13 (fb_put (W 13) (mrl g b o kp) (cnt g * 8) 8) = X at *
  refine ⟨va_up (stv X 15 b (nI (cnt g))) 17 (fb_put (X 17) (fun f => X 13 (cnt g * 8 + f)) (b * 8) 8), ?_, ?_, fun c hc' => ?_⟩
  · unfold f_X8_mergeHeads
    simp (disch := omega) only [bd_s, bv_s, lt_d, jn_d, om_s, om_n, zl0, zl1, zl2, zl3, zl4, zl5, zl6, zl7, zl8, zl9, zl10, zl11, zl12, zl13, zl16, zl23, zl24, zl26, zl31, zl32, zl35, zl36, zl40, zl42, zl45, zl48, zl57, zl58, zl59, zl60, zl61, zl62, zl63, zl64, zl65, zl78, zl90, zl94, zl97, zl98, zl114, zl122, zl126, zl244, zl290, zl291, zl326, zl335, zl361, zl2527, zl2888, neg1, le_T, le_F, lt_T, lt_F, eq_T, eq_F, m1_ne, m1_ne', m1_lt, m1_le, lt_m1, le_m1, cl_n, ib_T, nI_add, pk_mul, sub_n, add_m1, sub_m1, m1_1, m1_1', pw_d, st_e, st_n, vu_e, vu_n, up_e, up_n, if_true, if_false, true_or, or_true, false_or, or_false, eq_self, reduceCtorEq, not_true_eq_false, not_false_eq_true, cx_hd ok R hb, cx_hd ok R ho, cx_wr ok R g2, ead, L, co]
  · have q13 : X 13 = fb_put (W 13) (mrl g b o kp) (cnt g * 8) 8 := by rw [← hX, vu_e]
    have qn : ∀ d, d ≠ 13 → X d = W d := fun d hd => by rw [← hX, vu_n hd]
    have nm : ¬ nI (hd g o) = m1 := nI_m1 (by omega)
    refine Rel_nr ok hc hb g1 (.inr ⟨hd g o, g2, rfl⟩) R ?_ ?_ ?_ ?_ ?_ ?_ ?_ ?_ ?_ ?_ ?_ ?_
    · rw [vu_n (by omega), st_n (by omega), qn _ (by omega), ← hW, addW_n (by omega)]
    · rw [vu_n (by omega), st_n (by omega), qn _ (by omega), ← hW, addW_1, up_n (by omega)]
    · rw [vu_n (by omega), st_n (by omega), qn _ (by omega), ← hW, addW_1, up_e]
    · rw [vu_n (by omega), st_n (by omega), qn _ (by omega), ← hW, addW_3]
    · rw [vu_n (by omega), st_n (by omega), qn _ (by omega), ← hW, addW_5]
    · rw [vu_n (by omega), st_n (by omega), qn _ (by omega), ← hW, addW_7]
    · rw [vu_n (by omega), st_n (by omega), qn _ (by omega), ← hW, addW_9, bb1.1, bb2.1, Int32.add_comm, if_neg nm, nI_clamp (by omega)]
    · rw [vu_n (by omega), st_n (by omega), qn _ (by omega), ← hW, addW_11, bb1.2, bb2.2, or_3, if_neg nm, nI_clamp (by omega)]
    · rw [vu_n (by omega), st_n (by omega), q13, ← hW, addW_n (by omega)]
    · rw [vu_n (by omega), st_e, qn _ (by omega), ← hW, addW_n (by omega)]
    · rw [vu_e, qn _ (by omega), ← hW, addW_n (by omega), q13]
      exact fb_put_cong (fun _ _ => rfl) (fun f hf => by rw [fb_put_in (by omega) (by omega)]; congr 1; omega)
    · rw [vu_n (by omega), st_n (by omega), qn _ (by omega), ← hW, addW_n (by omega)]
  · rw [vu_n (by omega), st_n (by omega), ← hX, vu_n (by omega), ← hW, addW_n (by omega)]
end CM
