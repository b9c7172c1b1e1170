/-! PURE, 22: what the reference reads -/
def Bad (a : Int32) (n : Nat) : Prop := a < nI 0 ∨ nI n ≤ a
theorem bad_or (a : Int32) {n : Nat} (hn : n < 2 ^ 31) : (∃ k, k < n ∧ a = nI k) ∨ Bad a n := by
  rcases i_cases a n hn with h | h | h
  · exact .inl h
  · exact .inr (.inl h.1)
  · exact .inr (.inr h.1)
theorem fa_le' (a b : Int32) : a ≤ b ↔ a.toInt ≤ b.toInt := Int32.le_iff_toInt_le
theorem fa_lt' (a b : Int32) : a < b ↔ a.toInt < b.toInt := Int32.lt_iff_toInt_lt
theorem wide_le (a b : Int32) : a.toInt64 ≤ b.toInt64 ↔ a ≤ b := by rw [Int64.le_iff_toInt_le, fa_le', Int32.toInt_toInt64, Int32.toInt_toInt64]
theorem wide_lt (a b : Int32) : a.toInt64 < b.toInt64 ↔ a < b := by rw [Int64.lt_iff_toInt_lt, fa_lt', Int32.toInt_toInt64, Int32.toInt_toInt64]
theorem wide_eq (a b : Int32) : a.toInt64 = b.toInt64 ↔ a = b := by rw [← Int64.toInt_inj, Int32.toInt_toInt64, Int32.toInt_toInt64, Int32.toInt_inj]
/-- the reference's 'in', over ints -/
theorem sm_in_T (V : Mem) {a b c : Int32} {A B C : Int64} (ha : A = a.toInt64) (hb : B = b.toInt64) (hc : C = c.toInt64) (h1 : b ≤ a) (h2 : a ≤ c) : f_X10_in V A B C = some (nI 1, V) := by
  subst ha hb hc
  unfold f_X10_in
  rw [if_neg (by rw [lg_cmp_lt, wide_lt, fa_lt']; rw [fa_le'] at h1; omega), if_neg (by rw [lg_cmp_gt, wide_lt, fa_lt']; rw [fa_le'] at h2; omega)]
  rfl
theorem sm_in_F (V : Mem) {a b c : Int32} {A B C : Int64} (ha : A = a.toInt64) (hb : B = b.toInt64) (hc : C = c.toInt64) (h1 : a < b ∨ c < a) : f_X10_in V A B C = some (nI 0, V) := by
  subst ha hb hc
  unfold f_X10_in
  rcases Decidable.em (a < b) with q | q
  · rw [if_pos (by rw [lg_cmp_lt, wide_lt]; exact q)]; rfl
  · rcases h1 with h1 | h1
    · exact absurd h1 q
    · rw [if_neg (by rw [lg_cmp_lt, wide_lt]; exact q), if_pos (by rw [lg_cmp_gt, wide_lt]; exact h1)]; rfl
theorem bad_in {a : Int32} {n : Nat} (h1 : 1 ≤ n) (hn : n < 2 ^ 31) (h : Bad a n) : a < nI 0 ∨ nI (n - 1) < a := by
  rcases h with h | h
  · exact .inl h
  · right
    rw [fa_le', nI_toInt hn] at h
    rw [fa_lt', nI_toInt (by omega)]
    omega
theorem sm_th (V : Mem) (a : Int32) : f_X10_throwing V a = some (m1, stv V 253 4 a) := id rfl
theorem w0 : (0 : Int64) = (nI 0).toInt64 := by decide
theorem w7 : (7 : Int64) = (nI 7).toInt64 := by decide
theorem w7' : (7 : Int64) = (nI (8 - 1)).toInt64 := by decide
theorem w9 : (9 : Int64) = (nI 9).toInt64 := by decide
theorem w97 : (97 : Int64) = (nI 97).toInt64 := by decide
theorem w122 : (122 : Int64) = (nI 122).toInt64 := by decide
theorem w65 : (65 : Int64) = (nI 65).toInt64 := by decide
theorem w90 : (90 : Int64) = (nI 90).toInt64 := by decide
theorem w32 : (32 : Int64) = (nI 32).toInt64 := by decide
theorem w126 : (126 : Int64) = (nI 126).toInt64 := by decide
section RD
variable {V : Mem} {g : Arr}
theorem sm_isRev_T {r n : Nat} (h0 : V 254 0 = nI n) (hn : n ≤ 24) (hr : r < n) : f_X10_isRevision V (nI r) = some (nI 1, V) := by
  unfold f_X10_isRevision
  rw [if_pos (by simp (disch := omega) only [bd_s, bv_s, lt_d, jn_d, om_s, om_n, zl0, zl1, zl2, zl3, zl4, zl5, zl6, zl7, zl8, zl9, zl10, zl11, zl12, zl13, zl16, zl23, zl24, zl26, zl31, zl32, zl35, zl36, zl40, zl42, zl45, zl48, zl57, zl58, zl59, zl60, zl61, zl62, zl63, zl64, zl65, zl78, zl90, zl94, zl97, zl98, zl114, zl122, zl126, zl244, zl290, zl291, zl326, zl335, zl361, zl2527, zl2888, neg1, le_T, le_F, lt_T, lt_F, eq_T, eq_F, m1_ne, m1_ne', m1_lt, m1_le, lt_m1, le_m1, cl_n, ib_T, nI_add, pk_mul, sub_n, add_m1, sub_m1, m1_1, m1_1', pw_d, st_e, st_n, vu_e, vu_n, up_e, up_n, if_true, if_false, true_or, or_true, false_or, or_false, eq_self, reduceCtorEq, not_true_eq_false, not_false_eq_true]), show V 254 (0 : Int32).toNatClampNeg = nI n from h0, sm_in_T V (A := (nI r).toInt64) (B := 0) (C := (nI n - 1).toInt64) (a := nI r) (b := nI 0) (c := nI (n - 1)) rfl w0 (by rw [zl1, sub_n (by omega)]) (nI_le (by omega) (by omega)) (nI_le (by omega) (by omega)), bd_s, if_pos (.inr rfl)]
theorem sm_isRev_F {a : Int32} {n : Nat} (h0 : V 254 0 = nI n) (h1 : 1 ≤ n) (hn : n ≤ 24) (hr : Bad a n) : f_X10_isRevision V a = some (nI 0, V) := by
  unfold f_X10_isRevision
  rw [if_pos (by simp (disch := omega) only [bd_s, bv_s, lt_d, jn_d, om_s, om_n, zl0, zl1, zl2, zl3, zl4, zl5, zl6, zl7, zl8, zl9, zl10, zl11, zl12, zl13, zl16, zl23, zl24, zl26, zl31, zl32, zl35, zl36, zl40, zl42, zl45, zl48, zl57, zl58, zl59, zl60, zl61, zl62, zl63, zl64, zl65, zl78, zl90, zl94, zl97, zl98, zl114, zl122, zl126, zl244, zl290, zl291, zl326, zl335, zl361, zl2527, zl2888, neg1, le_T, le_F, lt_T, lt_F, eq_T, eq_F, m1_ne, m1_ne', m1_lt, m1_le, lt_m1, le_m1, cl_n, ib_T, nI_add, pk_mul, sub_n, add_m1, sub_m1, m1_1, m1_1', pw_d, st_e, st_n, vu_e, vu_n, up_e, up_n, if_true, if_false, true_or, or_true, false_or, or_false, eq_self, reduceCtorEq, not_true_eq_false, not_false_eq_true]), show V 254 (0 : Int32).toNatClampNeg = nI n from h0, sm_in_F V (A := (a).toInt64) (B := 0) (C := (nI n - 1).toInt64) (a := a) (b := nI 0) (c := nI (n - 1)) rfl w0 (by rw [zl1, sub_n (by omega)]) (bad_in h1 (by omega) hr), bd_s, if_pos (.inl rfl)]
theorem sm_isBra_T {r n : Nat} (h0 : V 254 1 = nI n) (hn : n ≤ 5) (hr : r < n) : f_X10_isBranch V (nI r) = some (nI 1, V) := by
  unfold f_X10_isBranch
  rw [if_pos (by simp (disch := omega) only [bd_s, bv_s, lt_d, jn_d, om_s, om_n, zl0, zl1, zl2, zl3, zl4, zl5, zl6, zl7, zl8, zl9, zl10, zl11, zl12, zl13, zl16, zl23, zl24, zl26, zl31, zl32, zl35, zl36, zl40, zl42, zl45, zl48, zl57, zl58, zl59, zl60, zl61, zl62, zl63, zl64, zl65, zl78, zl90, zl94, zl97, zl98, zl114, zl122, zl126, zl244, zl290, zl291, zl326, zl335, zl361, zl2527, zl2888, neg1, le_T, le_F, lt_T, lt_F, eq_T, eq_F, m1_ne, m1_ne', m1_lt, m1_le, lt_m1, le_m1, cl_n, ib_T, nI_add, pk_mul, sub_n, add_m1, sub_m1, m1_1, m1_1', pw_d, st_e, st_n, vu_e, vu_n, up_e, up_n, if_true, if_false, true_or, or_true, false_or, or_false, eq_self, reduceCtorEq, not_true_eq_false, not_false_eq_true]), show V 254 (1 : Int32).toNatClampNeg = nI n from h0, sm_in_T V (A := (nI r).toInt64) (B := 0) (C := (nI n - 1).toInt64) (a := nI r) (b := nI 0) (c := nI (n - 1)) rfl w0 (by rw [zl1, sub_n (by omega)]) (nI_le (by omega) (by omega)) (nI_le (by omega) (by omega)), bd_s, if_pos (.inr rfl)]
theorem sm_isBra_F {a : Int32} {n : Nat} (h0 : V 254 1 = nI n) (h1 : 1 ≤ n) (hn : n ≤ 5) (hr : Bad a n) : f_X10_isBranch V a = some (nI 0, V) := by
  unfold f_X10_isBranch
  rw [if_pos (by simp (disch := omega) only [bd_s, bv_s, lt_d, jn_d, om_s, om_n, zl0, zl1, zl2, zl3, zl4, zl5, zl6, zl7, zl8, zl9, zl10, zl11, zl12, zl13, zl16, zl23, zl24, zl26, zl31, zl32, zl35, zl36, zl40, zl42, zl45, zl48, zl57, zl58, zl59, zl60, zl61, zl62, zl63, zl64, zl65, zl78, zl90, zl94, zl97, zl98, zl114, zl122, zl126, zl244, zl290, zl291, zl326, zl335, zl361, zl2527, zl2888, neg1, le_T, le_F, lt_T, lt_F, eq_T, eq_F, m1_ne, m1_ne', m1_lt, m1_le, lt_m1, le_m1, cl_n, ib_T, nI_add, pk_mul, sub_n, add_m1, sub_m1, m1_1, m1_1', pw_d, st_e, st_n, vu_e, vu_n, up_e, up_n, if_true, if_false, true_or, or_true, false_or, or_false, eq_self, reduceCtorEq, not_true_eq_false, not_false_eq_true]), show V 254 (1 : Int32).toNatClampNeg = nI n from h0, sm_in_F V (A := (a).toInt64) (B := 0) (C := (nI n - 1).toInt64) (a := a) (b := nI 0) (c := nI (n - 1)) rfl w0 (by rw [zl1, sub_n (by omega)]) (bad_in h1 (by omega) hr), bd_s, if_pos (.inl rfl)]
theorem sm_isFld_T {f : Nat} (hf : f < 8) : f_X10_isField V (nI f) = some (nI 1, V) := by
  unfold f_X10_isField
  rw [sm_in_T V (A := (nI f).toInt64) (B := 0) (C := 7) (a := nI f) (b := nI 0) (c := nI 7) rfl w0 w7 (nI_le (by omega) (by omega)) (nI_le (by omega) (by omega)), bd_s, if_pos (.inr rfl)]
theorem sm_isFld_F {a : Int32} (h : Bad a 8) : f_X10_isField V a = some (nI 0, V) := by
  unfold f_X10_isField
  rw [sm_in_F V (A := (a).toInt64) (B := 0) (C := 7) (a := a) (b := nI 0) (c := nI (8 - 1)) rfl w0 w7' (bad_in (by omega) (by omega) h), bd_s, if_pos (.inl rfl)]
theorem sm_revAt (a : Int32) : f_X10_revisionAt V a = some (nI 2 + nI 12 * a, V) := id rfl
theorem sm_braAt (a : Int32) : f_X10_branchAt V a = some (nI 290 + nI 9 * a, V) := id rfl
theorem sm_letter {r f : Nat} (hr : r < 24) (hf : f < 8) : f_X10_letter V (nI r) (nI f) = some (V 254 (2 + 12 * r + 4 + f), V) := by
  unfold f_X10_letter
  simp (disch := omega) only [bd_s, bv_s, lt_d, jn_d, om_s, om_n, zl0, zl1, zl2, zl3, zl4, zl5, zl6, zl7, zl8, zl9, zl10, zl11, zl12, zl13, zl16, zl23, zl24, zl26, zl31, zl32, zl35, zl36, zl40, zl42, zl45, zl48, zl57, zl58, zl59, zl60, zl61, zl62, zl63, zl64, zl65, zl78, zl90, zl94, zl97, zl98, zl114, zl122, zl126, zl244, zl290, zl291, zl326, zl335, zl361, zl2527, zl2888, neg1, le_T, le_F, lt_T, lt_F, eq_T, eq_F, m1_ne, m1_ne', m1_lt, m1_le, lt_m1, le_m1, cl_n, ib_T, nI_add, pk_mul, sub_n, add_m1, sub_m1, m1_1, m1_1', pw_d, st_e, st_n, vu_e, vu_n, up_e, up_n, if_true, if_false, true_or, or_true, false_or, or_false, eq_self, reduceCtorEq, not_true_eq_false, not_false_eq_true, sm_revAt]
theorem sm_work {b f : Nat} (hb : b < 5) (hf : f < 8) : f_X10_work V (nI b) (nI f) = some (V 254 (290 + 9 * b + 1 + f), V) := by
  unfold f_X10_work
  simp (disch := omega) only [bd_s, bv_s, lt_d, jn_d, om_s, om_n, zl0, zl1, zl2, zl3, zl4, zl5, zl6, zl7, zl8, zl9, zl10, zl11, zl12, zl13, zl16, zl23, zl24, zl26, zl31, zl32, zl35, zl36, zl40, zl42, zl45, zl48, zl57, zl58, zl59, zl60, zl61, zl62, zl63, zl64, zl65, zl78, zl90, zl94, zl97, zl98, zl114, zl122, zl126, zl244, zl290, zl291, zl326, zl335, zl361, zl2527, zl2888, neg1, le_T, le_F, lt_T, lt_F, eq_T, eq_F, m1_ne, m1_ne', m1_lt, m1_le, lt_m1, le_m1, cl_n, ib_T, nI_add, pk_mul, sub_n, add_m1, sub_m1, m1_1, m1_1', pw_d, st_e, st_n, vu_e, vu_n, up_e, up_n, if_true, if_false, true_or, or_true, false_or, or_false, eq_self, reduceCtorEq, not_true_eq_false, not_false_eq_true, sm_braAt]
theorem sm_headOf {b : Nat} (hb : b < 5) : f_X10_headOf V (nI b) = some (V 254 (290 + 9 * b), V) := by
  unfold f_X10_headOf
  simp (disch := omega) only [bd_s, bv_s, lt_d, jn_d, om_s, om_n, zl0, zl1, zl2, zl3, zl4, zl5, zl6, zl7, zl8, zl9, zl10, zl11, zl12, zl13, zl16, zl23, zl24, zl26, zl31, zl32, zl35, zl36, zl40, zl42, zl45, zl48, zl57, zl58, zl59, zl60, zl61, zl62, zl63, zl64, zl65, zl78, zl90, zl94, zl97, zl98, zl114, zl122, zl126, zl244, zl290, zl291, zl326, zl335, zl361, zl2527, zl2888, neg1, le_T, le_F, lt_T, lt_F, eq_T, eq_F, m1_ne, m1_ne', m1_lt, m1_le, lt_m1, le_m1, cl_n, ib_T, nI_add, pk_mul, sub_n, add_m1, sub_m1, m1_1, m1_1', pw_d, st_e, st_n, vu_e, vu_n, up_e, up_n, if_true, if_false, true_or, or_true, false_or, or_false, eq_self, reduceCtorEq, not_true_eq_false, not_false_eq_true, sm_braAt]
theorem sm_isOpen_T {r : Nat} (h : OKg (V 254)) (hr : r < cnt (V 254)) (ha : ¬ arc (V 254) r) : f_X10_isOpen V (nI r) = some (nI 1, V) := by
  have hc := ok_c24 h
  unfold f_X10_isOpen
  have e : V 254 (2 + 12 * r + 3) = nI 0 := (ok_ar h hr).resolve_right ha
  simp (disch := omega) only [bd_s, bv_s, lt_d, jn_d, om_s, om_n, zl0, zl1, zl2, zl3, zl4, zl5, zl6, zl7, zl8, zl9, zl10, zl11, zl12, zl13, zl16, zl23, zl24, zl26, zl31, zl32, zl35, zl36, zl40, zl42, zl45, zl48, zl57, zl58, zl59, zl60, zl61, zl62, zl63, zl64, zl65, zl78, zl90, zl94, zl97, zl98, zl114, zl122, zl126, zl244, zl290, zl291, zl326, zl335, zl361, zl2527, zl2888, neg1, le_T, le_F, lt_T, lt_F, eq_T, eq_F, m1_ne, m1_ne', m1_lt, m1_le, lt_m1, le_m1, cl_n, ib_T, nI_add, pk_mul, sub_n, add_m1, sub_m1, m1_1, m1_1', pw_d, st_e, st_n, vu_e, vu_n, up_e, up_n, if_true, if_false, true_or, or_true, false_or, or_false, eq_self, reduceCtorEq, not_true_eq_false, not_false_eq_true, sm_isRev_T (ok_cnt h) hc hr, sm_revAt, e]
theorem sm_isOpen_F {r : Nat} (h : OKg (V 254)) (hr : r < cnt (V 254)) (ha : arc (V 254) r) : f_X10_isOpen V (nI r) = some (nI 0, V) := by
  have hc := ok_c24 h
  unfold f_X10_isOpen
  have e : V 254 (2 + 12 * r + 3) = nI 1 := ha
  simp (disch := omega) only [bd_s, bv_s, lt_d, jn_d, om_s, om_n, zl0, zl1, zl2, zl3, zl4, zl5, zl6, zl7, zl8, zl9, zl10, zl11, zl12, zl13, zl16, zl23, zl24, zl26, zl31, zl32, zl35, zl36, zl40, zl42, zl45, zl48, zl57, zl58, zl59, zl60, zl61, zl62, zl63, zl64, zl65, zl78, zl90, zl94, zl97, zl98, zl114, zl122, zl126, zl244, zl290, zl291, zl326, zl335, zl361, zl2527, zl2888, neg1, le_T, le_F, lt_T, lt_F, eq_T, eq_F, m1_ne, m1_ne', m1_lt, m1_le, lt_m1, le_m1, cl_n, ib_T, nI_add, pk_mul, sub_n, add_m1, sub_m1, m1_1, m1_1', pw_d, st_e, st_n, vu_e, vu_n, up_e, up_n, if_true, if_false, true_or, or_true, false_or, or_false, eq_self, reduceCtorEq, not_true_eq_false, not_false_eq_true, sm_isRev_T (ok_cnt h) hc hr, sm_revAt, e]
theorem sm_isOpen_B {a : Int32} (h : OKg (V 254)) (hr : Bad a (cnt (V 254))) : f_X10_isOpen V a = some (nI 0, V) := by
  unfold f_X10_isOpen
  simp (disch := omega) only [bd_s, bv_s, lt_d, jn_d, om_s, om_n, zl0, zl1, zl2, zl3, zl4, zl5, zl6, zl7, zl8, zl9, zl10, zl11, zl12, zl13, zl16, zl23, zl24, zl26, zl31, zl32, zl35, zl36, zl40, zl42, zl45, zl48, zl57, zl58, zl59, zl60, zl61, zl62, zl63, zl64, zl65, zl78, zl90, zl94, zl97, zl98, zl114, zl122, zl126, zl244, zl290, zl291, zl326, zl335, zl361, zl2527, zl2888, neg1, le_T, le_F, lt_T, lt_F, eq_T, eq_F, m1_ne, m1_ne', m1_lt, m1_le, lt_m1, le_m1, cl_n, ib_T, nI_add, pk_mul, sub_n, add_m1, sub_m1, m1_1, m1_1', pw_d, st_e, st_n, vu_e, vu_n, up_e, up_n, if_true, if_false, true_or, or_true, false_or, or_false, eq_self, reduceCtorEq, not_true_eq_false, not_false_eq_true, sm_isRev_F (ok_cnt h) (ok_c1 h) (ok_c24 h) hr]
theorem sm_isEd {b f : Nat} (h : OKg (V 254)) (hb : b < bcn (V 254)) (hf : f < 8) : f_X10_isEditedAt V (nI b) (nI f) = some (if edt (V 254) b f then nI 1 else nI 0, V) := by
  have h5 := ok_b5 h
  have hc := ok_c24 h
  have hh := ok_hc h hb
  unfold f_X10_isEditedAt edt
  simp (disch := omega) only [bd_s, bv_s, lt_d, jn_d, om_s, om_n, zl0, zl1, zl2, zl3, zl4, zl5, zl6, zl7, zl8, zl9, zl10, zl11, zl12, zl13, zl16, zl23, zl24, zl26, zl31, zl32, zl35, zl36, zl40, zl42, zl45, zl48, zl57, zl58, zl59, zl60, zl61, zl62, zl63, zl64, zl65, zl78, zl90, zl94, zl97, zl98, zl114, zl122, zl126, zl244, zl290, zl291, zl326, zl335, zl361, zl2527, zl2888, neg1, le_T, le_F, lt_T, lt_F, eq_T, eq_F, m1_ne, m1_ne', m1_lt, m1_le, lt_m1, le_m1, cl_n, ib_T, nI_add, pk_mul, sub_n, add_m1, sub_m1, m1_1, m1_1', pw_d, st_e, st_n, vu_e, vu_n, up_e, up_n, if_true, if_false, true_or, or_true, false_or, or_false, eq_self, reduceCtorEq, not_true_eq_false, not_false_eq_true, sm_work (V := V) (show b < 5 by omega) hf, sm_headOf (V := V) (show b < 5 by omega), ok_hd h hb, sm_letter (V := V) (show hd (V 254) b < 24 by omega) hf]
  by_cases e : V 254 (290 + 9 * b + 1 + f) = V 254 (2 + 12 * hd (V 254) b + 4 + f)
  · rw [if_pos e, if_neg (by simp [e])]
  · rw [if_neg e, if_pos (by simp [e])]
theorem ct_if {p : Nat → Bool} {k : Nat} : nI (fb_ct p k) + (if p k then nI 1 else nI 0) = nI (fb_ct p (k + 1)) := by
  rw [fb_ct_succ]
  cases p k
  · exact nI_add _ 0
  · exact nI_add _ 1
theorem sm_edits {b : Nat} (h : OKg (V 254)) (hb : b < bcn (V 254)) : f_X10_edits V (nI b) = some (nI (edn (V 254) b), V) := by
  unfold f_X10_edits
  refine lp_run 8 (fun n k => f_X10_edits_L4 (nI b) n V (nI (fb_ct (edt (V 254) b) k)) (nI k)) _ ?_ ?_ (n := FU) (k := 0) (by omega) (by decide)
  · intro n
    rw [f_X10_edits_L4.eq_2]
    simp (disch := omega) only [bd_s, bv_s, lt_d, jn_d, om_s, om_n, zl0, zl1, zl2, zl3, zl4, zl5, zl6, zl7, zl8, zl9, zl10, zl11, zl12, zl13, zl16, zl23, zl24, zl26, zl31, zl32, zl35, zl36, zl40, zl42, zl45, zl48, zl57, zl58, zl59, zl60, zl61, zl62, zl63, zl64, zl65, zl78, zl90, zl94, zl97, zl98, zl114, zl122, zl126, zl244, zl290, zl291, zl326, zl335, zl361, zl2527, zl2888, neg1, le_T, le_F, lt_T, lt_F, eq_T, eq_F, m1_ne, m1_ne', m1_lt, m1_le, lt_m1, le_m1, cl_n, ib_T, nI_add, pk_mul, sub_n, add_m1, sub_m1, m1_1, m1_1', pw_d, st_e, st_n, vu_e, vu_n, up_e, up_n, if_true, if_false, true_or, or_true, false_or, or_false, eq_self, reduceCtorEq, not_true_eq_false, not_false_eq_true] <;> rfl
  · intro n k hk
    rw [f_X10_edits_L4.eq_2]
    simp (disch := omega) only [bd_s, bv_s, lt_d, jn_d, om_s, om_n, zl0, zl1, zl2, zl3, zl4, zl5, zl6, zl7, zl8, zl9, zl10, zl11, zl12, zl13, zl16, zl23, zl24, zl26, zl31, zl32, zl35, zl36, zl40, zl42, zl45, zl48, zl57, zl58, zl59, zl60, zl61, zl62, zl63, zl64, zl65, zl78, zl90, zl94, zl97, zl98, zl114, zl122, zl126, zl244, zl290, zl291, zl326, zl335, zl361, zl2527, zl2888, neg1, le_T, le_F, lt_T, lt_F, eq_T, eq_F, m1_ne, m1_ne', m1_lt, m1_le, lt_m1, le_m1, cl_n, ib_T, nI_add, pk_mul, sub_n, add_m1, sub_m1, m1_1, m1_1', pw_d, st_e, st_n, vu_e, vu_n, up_e, up_n, if_true, if_false, true_or, or_true, false_or, or_false, eq_self, reduceCtorEq, not_true_eq_false, not_false_eq_true, sm_isEd h hb hk]
    rw [← ct_if]
    cases edt (V 254) b k
    · simp (disch := omega) only [bd_s, bv_s, lt_d, jn_d, om_s, om_n, zl0, zl1, zl2, zl3, zl4, zl5, zl6, zl7, zl8, zl9, zl10, zl11, zl12, zl13, zl16, zl23, zl24, zl26, zl31, zl32, zl35, zl36, zl40, zl42, zl45, zl48, zl57, zl58, zl59, zl60, zl61, zl62, zl63, zl64, zl65, zl78, zl90, zl94, zl97, zl98, zl114, zl122, zl126, zl244, zl290, zl291, zl326, zl335, zl361, zl2527, zl2888, neg1, le_T, le_F, lt_T, lt_F, eq_T, eq_F, m1_ne, m1_ne', m1_lt, m1_le, lt_m1, le_m1, cl_n, ib_T, nI_add, pk_mul, sub_n, add_m1, sub_m1, m1_1, m1_1', pw_d, st_e, st_n, vu_e, vu_n, up_e, up_n, if_true, if_false, true_or, or_true, false_or, or_false, eq_self, reduceCtorEq, not_true_eq_false, not_false_eq_true, Bool.false_eq_true] <;> rfl
    · simp (disch := omega) only [bd_s, bv_s, lt_d, jn_d, om_s, om_n, zl0, zl1, zl2, zl3, zl4, zl5, zl6, zl7, zl8, zl9, zl10, zl11, zl12, zl13, zl16, zl23, zl24, zl26, zl31, zl32, zl35, zl36, zl40, zl42, zl45, zl48, zl57, zl58, zl59, zl60, zl61, zl62, zl63, zl64, zl65, zl78, zl90, zl94, zl97, zl98, zl114, zl122, zl126, zl244, zl290, zl291, zl326, zl335, zl361, zl2527, zl2888, neg1, le_T, le_F, lt_T, lt_F, eq_T, eq_F, m1_ne, m1_ne', m1_lt, m1_le, lt_m1, le_m1, cl_n, ib_T, nI_add, pk_mul, sub_n, add_m1, sub_m1, m1_1, m1_1', pw_d, st_e, st_n, vu_e, vu_n, up_e, up_n, if_true, if_false, true_or, or_true, false_or, or_false, eq_self, reduceCtorEq, not_true_eq_false, not_false_eq_true] <;> rfl
end RD
