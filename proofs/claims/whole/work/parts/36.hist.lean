/-! PURE, 36: copies of stores, what is remembered -/
def fil (f g : Arr) (n : Nat) : Arr := fun k => if k < n then f k else g k
theorem fil_in {f g : Arr} {n k : Nat} (h : k < n) : fil f g n k = f k := if_pos h
theorem fil_out {f g : Arr} {n k : Nat} (h : n ≤ k) : fil f g n k = g k := if_neg (by omega)
theorem fil_0 {f g : Arr} : fil f g 0 = g := by funext k; exact fil_out (Nat.zero_le _)
theorem fil_s {f g : Arr} {n : Nat} {x : Int32} (hx : x = f n) : upd (fil f g n) n x = fil f g (n + 1) := by
  funext k
  by_cases e : k = n
  · subst e; rw [up_e, fil_in (by omega), hx]
  · rw [up_n e]
    by_cases q : k < n
    · rw [fil_in q, fil_in (by omega)]
    · rw [fil_out (by omega), fil_out (by omega)]
section HI
variable {V : Mem}
/-! the reference -/
theorem mm_starts : f_X10_starts V = some (va_up (stv V 253 4 (nI 0)) 255 (fil (V 254) (V 255) 361)) := by
  unfold f_X10_starts
  rw [lt_d]
  refine Eq.trans (congrArg (fun W => f_X10_starts_L7 FU W 0) (show stv V 253 4 0 = va_up (stv V 253 4 (nI 0)) 255 (fil (V 254) (V 255) 0) by rw [fil_0, vu_id' (st_n (V := V) (c := 253) (d := 255) (by omega)).symm]; rfl)) ?_
  refine lp_run 361 (fun n k => f_X10_starts_L7 n (va_up (stv V 253 4 (nI 0)) 255 (fil (V 254) (V 255) k)) (nI k)) _ ?_ ?_ (n := FU) (k := 0) (by omega) (by decide)
  · intro n
    rw [f_X10_starts_L7.eq_2]
    simp (disch := omega) only [bd_s, bv_s, lt_d, jn_d, om_s, om_n, zl0, zl1, zl2, zl3, zl4, zl5, zl6, zl7, zl8, zl9, zl10, zl11, zl12, zl13, zl16, zl23, zl24, zl26, zl31, zl32, zl35, zl36, zl40, zl42, zl45, zl48, zl57, zl58, zl59, zl60, zl61, zl62, zl63, zl64, zl65, zl78, zl90, zl94, zl97, zl98, zl114, zl122, zl126, zl244, zl290, zl291, zl326, zl335, zl361, zl2527, zl2888, neg1, le_T, le_F, lt_T, lt_F, eq_T, eq_F, m1_ne, m1_ne', m1_lt, m1_le, lt_m1, le_m1, cl_n, ib_T, nI_add, pk_mul, sub_n, add_m1, sub_m1, m1_1, m1_1', pw_d, st_e, st_n, vu_e, vu_n, up_e, up_n, if_true, if_false, true_or, or_true, false_or, or_false, eq_self, reduceCtorEq, not_true_eq_false, not_false_eq_true]
  · intro n k hk
    rw [f_X10_starts_L7.eq_2]
    simp (disch := omega) only [bd_s, bv_s, lt_d, jn_d, om_s, om_n, zl0, zl1, zl2, zl3, zl4, zl5, zl6, zl7, zl8, zl9, zl10, zl11, zl12, zl13, zl16, zl23, zl24, zl26, zl31, zl32, zl35, zl36, zl40, zl42, zl45, zl48, zl57, zl58, zl59, zl60, zl61, zl62, zl63, zl64, zl65, zl78, zl90, zl94, zl97, zl98, zl114, zl122, zl126, zl244, zl290, zl291, zl326, zl335, zl361, zl2527, zl2888, neg1, le_T, le_F, lt_T, lt_F, eq_T, eq_F, m1_ne, m1_ne', m1_lt, m1_le, lt_m1, le_m1, cl_n, ib_T, nI_add, pk_mul, sub_n, add_m1, sub_m1, m1_1, m1_1', pw_d, st_e, st_n, vu_e, vu_n, up_e, up_n, if_true, if_false, true_or, or_true, false_or, or_false, eq_self, reduceCtorEq, not_true_eq_false, not_false_eq_true, st_v2]
    rw [fil_s rfl]
theorem mm_chg_no {c : Nat} {a : Int32} (h : V 253 4 = nI c) (h0 : 0 < c) (h9 : c < 9) : f_X10_changed V a = some (a, V) := by
  unfold f_X10_changed
  simp (disch := omega) only [bd_s, bv_s, lt_d, jn_d, om_s, om_n, zl0, zl1, zl2, zl3, zl4, zl5, zl6, zl7, zl8, zl9, zl10, zl11, zl12, zl13, zl16, zl23, zl24, zl26, zl31, zl32, zl35, zl36, zl40, zl42, zl45, zl48, zl57, zl58, zl59, zl60, zl61, zl62, zl63, zl64, zl65, zl78, zl90, zl94, zl97, zl98, zl114, zl122, zl126, zl244, zl290, zl291, zl326, zl335, zl361, zl2527, zl2888, neg1, le_T, le_F, lt_T, lt_F, eq_T, eq_F, m1_ne, m1_ne', m1_lt, m1_le, lt_m1, le_m1, cl_n, ib_T, nI_add, pk_mul, sub_n, add_m1, sub_m1, m1_1, m1_1', pw_d, st_e, st_n, vu_e, vu_n, up_e, up_n, if_true, if_false, true_or, or_true, false_or, or_false, eq_self, reduceCtorEq, not_true_eq_false, not_false_eq_true, h]
/-- the past behind one more change -/
def pshd (P A : Arr) (c : Nat) : Arr := if c = 8 then fb_put (fil (fun j => P (j + 361)) P 2527) A 2527 361 else fb_put P A (361 * c) 361
theorem chg_lp {c : Nat} {a : Int32} {j : Mem → Option (Int32 × Mem)} (hc : V 253 1 = nI c) (c8 : c < 8) : f_X10_changed_L61 a j FU V (nI 0) = j (va_up V 257 (fb_put (V 257) (V 255) (361 * c) 361)) := by
  refine Eq.trans (congrArg (fun W => f_X10_changed_L61 a j FU W (nI 0)) (show V = va_up V 257 (fb_put (V 257) (V 255) (361 * c) 0) by rw [fb_put_0, vu_id])) ?_
  refine lp_run 361 (fun n k => f_X10_changed_L61 a j n (va_up V 257 (fb_put (V 257) (V 255) (361 * c) k)) (nI k)) _ ?_ ?_ (n := FU) (k := 0) (by omega) (by decide)
  · intro n
    rw [f_X10_changed_L61.eq_2]
    simp (disch := omega) only [bd_s, bv_s, lt_d, jn_d, om_s, om_n, zl0, zl1, zl2, zl3, zl4, zl5, zl6, zl7, zl8, zl9, zl10, zl11, zl12, zl13, zl16, zl23, zl24, zl26, zl31, zl32, zl35, zl36, zl40, zl42, zl45, zl48, zl57, zl58, zl59, zl60, zl61, zl62, zl63, zl64, zl65, zl78, zl90, zl94, zl97, zl98, zl114, zl122, zl126, zl244, zl290, zl291, zl326, zl335, zl361, zl2527, zl2888, neg1, le_T, le_F, lt_T, lt_F, eq_T, eq_F, m1_ne, m1_ne', m1_lt, m1_le, lt_m1, le_m1, cl_n, ib_T, nI_add, pk_mul, sub_n, add_m1, sub_m1, m1_1, m1_1', pw_d, st_e, st_n, vu_e, vu_n, up_e, up_n, if_true, if_false, true_or, or_true, false_or, or_false, eq_self, reduceCtorEq, not_true_eq_false, not_false_eq_true]
  · intro n k hk
    rw [f_X10_changed_L61.eq_2]
    simp (disch := omega) only [bd_s, bv_s, lt_d, jn_d, om_s, om_n, zl0, zl1, zl2, zl3, zl4, zl5, zl6, zl7, zl8, zl9, zl10, zl11, zl12, zl13, zl16, zl23, zl24, zl26, zl31, zl32, zl35, zl36, zl40, zl42, zl45, zl48, zl57, zl58, zl59, zl60, zl61, zl62, zl63, zl64, zl65, zl78, zl90, zl94, zl97, zl98, zl114, zl122, zl126, zl244, zl290, zl291, zl326, zl335, zl361, zl2527, zl2888, neg1, le_T, le_F, lt_T, lt_F, eq_T, eq_F, m1_ne, m1_ne', m1_lt, m1_le, lt_m1, le_m1, cl_n, ib_T, nI_add, pk_mul, sub_n, add_m1, sub_m1, m1_1, m1_1', pw_d, st_e, st_n, vu_e, vu_n, up_e, up_n, if_true, if_false, true_or, or_true, false_or, or_false, eq_self, reduceCtorEq, not_true_eq_false, not_false_eq_true, hc, st_v2]
    rw [← fb_put_succ]
theorem mm_chg {c : Nat} {a : Int32} (h : V 253 4 = nI 0) (hc : V 253 1 = nI c) (c8 : c ≤ 8) : f_X10_changed V a = some (a, stv (va_up V 257 (pshd (V 257) (V 255) c)) 253 1 (nI (min (c + 1) 8))) := by
  unfold f_X10_changed pshd
  by_cases q : c = 8
  · subst q
    have L : ∀ (j : Mem → Option (Int32 × Mem)), f_X10_changed_L20 a j FU V (nI 0) = j (va_up V 257 (fil (fun j => V 257 (j + 361)) (V 257) 2527)) := by
      intro j
      refine Eq.trans (congrArg (fun W => f_X10_changed_L20 a j FU W (nI 0)) (show V = va_up V 257 (fil (fun j => V 257 (j + 361)) (V 257) 0) by rw [fil_0, vu_id])) ?_
      refine lp_run 2527 (fun n k => f_X10_changed_L20 a j n (va_up V 257 (fil (fun j => V 257 (j + 361)) (V 257) k)) (nI k)) _ ?_ ?_ (n := FU) (k := 0) (by omega) (by decide)
      · intro n
        rw [f_X10_changed_L20.eq_2]
        simp (disch := omega) only [bd_s, bv_s, lt_d, jn_d, om_s, om_n, zl0, zl1, zl2, zl3, zl4, zl5, zl6, zl7, zl8, zl9, zl10, zl11, zl12, zl13, zl16, zl23, zl24, zl26, zl31, zl32, zl35, zl36, zl40, zl42, zl45, zl48, zl57, zl58, zl59, zl60, zl61, zl62, zl63, zl64, zl65, zl78, zl90, zl94, zl97, zl98, zl114, zl122, zl126, zl244, zl290, zl291, zl326, zl335, zl361, zl2527, zl2888, neg1, le_T, le_F, lt_T, lt_F, eq_T, eq_F, m1_ne, m1_ne', m1_lt, m1_le, lt_m1, le_m1, cl_n, ib_T, nI_add, pk_mul, sub_n, add_m1, sub_m1, m1_1, m1_1', pw_d, st_e, st_n, vu_e, vu_n, up_e, up_n, if_true, if_false, true_or, or_true, false_or, or_false, eq_self, reduceCtorEq, not_true_eq_false, not_false_eq_true]
      · intro n k hk
        rw [f_X10_changed_L20.eq_2]
        simp (disch := omega) only [bd_s, bv_s, lt_d, jn_d, om_s, om_n, zl0, zl1, zl2, zl3, zl4, zl5, zl6, zl7, zl8, zl9, zl10, zl11, zl12, zl13, zl16, zl23, zl24, zl26, zl31, zl32, zl35, zl36, zl40, zl42, zl45, zl48, zl57, zl58, zl59, zl60, zl61, zl62, zl63, zl64, zl65, zl78, zl90, zl94, zl97, zl98, zl114, zl122, zl126, zl244, zl290, zl291, zl326, zl335, zl361, zl2527, zl2888, neg1, le_T, le_F, lt_T, lt_F, eq_T, eq_F, m1_ne, m1_ne', m1_lt, m1_le, lt_m1, le_m1, cl_n, ib_T, nI_add, pk_mul, sub_n, add_m1, sub_m1, m1_1, m1_1', pw_d, st_e, st_n, vu_e, vu_n, up_e, up_n, if_true, if_false, true_or, or_true, false_or, or_false, eq_self, reduceCtorEq, not_true_eq_false, not_false_eq_true, st_v2, fil_out]
        rw [fil_s rfl]
    have L2 := fun j => chg_lp (V := stv (va_up V 257 (fil (fun j => V 257 (j + 361)) (V 257) 2527)) 253 1 (nI 7)) (a := a) (c := 7) (j := j) (by rw [st_e, up_e]) (by omega)
    simp (disch := omega) only [bd_s, bv_s, lt_d, jn_d, om_s, om_n, zl0, zl1, zl2, zl3, zl4, zl5, zl6, zl7, zl8, zl9, zl10, zl11, zl12, zl13, zl16, zl23, zl24, zl26, zl31, zl32, zl35, zl36, zl40, zl42, zl45, zl48, zl57, zl58, zl59, zl60, zl61, zl62, zl63, zl64, zl65, zl78, zl90, zl94, zl97, zl98, zl114, zl122, zl126, zl244, zl290, zl291, zl326, zl335, zl361, zl2527, zl2888, neg1, le_T, le_F, lt_T, lt_F, eq_T, eq_F, m1_ne, m1_ne', m1_lt, m1_le, lt_m1, le_m1, cl_n, ib_T, nI_add, pk_mul, sub_n, add_m1, sub_m1, m1_1, m1_1', pw_d, st_e, st_n, vu_e, vu_n, up_e, up_n, if_true, if_false, true_or, or_true, false_or, or_false, eq_self, reduceCtorEq, not_true_eq_false, not_false_eq_true, h, hc, L, L2]
    refine congrArg (fun X => some (a, X)) ?_
    funext d
    by_cases e : d = 253
    · subst e; simp (disch := omega) only [bd_s, bv_s, lt_d, jn_d, om_s, om_n, zl0, zl1, zl2, zl3, zl4, zl5, zl6, zl7, zl8, zl9, zl10, zl11, zl12, zl13, zl16, zl23, zl24, zl26, zl31, zl32, zl35, zl36, zl40, zl42, zl45, zl48, zl57, zl58, zl59, zl60, zl61, zl62, zl63, zl64, zl65, zl78, zl90, zl94, zl97, zl98, zl114, zl122, zl126, zl244, zl290, zl291, zl326, zl335, zl361, zl2527, zl2888, neg1, le_T, le_F, lt_T, lt_F, eq_T, eq_F, m1_ne, m1_ne', m1_lt, m1_le, lt_m1, le_m1, cl_n, ib_T, nI_add, pk_mul, sub_n, add_m1, sub_m1, m1_1, m1_1', pw_d, st_e, st_n, vu_e, vu_n, up_e, up_n, if_true, if_false, true_or, or_true, false_or, or_false, eq_self, reduceCtorEq, not_true_eq_false, not_false_eq_true]; funext j; by_cases e2 : j = 1 <;> simp [upd, e2]
    · by_cases e2 : d = 257
      · subst e2; simp (disch := omega) only [bd_s, bv_s, lt_d, jn_d, om_s, om_n, zl0, zl1, zl2, zl3, zl4, zl5, zl6, zl7, zl8, zl9, zl10, zl11, zl12, zl13, zl16, zl23, zl24, zl26, zl31, zl32, zl35, zl36, zl40, zl42, zl45, zl48, zl57, zl58, zl59, zl60, zl61, zl62, zl63, zl64, zl65, zl78, zl90, zl94, zl97, zl98, zl114, zl122, zl126, zl244, zl290, zl291, zl326, zl335, zl361, zl2527, zl2888, neg1, le_T, le_F, lt_T, lt_F, eq_T, eq_F, m1_ne, m1_ne', m1_lt, m1_le, lt_m1, le_m1, cl_n, ib_T, nI_add, pk_mul, sub_n, add_m1, sub_m1, m1_1, m1_1', pw_d, st_e, st_n, vu_e, vu_n, up_e, up_n, if_true, if_false, true_or, or_true, false_or, or_false, eq_self, reduceCtorEq, not_true_eq_false, not_false_eq_true]
      · simp (disch := omega) only [bd_s, bv_s, lt_d, jn_d, om_s, om_n, zl0, zl1, zl2, zl3, zl4, zl5, zl6, zl7, zl8, zl9, zl10, zl11, zl12, zl13, zl16, zl23, zl24, zl26, zl31, zl32, zl35, zl36, zl40, zl42, zl45, zl48, zl57, zl58, zl59, zl60, zl61, zl62, zl63, zl64, zl65, zl78, zl90, zl94, zl97, zl98, zl114, zl122, zl126, zl244, zl290, zl291, zl326, zl335, zl361, zl2527, zl2888, neg1, le_T, le_F, lt_T, lt_F, eq_T, eq_F, m1_ne, m1_ne', m1_lt, m1_le, lt_m1, le_m1, cl_n, ib_T, nI_add, pk_mul, sub_n, add_m1, sub_m1, m1_1, m1_1', pw_d, st_e, st_n, vu_e, vu_n, up_e, up_n, if_true, if_false, true_or, or_true, false_or, or_false, eq_self, reduceCtorEq, not_true_eq_false, not_false_eq_true]
  · have L2 := fun j => chg_lp (V := V) (a := a) (c := c) (j := j) hc (by omega)
    rw [if_neg q, Nat.min_eq_left (by omega)]
    simp (disch := omega) only [bd_s, bv_s, lt_d, jn_d, om_s, om_n, zl0, zl1, zl2, zl3, zl4, zl5, zl6, zl7, zl8, zl9, zl10, zl11, zl12, zl13, zl16, zl23, zl24, zl26, zl31, zl32, zl35, zl36, zl40, zl42, zl45, zl48, zl57, zl58, zl59, zl60, zl61, zl62, zl63, zl64, zl65, zl78, zl90, zl94, zl97, zl98, zl114, zl122, zl126, zl244, zl290, zl291, zl326, zl335, zl361, zl2527, zl2888, neg1, le_T, le_F, lt_T, lt_F, eq_T, eq_F, m1_ne, m1_ne', m1_lt, m1_le, lt_m1, le_m1, cl_n, ib_T, nI_add, pk_mul, sub_n, add_m1, sub_m1, m1_1, m1_1', pw_d, st_e, st_n, vu_e, vu_n, up_e, up_n, if_true, if_false, true_or, or_true, false_or, or_false, eq_self, reduceCtorEq, not_true_eq_false, not_false_eq_true, h, hc, L2]
/-! the class: rows and stores copied -/
theorem cpr_cpy {f g : Arr} {N : Nat} : va_cpy f g 0 0 N = fil f g N := by
  funext k
  unfold va_cpy fil
  by_cases q : k < N
  · rw [if_pos ⟨Nat.zero_le _, by omega⟩, if_pos q]; congr 1; omega
  · rw [if_neg (by omega), if_neg q]
theorem rx_cp {i i2 N : Nat} (hN : N < 2 ^ 31) : f_X7_copyFrom V i N i2 N = some (va_up V (i + 1) (fil (V (i2 + 1)) (V (i + 1)) N)) := by
  unfold f_X7_copyFrom
  have e : (if nI N < nI N then nI N else nI N) = nI N := by split <;> rfl
  have c1 : cpOk 0 0 (nI N) N N = true := by
    have h1 : (0 : Int32) ≤ nI N := nI_pos' (by omega)
    have h2 : (0 : Int32).toNatClampNeg = 0 := by decide
    simp [cpOk, h1, h2, nI_clamp hN]
  rw [e, c1, if_pos rfl, lt_d, nI_clamp hN, show (0 : Int32).toNatClampNeg = 0 by decide, cpr_cpy]
theorem cx_copy {k k2 : Nat} {g : Arr} (hne : k ≠ k2) (ok : OKg g) (R : RelS (fun j => V (20 * k2 + j)) g) : ∃ V', f_X8_copyFrom V k k2 = some V' ∧ RelS (fun j => V' (20 * k + j)) g ∧ ∀ c, (c < 20 * k ∨ 20 * k + 20 ≤ c) → V' c = V c := by
  have e : f_X8_copyFrom V k k2 = some (stv (va_up (va_up (va_up (stv (stv (va_up (va_up (va_up (va_up (va_up (va_up V (20 * k + 2 + 1) (fil (V (20 * k2 + 2 + 1)) (V (20 * k + 2 + 1)) 24)) (20 * k + 4 + 1) (fil (V (20 * k2 + 4 + 1)) (V (20 * k + 4 + 1)) 24)) (20 * k + 6 + 1) (fil (V (20 * k2 + 6 + 1)) (V (20 * k + 6 + 1)) 24)) (20 * k + 8 + 1) (fil (V (20 * k2 + 8 + 1)) (V (20 * k + 8 + 1)) 24)) (20 * k + 10 + 1) (fil (V (20 * k2 + 10 + 1)) (V (20 * k + 10 + 1)) 24)) (20 * k + 12 + 1) (fil (V (20 * k2 + 12 + 1)) (V (20 * k + 12 + 1)) 192)) (20 * k + 1) 0 (V (20 * k2 + 1) 0)) (20 * k + 1) 1 (V (20 * k2 + 1) 1)) (20 * k + 14 + 1) (fil (V (20 * k2 + 14 + 1)) (V (20 * k + 14 + 1)) 5)) (20 * k + 16 + 1) (fil (V (20 * k2 + 16 + 1)) (V (20 * k + 16 + 1)) 40)) (20 * k + 18 + 1) (fil (V (20 * k2 + 18 + 1)) (V (20 * k + 18 + 1)) 26)) (20 * k) 0 (V (20 * k2) 0)) := by
    unfold f_X8_copyFrom f_X6_copyFrom
    simp (disch := omega) only [bd_s, bv_s, lt_d, jn_d, om_s, om_n, zl0, zl1, zl2, zl3, zl4, zl5, zl6, zl7, zl8, zl9, zl10, zl11, zl12, zl13, zl16, zl23, zl24, zl26, zl31, zl32, zl35, zl36, zl40, zl42, zl45, zl48, zl57, zl58, zl59, zl60, zl61, zl62, zl63, zl64, zl65, zl78, zl90, zl94, zl97, zl98, zl114, zl122, zl126, zl244, zl290, zl291, zl326, zl335, zl361, zl2527, zl2888, neg1, le_T, le_F, lt_T, lt_F, eq_T, eq_F, m1_ne, m1_ne', m1_lt, m1_le, lt_m1, le_m1, cl_n, ib_T, nI_add, pk_mul, sub_n, add_m1, sub_m1, m1_1, m1_1', pw_d, st_e, st_n, vu_e, vu_n, up_e, up_n, if_true, if_false, true_or, or_true, false_or, or_false, eq_self, reduceCtorEq, not_true_eq_false, not_false_eq_true, rx_cp (V := V) (N := 24) (by omega)]
    simp (disch := omega) only [bd_s, bv_s, lt_d, jn_d, om_s, om_n, zl0, zl1, zl2, zl3, zl4, zl5, zl6, zl7, zl8, zl9, zl10, zl11, zl12, zl13, zl16, zl23, zl24, zl26, zl31, zl32, zl35, zl36, zl40, zl42, zl45, zl48, zl57, zl58, zl59, zl60, zl61, zl62, zl63, zl64, zl65, zl78, zl90, zl94, zl97, zl98, zl114, zl122, zl126, zl244, zl290, zl291, zl326, zl335, zl361, zl2527, zl2888, neg1, le_T, le_F, lt_T, lt_F, eq_T, eq_F, m1_ne, m1_ne', m1_lt, m1_le, lt_m1, le_m1, cl_n, ib_T, nI_add, pk_mul, sub_n, add_m1, sub_m1, m1_1, m1_1', pw_d, st_e, st_n, vu_e, vu_n, up_e, up_n, if_true, if_false, true_or, or_true, false_or, or_false, eq_self, reduceCtorEq, not_true_eq_false, not_false_eq_true, rx_cp]
  refine ⟨_, e, Rel_cell ok R ?_ (fun j hj => ?_) (fun r hr => ⟨?_, ?_, ?_, ?_, ?_⟩) (fun j hj => ?_) (fun j hj => ?_) (fun j hj => ?_) (fun j hj => ?_), fun c hc => ?_⟩
  · show stv _ (20 * k) 0 _ (20 * k) 0 = V (20 * k2) 0
    simp (disch := omega) only [bd_s, bv_s, lt_d, jn_d, om_s, om_n, zl0, zl1, zl2, zl3, zl4, zl5, zl6, zl7, zl8, zl9, zl10, zl11, zl12, zl13, zl16, zl23, zl24, zl26, zl31, zl32, zl35, zl36, zl40, zl42, zl45, zl48, zl57, zl58, zl59, zl60, zl61, zl62, zl63, zl64, zl65, zl78, zl90, zl94, zl97, zl98, zl114, zl122, zl126, zl244, zl290, zl291, zl326, zl335, zl361, zl2527, zl2888, neg1, le_T, le_F, lt_T, lt_F, eq_T, eq_F, m1_ne, m1_ne', m1_lt, m1_le, lt_m1, le_m1, cl_n, ib_T, nI_add, pk_mul, sub_n, add_m1, sub_m1, m1_1, m1_1', pw_d, st_e, st_n, vu_e, vu_n, up_e, up_n, if_true, if_false, true_or, or_true, false_or, or_false, eq_self, reduceCtorEq, not_true_eq_false, not_false_eq_true]
  · show stv _ (20 * k) 0 _ (20 * k + 1) j = V (20 * k2 + 1) j
    rcases (show j = 0 ∨ j = 1 by omega) with q | q
    · subst q; simp (disch := omega) only [bd_s, bv_s, lt_d, jn_d, om_s, om_n, zl0, zl1, zl2, zl3, zl4, zl5, zl6, zl7, zl8, zl9, zl10, zl11, zl12, zl13, zl16, zl23, zl24, zl26, zl31, zl32, zl35, zl36, zl40, zl42, zl45, zl48, zl57, zl58, zl59, zl60, zl61, zl62, zl63, zl64, zl65, zl78, zl90, zl94, zl97, zl98, zl114, zl122, zl126, zl244, zl290, zl291, zl326, zl335, zl361, zl2527, zl2888, neg1, le_T, le_F, lt_T, lt_F, eq_T, eq_F, m1_ne, m1_ne', m1_lt, m1_le, lt_m1, le_m1, cl_n, ib_T, nI_add, pk_mul, sub_n, add_m1, sub_m1, m1_1, m1_1', pw_d, st_e, st_n, vu_e, vu_n, up_e, up_n, if_true, if_false, true_or, or_true, false_or, or_false, eq_self, reduceCtorEq, not_true_eq_false, not_false_eq_true]
    · subst q; simp (disch := omega) only [bd_s, bv_s, lt_d, jn_d, om_s, om_n, zl0, zl1, zl2, zl3, zl4, zl5, zl6, zl7, zl8, zl9, zl10, zl11, zl12, zl13, zl16, zl23, zl24, zl26, zl31, zl32, zl35, zl36, zl40, zl42, zl45, zl48, zl57, zl58, zl59, zl60, zl61, zl62, zl63, zl64, zl65, zl78, zl90, zl94, zl97, zl98, zl114, zl122, zl126, zl244, zl290, zl291, zl326, zl335, zl361, zl2527, zl2888, neg1, le_T, le_F, lt_T, lt_F, eq_T, eq_F, m1_ne, m1_ne', m1_lt, m1_le, lt_m1, le_m1, cl_n, ib_T, nI_add, pk_mul, sub_n, add_m1, sub_m1, m1_1, m1_1', pw_d, st_e, st_n, vu_e, vu_n, up_e, up_n, if_true, if_false, true_or, or_true, false_or, or_false, eq_self, reduceCtorEq, not_true_eq_false, not_false_eq_true]
  · show stv _ (20 * k) 0 _ (20 * k + 3) r = V (20 * k2 + 3) r
    simp (disch := omega) only [bd_s, bv_s, lt_d, jn_d, om_s, om_n, zl0, zl1, zl2, zl3, zl4, zl5, zl6, zl7, zl8, zl9, zl10, zl11, zl12, zl13, zl16, zl23, zl24, zl26, zl31, zl32, zl35, zl36, zl40, zl42, zl45, zl48, zl57, zl58, zl59, zl60, zl61, zl62, zl63, zl64, zl65, zl78, zl90, zl94, zl97, zl98, zl114, zl122, zl126, zl244, zl290, zl291, zl326, zl335, zl361, zl2527, zl2888, neg1, le_T, le_F, lt_T, lt_F, eq_T, eq_F, m1_ne, m1_ne', m1_lt, m1_le, lt_m1, le_m1, cl_n, ib_T, nI_add, pk_mul, sub_n, add_m1, sub_m1, m1_1, m1_1', pw_d, st_e, st_n, vu_e, vu_n, up_e, up_n, if_true, if_false, true_or, or_true, false_or, or_false, eq_self, reduceCtorEq, not_true_eq_false, not_false_eq_true, fil_in]
  · show stv _ (20 * k) 0 _ (20 * k + 5) r = V (20 * k2 + 5) r
    simp (disch := omega) only [bd_s, bv_s, lt_d, jn_d, om_s, om_n, zl0, zl1, zl2, zl3, zl4, zl5, zl6, zl7, zl8, zl9, zl10, zl11, zl12, zl13, zl16, zl23, zl24, zl26, zl31, zl32, zl35, zl36, zl40, zl42, zl45, zl48, zl57, zl58, zl59, zl60, zl61, zl62, zl63, zl64, zl65, zl78, zl90, zl94, zl97, zl98, zl114, zl122, zl126, zl244, zl290, zl291, zl326, zl335, zl361, zl2527, zl2888, neg1, le_T, le_F, lt_T, lt_F, eq_T, eq_F, m1_ne, m1_ne', m1_lt, m1_le, lt_m1, le_m1, cl_n, ib_T, nI_add, pk_mul, sub_n, add_m1, sub_m1, m1_1, m1_1', pw_d, st_e, st_n, vu_e, vu_n, up_e, up_n, if_true, if_false, true_or, or_true, false_or, or_false, eq_self, reduceCtorEq, not_true_eq_false, not_false_eq_true, fil_in]
  · show stv _ (20 * k) 0 _ (20 * k + 7) r = V (20 * k2 + 7) r
    simp (disch := omega) only [bd_s, bv_s, lt_d, jn_d, om_s, om_n, zl0, zl1, zl2, zl3, zl4, zl5, zl6, zl7, zl8, zl9, zl10, zl11, zl12, zl13, zl16, zl23, zl24, zl26, zl31, zl32, zl35, zl36, zl40, zl42, zl45, zl48, zl57, zl58, zl59, zl60, zl61, zl62, zl63, zl64, zl65, zl78, zl90, zl94, zl97, zl98, zl114, zl122, zl126, zl244, zl290, zl291, zl326, zl335, zl361, zl2527, zl2888, neg1, le_T, le_F, lt_T, lt_F, eq_T, eq_F, m1_ne, m1_ne', m1_lt, m1_le, lt_m1, le_m1, cl_n, ib_T, nI_add, pk_mul, sub_n, add_m1, sub_m1, m1_1, m1_1', pw_d, st_e, st_n, vu_e, vu_n, up_e, up_n, if_true, if_false, true_or, or_true, false_or, or_false, eq_self, reduceCtorEq, not_true_eq_false, not_false_eq_true, fil_in]
  · show stv _ (20 * k) 0 _ (20 * k + 9) r = V (20 * k2 + 9) r
    simp (disch := omega) only [bd_s, bv_s, lt_d, jn_d, om_s, om_n, zl0, zl1, zl2, zl3, zl4, zl5, zl6, zl7, zl8, zl9, zl10, zl11, zl12, zl13, zl16, zl23, zl24, zl26, zl31, zl32, zl35, zl36, zl40, zl42, zl45, zl48, zl57, zl58, zl59, zl60, zl61, zl62, zl63, zl64, zl65, zl78, zl90, zl94, zl97, zl98, zl114, zl122, zl126, zl244, zl290, zl291, zl326, zl335, zl361, zl2527, zl2888, neg1, le_T, le_F, lt_T, lt_F, eq_T, eq_F, m1_ne, m1_ne', m1_lt, m1_le, lt_m1, le_m1, cl_n, ib_T, nI_add, pk_mul, sub_n, add_m1, sub_m1, m1_1, m1_1', pw_d, st_e, st_n, vu_e, vu_n, up_e, up_n, if_true, if_false, true_or, or_true, false_or, or_false, eq_self, reduceCtorEq, not_true_eq_false, not_false_eq_true, fil_in]
  · show stv _ (20 * k) 0 _ (20 * k + 11) r = V (20 * k2 + 11) r
    simp (disch := omega) only [bd_s, bv_s, lt_d, jn_d, om_s, om_n, zl0, zl1, zl2, zl3, zl4, zl5, zl6, zl7, zl8, zl9, zl10, zl11, zl12, zl13, zl16, zl23, zl24, zl26, zl31, zl32, zl35, zl36, zl40, zl42, zl45, zl48, zl57, zl58, zl59, zl60, zl61, zl62, zl63, zl64, zl65, zl78, zl90, zl94, zl97, zl98, zl114, zl122, zl126, zl244, zl290, zl291, zl326, zl335, zl361, zl2527, zl2888, neg1, le_T, le_F, lt_T, lt_F, eq_T, eq_F, m1_ne, m1_ne', m1_lt, m1_le, lt_m1, le_m1, cl_n, ib_T, nI_add, pk_mul, sub_n, add_m1, sub_m1, m1_1, m1_1', pw_d, st_e, st_n, vu_e, vu_n, up_e, up_n, if_true, if_false, true_or, or_true, false_or, or_false, eq_self, reduceCtorEq, not_true_eq_false, not_false_eq_true, fil_in]
  · show stv _ (20 * k) 0 _ (20 * k + 13) j = V (20 * k2 + 13) j
    simp (disch := omega) only [bd_s, bv_s, lt_d, jn_d, om_s, om_n, zl0, zl1, zl2, zl3, zl4, zl5, zl6, zl7, zl8, zl9, zl10, zl11, zl12, zl13, zl16, zl23, zl24, zl26, zl31, zl32, zl35, zl36, zl40, zl42, zl45, zl48, zl57, zl58, zl59, zl60, zl61, zl62, zl63, zl64, zl65, zl78, zl90, zl94, zl97, zl98, zl114, zl122, zl126, zl244, zl290, zl291, zl326, zl335, zl361, zl2527, zl2888, neg1, le_T, le_F, lt_T, lt_F, eq_T, eq_F, m1_ne, m1_ne', m1_lt, m1_le, lt_m1, le_m1, cl_n, ib_T, nI_add, pk_mul, sub_n, add_m1, sub_m1, m1_1, m1_1', pw_d, st_e, st_n, vu_e, vu_n, up_e, up_n, if_true, if_false, true_or, or_true, false_or, or_false, eq_self, reduceCtorEq, not_true_eq_false, not_false_eq_true, fil_in]
  · show stv _ (20 * k) 0 _ (20 * k + 15) j = V (20 * k2 + 15) j
    simp (disch := omega) only [bd_s, bv_s, lt_d, jn_d, om_s, om_n, zl0, zl1, zl2, zl3, zl4, zl5, zl6, zl7, zl8, zl9, zl10, zl11, zl12, zl13, zl16, zl23, zl24, zl26, zl31, zl32, zl35, zl36, zl40, zl42, zl45, zl48, zl57, zl58, zl59, zl60, zl61, zl62, zl63, zl64, zl65, zl78, zl90, zl94, zl97, zl98, zl114, zl122, zl126, zl244, zl290, zl291, zl326, zl335, zl361, zl2527, zl2888, neg1, le_T, le_F, lt_T, lt_F, eq_T, eq_F, m1_ne, m1_ne', m1_lt, m1_le, lt_m1, le_m1, cl_n, ib_T, nI_add, pk_mul, sub_n, add_m1, sub_m1, m1_1, m1_1', pw_d, st_e, st_n, vu_e, vu_n, up_e, up_n, if_true, if_false, true_or, or_true, false_or, or_false, eq_self, reduceCtorEq, not_true_eq_false, not_false_eq_true, fil_in]
  · show stv _ (20 * k) 0 _ (20 * k + 17) j = V (20 * k2 + 17) j
    simp (disch := omega) only [bd_s, bv_s, lt_d, jn_d, om_s, om_n, zl0, zl1, zl2, zl3, zl4, zl5, zl6, zl7, zl8, zl9, zl10, zl11, zl12, zl13, zl16, zl23, zl24, zl26, zl31, zl32, zl35, zl36, zl40, zl42, zl45, zl48, zl57, zl58, zl59, zl60, zl61, zl62, zl63, zl64, zl65, zl78, zl90, zl94, zl97, zl98, zl114, zl122, zl126, zl244, zl290, zl291, zl326, zl335, zl361, zl2527, zl2888, neg1, le_T, le_F, lt_T, lt_F, eq_T, eq_F, m1_ne, m1_ne', m1_lt, m1_le, lt_m1, le_m1, cl_n, ib_T, nI_add, pk_mul, sub_n, add_m1, sub_m1, m1_1, m1_1', pw_d, st_e, st_n, vu_e, vu_n, up_e, up_n, if_true, if_false, true_or, or_true, false_or, or_false, eq_self, reduceCtorEq, not_true_eq_false, not_false_eq_true, fil_in]
  · show stv _ (20 * k) 0 _ (20 * k + 19) j = V (20 * k2 + 19) j
    simp (disch := omega) only [bd_s, bv_s, lt_d, jn_d, om_s, om_n, zl0, zl1, zl2, zl3, zl4, zl5, zl6, zl7, zl8, zl9, zl10, zl11, zl12, zl13, zl16, zl23, zl24, zl26, zl31, zl32, zl35, zl36, zl40, zl42, zl45, zl48, zl57, zl58, zl59, zl60, zl61, zl62, zl63, zl64, zl65, zl78, zl90, zl94, zl97, zl98, zl114, zl122, zl126, zl244, zl290, zl291, zl326, zl335, zl361, zl2527, zl2888, neg1, le_T, le_F, lt_T, lt_F, eq_T, eq_F, m1_ne, m1_ne', m1_lt, m1_le, lt_m1, le_m1, cl_n, ib_T, nI_add, pk_mul, sub_n, add_m1, sub_m1, m1_1, m1_1', pw_d, st_e, st_n, vu_e, vu_n, up_e, up_n, if_true, if_false, true_or, or_true, false_or, or_false, eq_self, reduceCtorEq, not_true_eq_false, not_false_eq_true, fil_in]
  · simp (disch := omega) only [bd_s, bv_s, lt_d, jn_d, om_s, om_n, zl0, zl1, zl2, zl3, zl4, zl5, zl6, zl7, zl8, zl9, zl10, zl11, zl12, zl13, zl16, zl23, zl24, zl26, zl31, zl32, zl35, zl36, zl40, zl42, zl45, zl48, zl57, zl58, zl59, zl60, zl61, zl62, zl63, zl64, zl65, zl78, zl90, zl94, zl97, zl98, zl114, zl122, zl126, zl244, zl290, zl291, zl326, zl335, zl361, zl2527, zl2888, neg1, le_T, le_F, lt_T, lt_F, eq_T, eq_F, m1_ne, m1_ne', m1_lt, m1_le, lt_m1, le_m1, cl_n, ib_T, nI_add, pk_mul, sub_n, add_m1, sub_m1, m1_1, m1_1', pw_d, st_e, st_n, vu_e, vu_n, up_e, up_n, if_true, if_false, true_or, or_true, false_or, or_false, eq_self, reduceCtorEq, not_true_eq_false, not_false_eq_true]
theorem Rel_0 {V : Mem} {g : Arr} : RelS (fun j => V (20 * 0 + j)) g ↔ RelS V g := by
  have e : (fun j => V (20 * 0 + j)) = V := by funext j; rw [Nat.mul_zero, Nat.zero_add]
  rw [e]
end HI
/-! the past -/
def HX (c s : Nat) (S : Nat → Nat → Arr) (P : Arr) : Prop := c ≤ 8 ∧ s ≤ 8 ∧ ∀ i, i < c → OKg (fun j => P (361 * (c - 1 - i) + j)) ∧ RelS (S ((s + 8 - i) % 9)) (fun j => P (361 * (c - 1 - i) + j))
theorem HX_push {c s : Nat} {S S' : Nat → Nat → Arr} {P A g0 : Arr} (h : HX c s S P) (ok0 : OKg g0) (hA : ∀ j, j < 361 → A j = g0 j) (hS : ∀ k, k < 9 → k ≠ s → S' k = S k) (hs : RelS (S' s) g0) : HX (min (c + 1) 8) ((s + 1) % 9) S' (pshd P A c) := by
  obtain ⟨h1, h2, h3⟩ := h
  refine ⟨by omega, by omega, fun i hi => ?_⟩
  have hA' : ∀ {Q : Arr}, (∀ j, j < 361 → Q j = A j) → OKg Q ∧ RelS (S' s) Q := fun {Q} hQ => by
    have ag : Agr g0 Q := Agr.all (ok_c24 ok0) (fun j hj => (hQ j hj).trans (hA j hj))
    exact ⟨(OK_agr ok0 ag).1, Rel_agr ok0 ag hs⟩
  by_cases q : i = 0
  · subst q
    have ei : ((s + 1) % 9 + 8 - 0) % 9 = s := by omega
    rw [ei]
    refine hA' (fun j hj => ?_)
    show pshd P A c (361 * (min (c + 1) 8 - 1 - 0) + j) = A j
    unfold pshd
    by_cases q8 : c = 8
    · subst q8
      rw [if_pos rfl, show 361 * (min (8 + 1) 8 - 1 - 0) = 2527 from rfl, fb_put_in (by omega) (by omega), Nat.add_sub_cancel_left]
    · rw [if_neg q8, show min (c + 1) 8 - 1 - 0 = c by omega, fb_put_in (by omega) (by omega), Nat.add_sub_cancel_left]
  · have ei : ((s + 1) % 9 + 8 - i) % 9 = (s + 8 - (i - 1)) % 9 := by omega
    have ne : (s + 8 - (i - 1)) % 9 ≠ s := by omega
    obtain ⟨a1, a2⟩ := h3 (i - 1) (by omega)
    rw [ei, hS _ (by omega) ne]
    have ag : Agr (fun j => P (361 * (c - 1 - (i - 1)) + j)) (fun j => pshd P A c (361 * (min (c + 1) 8 - 1 - i) + j)) := by
      refine Agr.all (ok_c24 a1) (fun j hj => ?_)
      show pshd P A c (361 * (min (c + 1) 8 - 1 - i) + j) = P (361 * (c - 1 - (i - 1)) + j)
      unfold pshd
      by_cases q8 : c = 8
      · subst q8
        rw [if_pos rfl, fb_put_out (by omega), fil_in (by omega)]
        have ej : 361 * (min (8 + 1) 8 - 1 - i) + j + 361 = 361 * (8 - 1 - (i - 1)) + j := by omega
        show P (361 * (min (8 + 1) 8 - 1 - i) + j + 361) = _
        rw [ej]
      · rw [if_neg q8, fb_put_out (by omega)]
        congr 1; omega
    exact ⟨(OK_agr a1 ag).1, Rel_agr a1 ag a2⟩
theorem HX_undo {c s : Nat} {S : Nat → Nat → Arr} {P : Arr} (h : HX c s S P) (h0 : 0 < c) : HX (c - 1) ((s + 8) % 9) S P ∧ OKg (fun j => P (361 * (c - 1) + j)) ∧ RelS (S ((s + 8) % 9)) (fun j => P (361 * (c - 1) + j)) := by
  obtain ⟨h1, h2, h3⟩ := h
  refine ⟨⟨by omega, by omega, fun i hi => ?_⟩, ?_⟩
  · have := h3 (i + 1) (by omega)
    rwa [show c - 1 - (i + 1) = c - 1 - 1 - i by omega, show (s + 8 - (i + 1)) % 9 = ((s + 8) % 9 + 8 - i) % 9 by omega] at this
  · have := h3 0 (by omega)
    rwa [show c - 1 - 0 = c - 1 by omega, show (s + 8 - 0) % 9 = (s + 8) % 9 by omega] at this
theorem HX_cell {c s : Nat} {S S' : Nat → Nat → Arr} {P : Arr} (h : HX c s S P) (hS : ∀ k, k < 9 → k ≠ s → S' k = S k) : HX c s S' P := by
  obtain ⟨h1, h2, h3⟩ := h
  refine ⟨h1, h2, fun i hi => ?_⟩
  rw [hS _ (by omega) (by omega)]
  exact h3 i hi
