/-! PURE, 29: what the reference's changes do: commits, merges, picks, tags, archive -/
def mkg (g : Arr) (p : Nat) (x a : Int32) : Arr := upd (upd (upd (upd (upd g (2 + 12 * cnt g) (nI p)) (2 + 12 * cnt g + 1) x) (2 + 12 * cnt g + 2) a) (2 + 12 * cnt g + 3) (nI 0)) 0 (nI (cnt g + 1))
theorem mkg_o {g : Arr} {p j : Nat} {x a : Int32} (h0 : j ≠ 0) (h : j < 2 + 12 * cnt g ∨ 2 + 12 * cnt g + 4 ≤ j) : mkg g p x a j = g j := by
  unfold mkg; rw [up_n h0, up_n (by omega), up_n (by omega), up_n (by omega), up_n (by omega)]
section MM
variable {V : Mem}
theorem mm_mk {c p : Nat} {x a : Int32} (hc : V 254 0 = nI c) (h : c < 24) : f_X10_makes V (nI p) x a = some (nI c, va_up V 254 (mkg (V 254) p x a)) := by
  have e : cnt (V 254) = c := by unfold cnt; rw [hc, nI_clamp (by omega)]
  unfold f_X10_makes mkg
  rw [e]
  simp (disch := omega) only [bd_s, bv_s, lt_d, jn_d, om_s, om_n, zl0, zl1, zl2, zl3, zl4, zl5, zl6, zl7, zl8, zl9, zl10, zl11, zl12, zl13, zl16, zl23, zl24, zl26, zl31, zl32, zl35, zl36, zl40, zl42, zl45, zl48, zl57, zl58, zl59, zl60, zl61, zl62, zl63, zl64, zl65, zl78, zl90, zl94, zl97, zl98, zl114, zl122, zl126, zl244, zl290, zl291, zl326, zl335, zl361, zl2527, zl2888, neg1, le_T, le_F, lt_T, lt_F, eq_T, eq_F, m1_ne, m1_ne', m1_lt, m1_le, lt_m1, le_m1, cl_n, ib_T, nI_add, pk_mul, sub_n, add_m1, sub_m1, m1_1, m1_1', pw_d, st_e, st_n, vu_e, vu_n, up_e, up_n, if_true, if_false, true_or, or_true, false_or, or_false, eq_self, reduceCtorEq, not_true_eq_false, not_false_eq_true, sm_revAt, hc, Nat.add_sub_cancel, st_s2, st_v2]
  simp only [st_vu (V := V) (c := 254), vu_vu]
/-- commit's array is that of a new revision -/
theorem cm_nr {g : Arr} (ok : OKg g) {b : Nat} (hb : b < bcn g) (hc : cnt g < 24) (a : Int32) : upd (fb_put (mkg g (hd g b) m1 a) (fun f => g (290 + 9 * b + 1 + f)) (2 + 12 * cnt g + 4) 8) (290 + 9 * b) (nI (cnt g)) = nrg g b (hd g b) m1 a (fun f => g (290 + 9 * b + 1 + f)) := by
  have h5 := ok_b5 ok
  funext j
  by_cases e0 : j = 290 + 9 * b
  · subst e0; rw [up_e, nrg_o (by omega) (by omega), bwg_h]
  · rw [up_n e0]
    by_cases e1 : 2 + 12 * cnt g + 4 ≤ j ∧ j < 2 + 12 * cnt g + 4 + 8
    · rw [fb_put_in e1.1 e1.2]
      obtain ⟨f, rfl⟩ : ∃ f, j = 2 + 12 * cnt g + 4 + f := ⟨j - (2 + 12 * cnt g + 4), by omega⟩
      rw [nrg_l (by omega)]
      show g _ = g _
      congr 1; omega
    · rw [fb_put_out (by omega)]
      by_cases f0 : j = 0
      · subst f0; rw [nrg_0]; unfold mkg; rw [up_e]
      · by_cases f1 : j = 2 + 12 * cnt g
        · subst f1; rw [nrg_p]; unfold mkg; rw [up_n (by omega), up_n (by omega), up_n (by omega), up_n (by omega), up_e]
        · by_cases f2 : j = 2 + 12 * cnt g + 1
          · subst f2; rw [nrg_x]; unfold mkg; rw [up_n (by omega), up_n (by omega), up_n (by omega), up_e]
          · by_cases f3 : j = 2 + 12 * cnt g + 2
            · subst f3; rw [nrg_a]; unfold mkg; rw [up_n (by omega), up_n (by omega), up_e]
            · by_cases f4 : j = 2 + 12 * cnt g + 3
              · subst f4; rw [nrg_z]; unfold mkg; rw [up_n (by omega), up_e]
              · rw [mkg_o f0 (by omega), nrg_o f0 (by omega)]
                by_cases f5 : 290 + 9 * b + 1 ≤ j ∧ j < 290 + 9 * b + 1 + 8
                · obtain ⟨f, rfl⟩ : ∃ f, j = 290 + 9 * b + 1 + f := ⟨j - (290 + 9 * b + 1), by omega⟩
                  rw [bwg_l (by omega)]
                · rw [bwg_o (by omega)]
theorem mm_com {b a : Nat} (ok : OKg (V 254)) (hb : b < bcn (V 254)) (ha : a < 10) (he : 0 < edn (V 254) b) (hc : cnt (V 254) < 24) : f_X10_commitIt V (nI b) (nI a) = some (nI (cnt (V 254)), va_up V 254 (nrg (V 254) b (hd (V 254) b) m1 (nI a) (fun f => V 254 (290 + 9 * b + 1 + f)))) := by
  have h5 := ok_b5 ok
  have h8 : edn (V 254) b ≤ 8 := fb_ct_le _ 8
  have hh := ok_hc ok hb
  rw [← cm_nr ok hb hc]
  unfold f_X10_commitIt
  simp (disch := omega) only [bd_s, bv_s, lt_d, jn_d, om_s, om_n, zl0, zl1, zl2, zl3, zl4, zl5, zl6, zl7, zl8, zl9, zl10, zl11, zl12, zl13, zl16, zl23, zl24, zl26, zl31, zl32, zl35, zl36, zl40, zl42, zl45, zl48, zl57, zl58, zl59, zl60, zl61, zl62, zl63, zl64, zl65, zl78, zl90, zl94, zl97, zl98, zl114, zl122, zl126, zl244, zl290, zl291, zl326, zl335, zl361, zl2527, zl2888, neg1, le_T, le_F, lt_T, lt_F, eq_T, eq_F, m1_ne, m1_ne', m1_lt, m1_le, lt_m1, le_m1, cl_n, ib_T, nI_add, pk_mul, sub_n, add_m1, sub_m1, m1_1, m1_1', pw_d, st_e, st_n, vu_e, vu_n, up_e, up_n, if_true, if_false, true_or, or_true, false_or, or_false, eq_self, reduceCtorEq, not_true_eq_false, not_false_eq_true, sm_isBra_T (V := V) (ok_bcn ok) h5 hb, sm_in_T V (A := (nI a).toInt64) (B := 0) (C := 9) rfl w0 w9 (nI_le (Nat.zero_le a) (by omega)) (nI_le (show a ≤ 9 by omega) (by omega)), sm_edits (V := V) ok hb, ok_cnt ok, sm_headOf (V := V) (show b < 5 by omega), ok_hd ok hb, mm_mk (V := V) (p := hd (V 254) b) (x := m1) (a := nI a) (ok_cnt ok) hc]
  generalize hG : mkg (V 254) (hd (V 254) b) m1 (nI a) = G
  have hGo : ∀ j, j ≠ 0 → (j < 2 + 12 * cnt (V 254) ∨ 2 + 12 * cnt (V 254) + 4 ≤ j) → G j = V 254 j := fun j h0 h => by rw [← hG]; exact mkg_o h0 h
  have L : ∀ (j : Mem → Option (Int32 × Mem)), f_X10_commitIt_L72 (nI b) (nI (cnt (V 254))) j FU (va_up V 254 G) (nI 0) = j (va_up V 254 (fb_put G (fun f => V 254 (290 + 9 * b + 1 + f)) (2 + 12 * cnt (V 254) + 4) 8)) := by
    intro j
    refine Eq.trans (congrArg (fun W => f_X10_commitIt_L72 (nI b) (nI (cnt (V 254))) j FU W (nI 0)) (show va_up V 254 G = va_up V 254 (fb_put G (fun f => V 254 (290 + 9 * b + 1 + f)) (2 + 12 * cnt (V 254) + 4) 0) by rw [fb_put_0])) ?_
    refine lp_run 8 (fun n k => f_X10_commitIt_L72 (nI b) (nI (cnt (V 254))) j n (va_up V 254 (fb_put G (fun f => V 254 (290 + 9 * b + 1 + f)) (2 + 12 * cnt (V 254) + 4) k)) (nI k)) _ ?_ ?_ (n := FU) (k := 0) (by omega) (by decide)
    · intro n
      rw [f_X10_commitIt_L72.eq_2]
      simp (disch := omega) only [bd_s, bv_s, lt_d, jn_d, om_s, om_n, zl0, zl1, zl2, zl3, zl4, zl5, zl6, zl7, zl8, zl9, zl10, zl11, zl12, zl13, zl16, zl23, zl24, zl26, zl31, zl32, zl35, zl36, zl40, zl42, zl45, zl48, zl57, zl58, zl59, zl60, zl61, zl62, zl63, zl64, zl65, zl78, zl90, zl94, zl97, zl98, zl114, zl122, zl126, zl244, zl290, zl291, zl326, zl335, zl361, zl2527, zl2888, neg1, le_T, le_F, lt_T, lt_F, eq_T, eq_F, m1_ne, m1_ne', m1_lt, m1_le, lt_m1, le_m1, cl_n, ib_T, nI_add, pk_mul, sub_n, add_m1, sub_m1, m1_1, m1_1', pw_d, st_e, st_n, vu_e, vu_n, up_e, up_n, if_true, if_false, true_or, or_true, false_or, or_false, eq_self, reduceCtorEq, not_true_eq_false, not_false_eq_true]
    · intro n k hk
      rw [f_X10_commitIt_L72.eq_2]
      simp (disch := omega) only [bd_s, bv_s, lt_d, jn_d, om_s, om_n, zl0, zl1, zl2, zl3, zl4, zl5, zl6, zl7, zl8, zl9, zl10, zl11, zl12, zl13, zl16, zl23, zl24, zl26, zl31, zl32, zl35, zl36, zl40, zl42, zl45, zl48, zl57, zl58, zl59, zl60, zl61, zl62, zl63, zl64, zl65, zl78, zl90, zl94, zl97, zl98, zl114, zl122, zl126, zl244, zl290, zl291, zl326, zl335, zl361, zl2527, zl2888, neg1, le_T, le_F, lt_T, lt_F, eq_T, eq_F, m1_ne, m1_ne', m1_lt, m1_le, lt_m1, le_m1, cl_n, ib_T, nI_add, pk_mul, sub_n, add_m1, sub_m1, m1_1, m1_1', pw_d, st_e, st_n, vu_e, vu_n, up_e, up_n, if_true, if_false, true_or, or_true, false_or, or_false, eq_self, reduceCtorEq, not_true_eq_false, not_false_eq_true, sm_revAt, sm_work (V := va_up V 254 (fb_put G (fun f => V 254 (290 + 9 * b + 1 + f)) (2 + 12 * cnt (V 254) + 4) k)) (show b < 5 by omega) hk, st_v2]
      rw [fb_put_out (by omega), hGo _ (by omega) (by omega), ← fb_put_succ]
  simp (disch := omega) only [bd_s, bv_s, lt_d, jn_d, om_s, om_n, zl0, zl1, zl2, zl3, zl4, zl5, zl6, zl7, zl8, zl9, zl10, zl11, zl12, zl13, zl16, zl23, zl24, zl26, zl31, zl32, zl35, zl36, zl40, zl42, zl45, zl48, zl57, zl58, zl59, zl60, zl61, zl62, zl63, zl64, zl65, zl78, zl90, zl94, zl97, zl98, zl114, zl122, zl126, zl244, zl290, zl291, zl326, zl335, zl361, zl2527, zl2888, neg1, le_T, le_F, lt_T, lt_F, eq_T, eq_F, m1_ne, m1_ne', m1_lt, m1_le, lt_m1, le_m1, cl_n, ib_T, nI_add, pk_mul, sub_n, add_m1, sub_m1, m1_1, m1_1', pw_d, st_e, st_n, vu_e, vu_n, up_e, up_n, if_true, if_false, true_or, or_true, false_or, or_false, eq_self, reduceCtorEq, not_true_eq_false, not_false_eq_true, L, sm_braAt, st_v2]
theorem mm_com_1 {a d : Int32} (ok : OKg (V 254)) (h : Bad a (bcn (V 254))) : MNo (f_X10_commitIt V a d) V 1 := by
  have h5 := ok_b5 ok
  refine MNo.of (r := m1) ?_
  unfold f_X10_commitIt
  simp (disch := omega) only [bd_s, bv_s, lt_d, jn_d, om_s, om_n, zl0, zl1, zl2, zl3, zl4, zl5, zl6, zl7, zl8, zl9, zl10, zl11, zl12, zl13, zl16, zl23, zl24, zl26, zl31, zl32, zl35, zl36, zl40, zl42, zl45, zl48, zl57, zl58, zl59, zl60, zl61, zl62, zl63, zl64, zl65, zl78, zl90, zl94, zl97, zl98, zl114, zl122, zl126, zl244, zl290, zl291, zl326, zl335, zl361, zl2527, zl2888, neg1, le_T, le_F, lt_T, lt_F, eq_T, eq_F, m1_ne, m1_ne', m1_lt, m1_le, lt_m1, le_m1, cl_n, ib_T, nI_add, pk_mul, sub_n, add_m1, sub_m1, m1_1, m1_1', pw_d, st_e, st_n, vu_e, vu_n, up_e, up_n, if_true, if_false, true_or, or_true, false_or, or_false, eq_self, reduceCtorEq, not_true_eq_false, not_false_eq_true, sm_isBra_F (V := V) (ok_bcn ok) (ok_b1 ok) h5 h, sm_th]
theorem w9' : (9 : Int64) = (nI (10 - 1)).toInt64 := by decide
theorem mm_com_2 {b : Nat} {d : Int32} (ok : OKg (V 254)) (hb : b < bcn (V 254)) (h : Bad d 10) : MNo (f_X10_commitIt V (nI b) d) V 2 := by
  have h5 := ok_b5 ok
  refine MNo.of (r := m1) ?_
  unfold f_X10_commitIt
  simp (disch := omega) only [bd_s, bv_s, lt_d, jn_d, om_s, om_n, zl0, zl1, zl2, zl3, zl4, zl5, zl6, zl7, zl8, zl9, zl10, zl11, zl12, zl13, zl16, zl23, zl24, zl26, zl31, zl32, zl35, zl36, zl40, zl42, zl45, zl48, zl57, zl58, zl59, zl60, zl61, zl62, zl63, zl64, zl65, zl78, zl90, zl94, zl97, zl98, zl114, zl122, zl126, zl244, zl290, zl291, zl326, zl335, zl361, zl2527, zl2888, neg1, le_T, le_F, lt_T, lt_F, eq_T, eq_F, m1_ne, m1_ne', m1_lt, m1_le, lt_m1, le_m1, cl_n, ib_T, nI_add, pk_mul, sub_n, add_m1, sub_m1, m1_1, m1_1', pw_d, st_e, st_n, vu_e, vu_n, up_e, up_n, if_true, if_false, true_or, or_true, false_or, or_false, eq_self, reduceCtorEq, not_true_eq_false, not_false_eq_true, sm_isBra_T (V := V) (ok_bcn ok) h5 hb, sm_in_F V (A := d.toInt64) (B := 0) (C := 9) rfl w0 w9' (bad_in (by omega) (by omega) h), sm_th]
theorem mm_com_3 {b a : Nat} (ok : OKg (V 254)) (hb : b < bcn (V 254)) (ha : a < 10) (he : edn (V 254) b = 0 ∨ cnt (V 254) = 24) : MNo (f_X10_commitIt V (nI b) (nI a)) V 3 := by
  have h5 := ok_b5 ok
  have h8 : edn (V 254) b ≤ 8 := fb_ct_le _ 8
  refine MNo.of (r := m1) ?_
  unfold f_X10_commitIt
  by_cases q : edn (V 254) b = 0
  · simp (disch := omega) only [bd_s, bv_s, lt_d, jn_d, om_s, om_n, zl0, zl1, zl2, zl3, zl4, zl5, zl6, zl7, zl8, zl9, zl10, zl11, zl12, zl13, zl16, zl23, zl24, zl26, zl31, zl32, zl35, zl36, zl40, zl42, zl45, zl48, zl57, zl58, zl59, zl60, zl61, zl62, zl63, zl64, zl65, zl78, zl90, zl94, zl97, zl98, zl114, zl122, zl126, zl244, zl290, zl291, zl326, zl335, zl361, zl2527, zl2888, neg1, le_T, le_F, lt_T, lt_F, eq_T, eq_F, m1_ne, m1_ne', m1_lt, m1_le, lt_m1, le_m1, cl_n, ib_T, nI_add, pk_mul, sub_n, add_m1, sub_m1, m1_1, m1_1', pw_d, st_e, st_n, vu_e, vu_n, up_e, up_n, if_true, if_false, true_or, or_true, false_or, or_false, eq_self, reduceCtorEq, not_true_eq_false, not_false_eq_true, sm_isBra_T (V := V) (ok_bcn ok) h5 hb, sm_in_T V (A := (nI a).toInt64) (B := 0) (C := 9) rfl w0 w9 (nI_le (Nat.zero_le a) (by omega)) (nI_le (show a ≤ 9 by omega) (by omega)), sm_edits (V := V) ok hb, q, sm_th]
  · have hc := he.resolve_left q
    have e := ok_cnt ok
    rw [hc] at e
    simp (disch := omega) only [bd_s, bv_s, lt_d, jn_d, om_s, om_n, zl0, zl1, zl2, zl3, zl4, zl5, zl6, zl7, zl8, zl9, zl10, zl11, zl12, zl13, zl16, zl23, zl24, zl26, zl31, zl32, zl35, zl36, zl40, zl42, zl45, zl48, zl57, zl58, zl59, zl60, zl61, zl62, zl63, zl64, zl65, zl78, zl90, zl94, zl97, zl98, zl114, zl122, zl126, zl244, zl290, zl291, zl326, zl335, zl361, zl2527, zl2888, neg1, le_T, le_F, lt_T, lt_F, eq_T, eq_F, m1_ne, m1_ne', m1_lt, m1_le, lt_m1, le_m1, cl_n, ib_T, nI_add, pk_mul, sub_n, add_m1, sub_m1, m1_1, m1_1', pw_d, st_e, st_n, vu_e, vu_n, up_e, up_n, if_true, if_false, true_or, or_true, false_or, or_false, eq_self, reduceCtorEq, not_true_eq_false, not_false_eq_true, sm_isBra_T (V := V) (ok_bcn ok) h5 hb, sm_in_T V (A := (nI a).toInt64) (B := 0) (C := 9) rfl w0 w9 (nI_le (Nat.zero_le a) (by omega)) (nI_le (show a ≤ 9 by omega) (by omega)), sm_edits (V := V) ok hb, e, sm_th]
/-! merges -/
def mayM (g : Arr) (b o : Nat) : Prop := edn g b = 0 ∧ edn g o = 0 ∧ bt (Ag g (hd g b)) (hd g o) = false ∧ cnt g < 24
theorem mm_may {b o : Nat} (ok : OKg (V 254)) (hb : b < bcn (V 254)) (ho : o < bcn (V 254)) : (mayM (V 254) b o → ∃ h k, f_X10_mayMerge V (nI b) (nI o) = some (nI 1, scr V h k)) ∧ (¬ mayM (V 254) b o → ∃ h k, f_X10_mayMerge V (nI b) (nI o) = some (nI 0, scr V h k)) := by
  have h5 := ok_b5 ok
  have hc := ok_c24 ok
  have h1 := ok_hc ok hb
  have h2 := ok_hc ok ho
  have h8 : edn (V 254) b ≤ 8 := fb_ct_le _ 8
  have h9 : edn (V 254) o ≤ 8 := fb_ct_le _ 8
  obtain ⟨h, k, e⟩ := (sm_anc ok h1).at
  have e : f_X10_ancestorsOf V (nI (hd (V 254) b)) = some (Ag (V 254) (hd (V 254) b), scr V h k) := e
  have es : ∀ x, (if bt (Ag (V 254) (hd (V 254) b)) (hd (V 254) o) = true then nI 1 else nI 0) = x → ((Ag (V 254) (hd (V 254) b) >>> (nI (hd (V 254) o) &&& nI 31)) &&& nI 1) = x := fun x hx => by rw [sh_bt (by omega)]; exact hx
  have ed : ∀ z, z < bcn (V 254) → f_X10_edits (scr V h k) (nI z) = some (nI (edn (V 254) z), scr V h k) := fun z hz => sm_edits (V := scr V h k) ok hz
  have hd2 : f_X10_headOf (scr V h k) (nI o) = some (nI (hd (V 254) o), scr V h k) := by
    rw [sm_headOf (V := scr V h k) (show o < 5 by omega), scr_254, ok_hd ok ho]
  constructor
  · rintro ⟨q1, q2, q3, q4⟩
    refine ⟨h, k, ?_⟩
    unfold f_X10_mayMerge
    simp (disch := omega) only [bd_s, bv_s, lt_d, jn_d, om_s, om_n, zl0, zl1, zl2, zl3, zl4, zl5, zl6, zl7, zl8, zl9, zl10, zl11, zl12, zl13, zl16, zl23, zl24, zl26, zl31, zl32, zl35, zl36, zl40, zl42, zl45, zl48, zl57, zl58, zl59, zl60, zl61, zl62, zl63, zl64, zl65, zl78, zl90, zl94, zl97, zl98, zl114, zl122, zl126, zl244, zl290, zl291, zl326, zl335, zl361, zl2527, zl2888, neg1, le_T, le_F, lt_T, lt_F, eq_T, eq_F, m1_ne, m1_ne', m1_lt, m1_le, lt_m1, le_m1, cl_n, ib_T, nI_add, pk_mul, sub_n, add_m1, sub_m1, m1_1, m1_1', pw_d, st_e, st_n, vu_e, vu_n, up_e, up_n, if_true, if_false, true_or, or_true, false_or, or_false, eq_self, reduceCtorEq, not_true_eq_false, not_false_eq_true, sm_headOf (V := V) (show b < 5 by omega), ok_hd ok hb, e, hd2, es (nI 0) (by rw [q3]; rfl), ed b hb, ed o ho, q1, q2, scr_254, ok_cnt ok]
  · intro q
    refine ⟨h, k, ?_⟩
    unfold f_X10_mayMerge
    by_cases q1 : edn (V 254) b = 0
    · by_cases q2 : edn (V 254) o = 0
      · cases q3 : bt (Ag (V 254) (hd (V 254) b)) (hd (V 254) o)
        · have q4 : cnt (V 254) = 24 := by
            rcases Nat.lt_or_ge (cnt (V 254)) 24 with z | z
            · exact absurd ⟨q1, q2, q3, z⟩ q
            · omega
          have ec := ok_cnt ok
          rw [q4] at ec
          simp (disch := omega) only [bd_s, bv_s, lt_d, jn_d, om_s, om_n, zl0, zl1, zl2, zl3, zl4, zl5, zl6, zl7, zl8, zl9, zl10, zl11, zl12, zl13, zl16, zl23, zl24, zl26, zl31, zl32, zl35, zl36, zl40, zl42, zl45, zl48, zl57, zl58, zl59, zl60, zl61, zl62, zl63, zl64, zl65, zl78, zl90, zl94, zl97, zl98, zl114, zl122, zl126, zl244, zl290, zl291, zl326, zl335, zl361, zl2527, zl2888, neg1, le_T, le_F, lt_T, lt_F, eq_T, eq_F, m1_ne, m1_ne', m1_lt, m1_le, lt_m1, le_m1, cl_n, ib_T, nI_add, pk_mul, sub_n, add_m1, sub_m1, m1_1, m1_1', pw_d, st_e, st_n, vu_e, vu_n, up_e, up_n, if_true, if_false, true_or, or_true, false_or, or_false, eq_self, reduceCtorEq, not_true_eq_false, not_false_eq_true, sm_headOf (V := V) (show b < 5 by omega), ok_hd ok hb, e, hd2, es (nI 0) (by rw [q3]; rfl), ed b hb, ed o ho, q1, q2, scr_254, ec]
        · simp (disch := omega) only [bd_s, bv_s, lt_d, jn_d, om_s, om_n, zl0, zl1, zl2, zl3, zl4, zl5, zl6, zl7, zl8, zl9, zl10, zl11, zl12, zl13, zl16, zl23, zl24, zl26, zl31, zl32, zl35, zl36, zl40, zl42, zl45, zl48, zl57, zl58, zl59, zl60, zl61, zl62, zl63, zl64, zl65, zl78, zl90, zl94, zl97, zl98, zl114, zl122, zl126, zl244, zl290, zl291, zl326, zl335, zl361, zl2527, zl2888, neg1, le_T, le_F, lt_T, lt_F, eq_T, eq_F, m1_ne, m1_ne', m1_lt, m1_le, lt_m1, le_m1, cl_n, ib_T, nI_add, pk_mul, sub_n, add_m1, sub_m1, m1_1, m1_1', pw_d, st_e, st_n, vu_e, vu_n, up_e, up_n, if_true, if_false, true_or, or_true, false_or, or_false, eq_self, reduceCtorEq, not_true_eq_false, not_false_eq_true, sm_headOf (V := V) (show b < 5 by omega), ok_hd ok hb, e, hd2, es (nI 1) (by rw [q3]; rfl), ed b hb, ed o ho, q1, q2, scr_254]
      · by_cases q3 : bt (Ag (V 254) (hd (V 254) b)) (hd (V 254) o) = true
        · simp (disch := omega) only [bd_s, bv_s, lt_d, jn_d, om_s, om_n, zl0, zl1, zl2, zl3, zl4, zl5, zl6, zl7, zl8, zl9, zl10, zl11, zl12, zl13, zl16, zl23, zl24, zl26, zl31, zl32, zl35, zl36, zl40, zl42, zl45, zl48, zl57, zl58, zl59, zl60, zl61, zl62, zl63, zl64, zl65, zl78, zl90, zl94, zl97, zl98, zl114, zl122, zl126, zl244, zl290, zl291, zl326, zl335, zl361, zl2527, zl2888, neg1, le_T, le_F, lt_T, lt_F, eq_T, eq_F, m1_ne, m1_ne', m1_lt, m1_le, lt_m1, le_m1, cl_n, ib_T, nI_add, pk_mul, sub_n, add_m1, sub_m1, m1_1, m1_1', pw_d, st_e, st_n, vu_e, vu_n, up_e, up_n, if_true, if_false, true_or, or_true, false_or, or_false, eq_self, reduceCtorEq, not_true_eq_false, not_false_eq_true, sm_headOf (V := V) (show b < 5 by omega), ok_hd ok hb, e, hd2, es (nI 1) (by rw [q3]; rfl), ed b hb, ed o ho, q1, q2, scr_254]
        · simp (disch := omega) only [bd_s, bv_s, lt_d, jn_d, om_s, om_n, zl0, zl1, zl2, zl3, zl4, zl5, zl6, zl7, zl8, zl9, zl10, zl11, zl12, zl13, zl16, zl23, zl24, zl26, zl31, zl32, zl35, zl36, zl40, zl42, zl45, zl48, zl57, zl58, zl59, zl60, zl61, zl62, zl63, zl64, zl65, zl78, zl90, zl94, zl97, zl98, zl114, zl122, zl126, zl244, zl290, zl291, zl326, zl335, zl361, zl2527, zl2888, neg1, le_T, le_F, lt_T, lt_F, eq_T, eq_F, m1_ne, m1_ne', m1_lt, m1_le, lt_m1, le_m1, cl_n, ib_T, nI_add, pk_mul, sub_n, add_m1, sub_m1, m1_1, m1_1', pw_d, st_e, st_n, vu_e, vu_n, up_e, up_n, if_true, if_false, true_or, or_true, false_or, or_false, eq_self, reduceCtorEq, not_true_eq_false, not_false_eq_true, sm_headOf (V := V) (show b < 5 by omega), ok_hd ok hb, e, hd2, es (nI 0) (by rw [if_neg q3]), ed b hb, ed o ho, q1, q2, scr_254]
    · by_cases q3 : bt (Ag (V 254) (hd (V 254) b)) (hd (V 254) o) = true
      · simp (disch := omega) only [bd_s, bv_s, lt_d, jn_d, om_s, om_n, zl0, zl1, zl2, zl3, zl4, zl5, zl6, zl7, zl8, zl9, zl10, zl11, zl12, zl13, zl16, zl23, zl24, zl26, zl31, zl32, zl35, zl36, zl40, zl42, zl45, zl48, zl57, zl58, zl59, zl60, zl61, zl62, zl63, zl64, zl65, zl78, zl90, zl94, zl97, zl98, zl114, zl122, zl126, zl244, zl290, zl291, zl326, zl335, zl361, zl2527, zl2888, neg1, le_T, le_F, lt_T, lt_F, eq_T, eq_F, m1_ne, m1_ne', m1_lt, m1_le, lt_m1, le_m1, cl_n, ib_T, nI_add, pk_mul, sub_n, add_m1, sub_m1, m1_1, m1_1', pw_d, st_e, st_n, vu_e, vu_n, up_e, up_n, if_true, if_false, true_or, or_true, false_or, or_false, eq_self, reduceCtorEq, not_true_eq_false, not_false_eq_true, sm_headOf (V := V) (show b < 5 by omega), ok_hd ok hb, e, hd2, es (nI 1) (by rw [q3]; rfl), ed b hb, ed o ho, q1, scr_254]
      · simp (disch := omega) only [bd_s, bv_s, lt_d, jn_d, om_s, om_n, zl0, zl1, zl2, zl3, zl4, zl5, zl6, zl7, zl8, zl9, zl10, zl11, zl12, zl13, zl16, zl23, zl24, zl26, zl31, zl32, zl35, zl36, zl40, zl42, zl45, zl48, zl57, zl58, zl59, zl60, zl61, zl62, zl63, zl64, zl65, zl78, zl90, zl94, zl97, zl98, zl114, zl122, zl126, zl244, zl290, zl291, zl326, zl335, zl361, zl2527, zl2888, neg1, le_T, le_F, lt_T, lt_F, eq_T, eq_F, m1_ne, m1_ne', m1_lt, m1_le, lt_m1, le_m1, cl_n, ib_T, nI_add, pk_mul, sub_n, add_m1, sub_m1, m1_1, m1_1', pw_d, st_e, st_n, vu_e, vu_n, up_e, up_n, if_true, if_false, true_or, or_true, false_or, or_false, eq_self, reduceCtorEq, not_true_eq_false, not_false_eq_true, sm_headOf (V := V) (show b < 5 by omega), ok_hd ok hb, e, hd2, es (nI 0) (by rw [if_neg q3]), ed b hb, ed o ho, q1, scr_254]
def mrl (g : Arr) (b o : Nat) (kp : Bool) : Arr := fun f => if mgl g b o f = nI 0 then (if kp then g (2 + 12 * hd g b + 4 + f) else g (2 + 12 * hd g o + 4 + f)) else mgl g b o f
theorem mrl_let {g : Arr} (ok : OKg g) {b o : Nat} {kp : Bool} (hb : b < bcn g) (ho : o < bcn g) : ∀ f, f < 8 → Let (mrl g b o kp f) := fun f hf => by
  unfold mrl
  split
  · cases kp
    · exact ok_le ok (ok_hc ok ho) hf
    · exact ok_le ok (ok_hc ok hb) hf
  · rename_i q
    exact (mgl_let ok hb ho hf).resolve_left q
theorem put_agr {g : Arr} (hc : cnt g < 24) (L : Arr) {k : Nat} (hk : k ≤ 8) : Agr g (fb_put g L (2 + 12 * cnt g + 4) k) :=
  ⟨fb_put_out (by omega), fb_put_out (by omega), fun j h1 h2 => fb_put_out (by omega), fun j h1 h2 => fb_put_out (by omega)⟩
theorem mm_mlp {b o : Nat} {kp : Bool} {keeps : Int32} {jj : Mem → Option (Int32 × Mem)} (ok : OKg (V 254)) (hb : b < bcn (V 254)) (ho : o < bcn (V 254)) (hc : cnt (V 254) < 24) (hk : ∀ f, f < 8 → mgl (V 254) b o f = nI 0 → (keeps = nI 1 ∧ kp = true) ∨ (¬ keeps = nI 1 ∧ kp = false)) : ∀ (m k : Nat) (h1 k1 : Arr), k + m = 8 → ∀ n, m < n → ∃ h2 k2, f_X10_mergeIt_L91 (nI b) (nI o) keeps (nI (hd (V 254) b)) (nI (hd (V 254) o)) (nI (2 + 12 * cnt (V 254) + 4)) jj n (scr (va_up V 254 (fb_put (V 254) (mrl (V 254) b o kp) (2 + 12 * cnt (V 254) + 4) k)) h1 k1) (nI k) = jj (scr (va_up V 254 (fb_put (V 254) (mrl (V 254) b o kp) (2 + 12 * cnt (V 254) + 4) 8)) h2 k2) := by
  have h5 := ok_b5 ok
  have g1 := ok_hc ok hb
  have g2 := ok_hc ok ho
  intro m
  induction m with
  | zero =>
    intro k h1 k1 hk' n hn
    obtain ⟨n, rfl⟩ : ∃ n', n = n' + 1 := ⟨n - 1, by omega⟩
    obtain rfl : k = 8 := by omega
    refine ⟨h1, k1, ?_⟩
    rw [f_X10_mergeIt_L91.eq_2]
    simp (disch := omega) only [bd_s, bv_s, lt_d, jn_d, om_s, om_n, zl0, zl1, zl2, zl3, zl4, zl5, zl6, zl7, zl8, zl9, zl10, zl11, zl12, zl13, zl16, zl23, zl24, zl26, zl31, zl32, zl35, zl36, zl40, zl42, zl45, zl48, zl57, zl58, zl59, zl60, zl61, zl62, zl63, zl64, zl65, zl78, zl90, zl94, zl97, zl98, zl114, zl122, zl126, zl244, zl290, zl291, zl326, zl335, zl361, zl2527, zl2888, neg1, le_T, le_F, lt_T, lt_F, eq_T, eq_F, m1_ne, m1_ne', m1_lt, m1_le, lt_m1, le_m1, cl_n, ib_T, nI_add, pk_mul, sub_n, add_m1, sub_m1, m1_1, m1_1', pw_d, st_e, st_n, vu_e, vu_n, up_e, up_n, if_true, if_false, true_or, or_true, false_or, or_false, eq_self, reduceCtorEq, not_true_eq_false, not_false_eq_true]
  | succ m ih =>
    intro k h1 k1 hk' n hn
    obtain ⟨n, rfl⟩ : ∃ n', n = n' + 1 := ⟨n - 1, by omega⟩
    have hk8 : k < 8 := by omega
    have A := put_agr hc (mrl (V 254) b o kp) (show k ≤ 8 by omega)
    have hs := fb_put_succ (V 254) (mrl (V 254) b o kp) (2 + 12 * cnt (V 254) + 4) k
    have gb : fb_put (V 254) (mrl (V 254) b o kp) (2 + 12 * cnt (V 254) + 4) k (2 + 12 * hd (V 254) b + 4 + k) = V 254 (2 + 12 * hd (V 254) b + 4 + k) := fb_put_out (by omega)
    have go : fb_put (V 254) (mrl (V 254) b o kp) (2 + 12 * cnt (V 254) + 4) k (2 + 12 * hd (V 254) o + 4 + k) = V 254 (2 + 12 * hd (V 254) o + 4 + k) := fb_put_out (by omega)
    have em := mgl_agr ok A hb ho hk8
    generalize hP : fb_put (V 254) (mrl (V 254) b o kp) (2 + 12 * cnt (V 254) + 4) k = P at *
    obtain ⟨okP, c0, b0⟩ := OK_agr ok A
    obtain ⟨h2, k2, e⟩ := sm_merged (V := va_up V 254 P) (b := b) (o := o) (f := k) okP (show b < bcn P by omega) (show o < bcn P by omega) hk8 h1 k1
    have e : f_X10_merged (scr (va_up V 254 P) h1 k1) (nI b) (nI o) (nI k) = some (mgl (V 254) b o k, scr (va_up V 254 P) h2 k2) := by rw [← em]; exact e
    obtain ⟨h3, k3, e3⟩ := ih (k + 1) h2 k2 (by omega) n (by omega)
    rw [← hs] at e3
    refine ⟨h3, k3, ?_⟩
    rw [f_X10_mergeIt_L91.eq_2]
    have w1 : (scr (va_up V 254 P) h2 k2) 254 = P := by rw [scr_254, vu_e]
    have l1 := sm_letter (V := scr (va_up V 254 P) h2 k2) (show hd (V 254) b < 24 by omega) hk8
    have l2 := sm_letter (V := scr (va_up V 254 P) h2 k2) (show hd (V 254) o < 24 by omega) hk8
    rw [w1, gb] at l1
    rw [w1, go] at l2
    have ws : ∀ x, stv (scr (va_up V 254 P) h2 k2) 254 (2 + 12 * cnt (V 254) + 4 + k) x = scr (va_up V 254 (upd P (2 + 12 * cnt (V 254) + 4 + k) x)) h2 k2 := fun x => by
      rw [st_vu, w1, scr_vu, vu_vu]
    rcases mgl_let ok hb ho hk8 with q | ⟨c, c1, c2, q⟩
    · have ek : mrl (V 254) b o kp k = if kp then V 254 (2 + 12 * hd (V 254) b + 4 + k) else V 254 (2 + 12 * hd (V 254) o + 4 + k) := by unfold mrl; rw [if_pos q]
      rcases hk k hk8 q with ⟨z1, z2⟩ | ⟨z1, z2⟩
      · have ek2 : mrl (V 254) b o kp k = V 254 (2 + 12 * hd (V 254) b + 4 + k) := by rw [ek, z2]; rfl
        rw [ek2, z1] at e3
        simp (disch := omega) only [bd_s, bv_s, lt_d, jn_d, om_s, om_n, zl0, zl1, zl2, zl3, zl4, zl5, zl6, zl7, zl8, zl9, zl10, zl11, zl12, zl13, zl16, zl23, zl24, zl26, zl31, zl32, zl35, zl36, zl40, zl42, zl45, zl48, zl57, zl58, zl59, zl60, zl61, zl62, zl63, zl64, zl65, zl78, zl90, zl94, zl97, zl98, zl114, zl122, zl126, zl244, zl290, zl291, zl326, zl335, zl361, zl2527, zl2888, neg1, le_T, le_F, lt_T, lt_F, eq_T, eq_F, m1_ne, m1_ne', m1_lt, m1_le, lt_m1, le_m1, cl_n, ib_T, nI_add, pk_mul, sub_n, add_m1, sub_m1, m1_1, m1_1', pw_d, st_e, st_n, vu_e, vu_n, up_e, up_n, if_true, if_false, true_or, or_true, false_or, or_false, eq_self, reduceCtorEq, not_true_eq_false, not_false_eq_true, e, q, z1, l1, ws]
        exact e3
      · have ek2 : mrl (V 254) b o kp k = V 254 (2 + 12 * hd (V 254) o + 4 + k) := by rw [ek, z2]; rfl
        rw [ek2] at e3
        simp (disch := omega) only [bd_s, bv_s, lt_d, jn_d, om_s, om_n, zl0, zl1, zl2, zl3, zl4, zl5, zl6, zl7, zl8, zl9, zl10, zl11, zl12, zl13, zl16, zl23, zl24, zl26, zl31, zl32, zl35, zl36, zl40, zl42, zl45, zl48, zl57, zl58, zl59, zl60, zl61, zl62, zl63, zl64, zl65, zl78, zl90, zl94, zl97, zl98, zl114, zl122, zl126, zl244, zl290, zl291, zl326, zl335, zl361, zl2527, zl2888, neg1, le_T, le_F, lt_T, lt_F, eq_T, eq_F, m1_ne, m1_ne', m1_lt, m1_le, lt_m1, le_m1, cl_n, ib_T, nI_add, pk_mul, sub_n, add_m1, sub_m1, m1_1, m1_1', pw_d, st_e, st_n, vu_e, vu_n, up_e, up_n, if_true, if_false, true_or, or_true, false_or, or_false, eq_self, reduceCtorEq, not_true_eq_false, not_false_eq_true, e, q, z1, l2, ws]
        exact e3
    · have ek : mrl (V 254) b o kp k = nI c := by
        unfold mrl; rw [q, if_neg (show ¬ nI c = nI 0 from nI_ne0 (by omega) (by omega))]
      rw [ek] at e3
      simp (disch := omega) only [bd_s, bv_s, lt_d, jn_d, om_s, om_n, zl0, zl1, zl2, zl3, zl4, zl5, zl6, zl7, zl8, zl9, zl10, zl11, zl12, zl13, zl16, zl23, zl24, zl26, zl31, zl32, zl35, zl36, zl40, zl42, zl45, zl48, zl57, zl58, zl59, zl60, zl61, zl62, zl63, zl64, zl65, zl78, zl90, zl94, zl97, zl98, zl114, zl122, zl126, zl244, zl290, zl291, zl326, zl335, zl361, zl2527, zl2888, neg1, le_T, le_F, lt_T, lt_F, eq_T, eq_F, m1_ne, m1_ne', m1_lt, m1_le, lt_m1, le_m1, cl_n, ib_T, nI_add, pk_mul, sub_n, add_m1, sub_m1, m1_1, m1_1', pw_d, st_e, st_n, vu_e, vu_n, up_e, up_n, if_true, if_false, true_or, or_true, false_or, or_false, eq_self, reduceCtorEq, not_true_eq_false, not_false_eq_true, e, q, ws]
      exact e3
/-- merge's array is that of a new revision -/
theorem mg_nr {g : Arr} (ok : OKg g) {b p : Nat} {x a : Int32} {L : Arr} (hb : b < bcn g) (hc : cnt g < 24) : bwg (mkg (fb_put g L (2 + 12 * cnt g + 4) 8) p x a) b (cnt g) (fun f => mkg (fb_put g L (2 + 12 * cnt g + 4) 8) p x a (2 + 12 * cnt g + 4 + f)) = nrg g b p x a L := by
  have h5 := ok_b5 ok
  have c0 : cnt (fb_put g L (2 + 12 * cnt g + 4) 8) = cnt g := (OK_agr ok (put_agr hc L (Nat.le_refl 8))).2.1
  funext j
  by_cases e0 : j = 290 + 9 * b
  · subst e0; rw [nrg_o (by omega) (by omega), bwg_h, bwg_h]
  · by_cases e1 : 290 + 9 * b + 1 ≤ j ∧ j < 290 + 9 * b + 1 + 8
    · obtain ⟨f, rfl⟩ : ∃ f, j = 290 + 9 * b + 1 + f := ⟨j - (290 + 9 * b + 1), by omega⟩
      rw [nrg_o (by omega) (by omega), bwg_l (by omega), bwg_l (by omega), mkg_o (by omega) (by rw [c0]; omega), fb_put_in (by omega) (by omega)]
      congr 1; omega
    · rw [bwg_o (by omega)]
      by_cases e2 : 2 + 12 * cnt g + 4 ≤ j ∧ j < 2 + 12 * cnt g + 4 + 8
      · obtain ⟨f, rfl⟩ : ∃ f, j = 2 + 12 * cnt g + 4 + f := ⟨j - (2 + 12 * cnt g + 4), by omega⟩
        rw [nrg_l (by omega), mkg_o (by omega) (by rw [c0]; omega), fb_put_in (by omega) (by omega)]
        congr 1; omega
      · by_cases f0 : j = 0
        · subst f0; rw [nrg_0]; unfold mkg; rw [up_e, c0]
        · by_cases f1 : j = 2 + 12 * cnt g
          · subst f1; rw [nrg_p]; unfold mkg; rw [c0, up_n (by omega), up_n (by omega), up_n (by omega), up_n (by omega), up_e]
          · by_cases f2 : j = 2 + 12 * cnt g + 1
            · subst f2; rw [nrg_x]; unfold mkg; rw [c0, up_n (by omega), up_n (by omega), up_n (by omega), up_e]
            · by_cases f3 : j = 2 + 12 * cnt g + 2
              · subst f3; rw [nrg_a]; unfold mkg; rw [c0, up_n (by omega), up_n (by omega), up_e]
              · by_cases f4 : j = 2 + 12 * cnt g + 3
                · subst f4; rw [nrg_z]; unfold mkg; rw [c0, up_n (by omega), up_e]
                · rw [mkg_o f0 (by rw [c0]; omega), nrg_o f0 (by omega), fb_put_out (by omega), bwg_o (by omega)]
theorem mm_mrg {b o : Nat} {kp : Bool} {keeps : Int32} (ok : OKg (V 254)) (hb : b < bcn (V 254)) (ho : o < bcn (V 254)) (hne : b ≠ o) (hm : mayM (V 254) b o) (hk : (keeps = nI 1 ∧ kp = true) ∨ (keeps = nI 2 ∧ kp = false) ∨ (keeps = nI 0 ∧ fb_ct (cfl (V 254) b o) 8 = 0)) : MOk (f_X10_mergeIt V (nI b) (nI o) keeps) V (nI (cnt (V 254))) (nrg (V 254) b (hd (V 254) b) (nI (hd (V 254) o)) (V 254 (2 + 12 * hd (V 254) o + 2)) (mrl (V 254) b o kp)) := by
  have h5 := ok_b5 ok
  have g1 := ok_hc ok hb
  have g2 := ok_hc ok ho
  have hc : cnt (V 254) < 24 := hm.2.2.2
  obtain ⟨h1, k1, e1⟩ := (mm_may ok hb ho).1 hm
  obtain ⟨h2, k2, e2⟩ := sm_conf (V := V) ok hb ho h1 k1
  have e2 : f_X10_conflicts (scr V h1 k1) (nI b) (nI o) = some (nI (fb_ct (cfl (V 254) b o) 8), scr V h2 k2) := e2
  have key : ∀ f, f < 8 → mgl (V 254) b o f = nI 0 → (keeps = nI 1 ∧ kp = true) ∨ (¬ keeps = nI 1 ∧ kp = false) := fun f hf q => by
    rcases hk with z | z | z
    · exact .inl z
    · exact .inr ⟨by rw [z.1]; decide, z.2⟩
    · have := fb_ct_zero.mp z.2 f hf
      unfold cfl at this
      rw [q] at this
      simp at this
  -- the rest, from any scratch
  have rest : ∀ (h k : Arr), ∃ h3 k3, (bd (f_X10_headOf (scr V h k) (nI b)) fun r63 V63 => bd (f_X10_headOf V63 (nI o)) fun r70 V70 => if ib 0 361 = true then bd (f_X10_revisionAt V70 (V70 254 (0 : Int32).toNatClampNeg)) fun r81 V81 => jn (α := Mem → Option (Int32 × Mem)) (fun j158 => f_X10_mergeIt_L91 (nI b) (nI o) keeps r63 r70 (r81 + 4) j158 FU V81 0) (fun (V158 : Mem) => bd (f_X10_revisionAt V158 r70) fun r169 V169 => if ib (r169 + 2) 361 = true then bd (f_X10_makes V169 r63 r70 (V169 254 ((r169 + 2)).toNatClampNeg)) fun r175 V175 => bv (f_X10_becomesHead V175 (nI b) r175) fun V184 => some (r175, V184) else none) else none) = some (nI (cnt (V 254)), scr (va_up V 254 (nrg (V 254) b (hd (V 254) b) (nI (hd (V 254) o)) (V 254 (2 + 12 * hd (V 254) o + 2)) (mrl (V 254) b o kp))) h3 k3) := by
    intro h k
    have x1 : f_X10_headOf (scr V h k) (nI b) = some (nI (hd (V 254) b), scr V h k) := by rw [sm_headOf (V := scr V h k) (show b < 5 by omega), scr_254, ok_hd ok hb]
    have x2 : f_X10_headOf (scr V h k) (nI o) = some (nI (hd (V 254) o), scr V h k) := by rw [sm_headOf (V := scr V h k) (show o < 5 by omega), scr_254, ok_hd ok ho]
    obtain ⟨h3, k3, e3⟩ := mm_mlp (V := V) (kp := kp) (keeps := keeps) (jj := fun (V158 : Mem) => bd (f_X10_revisionAt V158 (nI (hd (V 254) o))) fun r169 V169 => if ib (r169 + 2) 361 = true then bd (f_X10_makes V169 (nI (hd (V 254) b)) (nI (hd (V 254) o)) (V169 254 ((r169 + 2)).toNatClampNeg)) fun r175 V175 => bv (f_X10_becomesHead V175 (nI b) r175) fun V184 => some (r175, V184) else none) ok hb ho hc key 8 0 h k rfl FU (by decide)
    rw [fb_put_0, vu_id] at e3
    refine ⟨h3, k3, ?_⟩
    rw [x1, bd_s, x2, bd_s, if_pos (by decide), show (scr V h k) 254 (0 : Int32).toNatClampNeg = nI (cnt (V 254)) from ok_cnt ok, sm_revAt, bd_s, jn_d]
    rw [pk_mul, nI_add, zl4, nI_add]
    refine e3.trans ?_
    have A := put_agr hc (mrl (V 254) b o kp) (Nat.le_refl 8)
    obtain ⟨okP, c0, b0⟩ := OK_agr ok A
    have ea : fb_put (V 254) (mrl (V 254) b o kp) (2 + 12 * cnt (V 254) + 4) 8 (2 + 12 * hd (V 254) o + 2) = V 254 (2 + 12 * hd (V 254) o + 2) := fb_put_out (by omega)
    rw [← mg_nr ok hb hc]
    generalize hP : fb_put (V 254) (mrl (V 254) b o kp) (2 + 12 * cnt (V 254) + 4) 8 = P at *
    have w1 : (scr (va_up V 254 P) h3 k3) 254 = P := by rw [scr_254, vu_e]
    have c1 : (scr (va_up V 254 P) h3 k3) 254 0 = nI (cnt (V 254)) := by rw [w1, A.1]; exact ok_cnt ok
    have mk := mm_mk (V := scr (va_up V 254 P) h3 k3) (p := hd (V 254) b) (x := nI (hd (V 254) o)) (a := V 254 (2 + 12 * hd (V 254) o + 2)) c1 hc
    rw [w1, scr_vu, vu_vu] at mk
    have bh := mm_bh (V := scr (va_up V 254 (mkg P (hd (V 254) b) (nI (hd (V 254) o)) (V 254 (2 + 12 * hd (V 254) o + 2)))) h3 k3) (show b < 5 by omega) hc
    rw [scr_254, vu_e, scr_vu, vu_vu] at bh
    simp (disch := omega) only [bd_s, bv_s, lt_d, jn_d, om_s, om_n, zl0, zl1, zl2, zl3, zl4, zl5, zl6, zl7, zl8, zl9, zl10, zl11, zl12, zl13, zl16, zl23, zl24, zl26, zl31, zl32, zl35, zl36, zl40, zl42, zl45, zl48, zl57, zl58, zl59, zl60, zl61, zl62, zl63, zl64, zl65, zl78, zl90, zl94, zl97, zl98, zl114, zl122, zl126, zl244, zl290, zl291, zl326, zl335, zl361, zl2527, zl2888, neg1, le_T, le_F, lt_T, lt_F, eq_T, eq_F, m1_ne, m1_ne', m1_lt, m1_le, lt_m1, le_m1, cl_n, ib_T, nI_add, pk_mul, sub_n, add_m1, sub_m1, m1_1, m1_1', pw_d, st_e, st_n, vu_e, vu_n, up_e, up_n, if_true, if_false, true_or, or_true, false_or, or_false, eq_self, reduceCtorEq, not_true_eq_false, not_false_eq_true, sm_revAt, w1, ea, mk, bh]
  unfold f_X10_mergeIt
  rcases hk with ⟨z, z2⟩ | ⟨z, z2⟩ | ⟨z, z2⟩
  · obtain ⟨h3, k3, e3⟩ := rest h1 k1
    refine ⟨h3, k3, ?_⟩
    rw [sm_isBra_T (V := V) (ok_bcn ok) h5 hb, bd_s, jn_d, if_neg (by decide), sm_isBra_T (V := V) (ok_bcn ok) h5 ho, bd_s, if_neg (by decide), if_neg (by rw [eq_F hne (by omega) (by omega)]; exact id), e1, bd_s, jn_d, if_neg (by decide), jn_d, if_neg (by rw [z]; decide)]
    exact e3
  · obtain ⟨h3, k3, e3⟩ := rest h1 k1
    refine ⟨h3, k3, ?_⟩
    rw [sm_isBra_T (V := V) (ok_bcn ok) h5 hb, bd_s, jn_d, if_neg (by decide), sm_isBra_T (V := V) (ok_bcn ok) h5 ho, bd_s, if_neg (by decide), if_neg (by rw [eq_F hne (by omega) (by omega)]; exact id), e1, bd_s, jn_d, if_neg (by decide), jn_d, if_neg (by rw [z]; decide)]
    exact e3
  · obtain ⟨h3, k3, e3⟩ := rest h2 k2
    refine ⟨h3, k3, ?_⟩
    rw [sm_isBra_T (V := V) (ok_bcn ok) h5 hb, bd_s, jn_d, if_neg (by decide), sm_isBra_T (V := V) (ok_bcn ok) h5 ho, bd_s, if_neg (by decide), if_neg (by rw [eq_F hne (by omega) (by omega)]; exact id), e1, bd_s, jn_d, if_neg (by decide), jn_d, if_pos (by rw [z]; decide), e2, bd_s, z2, if_pos (by decide)]
    exact e3
theorem mm_mrg_1 {a d e : Int32} (ok : OKg (V 254)) (h : Bad a (bcn (V 254)) ∨ Bad d (bcn (V 254))) : MNo (f_X10_mergeIt V a d e) V 1 := by
  have h5 := ok_b5 ok
  refine MNo.of (r := m1) ?_
  unfold f_X10_mergeIt
  rcases bad_or a (show bcn (V 254) < 2 ^ 31 by omega) with ⟨b, hb, rfl⟩ | hB
  · have q := h.resolve_left (fun q => by
      rcases q with q | q
      · rw [lt_F (by omega) (by omega)] at q; exact q
      · rw [le_F (by omega) (by omega)] at q; exact q)
    rw [sm_isBra_T (V := V) (ok_bcn ok) h5 hb, bd_s, jn_d, if_neg (by decide), sm_isBra_F (V := V) (ok_bcn ok) (ok_b1 ok) h5 q, bd_s, if_pos (by decide)]
    rfl
  · rw [sm_isBra_F (V := V) (ok_bcn ok) (ok_b1 ok) h5 hB, bd_s, jn_d, if_pos (by decide)]
    rfl
theorem mm_mrg_2 {b : Nat} {e : Int32} (ok : OKg (V 254)) (hb : b < bcn (V 254)) : MNo (f_X10_mergeIt V (nI b) (nI b) e) V 2 := by
  have h5 := ok_b5 ok
  refine MNo.of (r := m1) ?_
  unfold f_X10_mergeIt
  rw [sm_isBra_T (V := V) (ok_bcn ok) h5 hb, bd_s, jn_d, if_neg (by decide), sm_isBra_T (V := V) (ok_bcn ok) h5 hb, bd_s, if_neg (by decide), if_pos rfl]
  rfl
theorem mm_mrg_3 {b o : Nat} {keeps : Int32} (ok : OKg (V 254)) (hb : b < bcn (V 254)) (ho : o < bcn (V 254)) (hne : b ≠ o) (h : ¬ mayM (V 254) b o ∨ (keeps = nI 0 ∧ 0 < fb_ct (cfl (V 254) b o) 8)) : MNo (f_X10_mergeIt V (nI b) (nI o) keeps) V 3 := by
  have h5 := ok_b5 ok
  have h8 : fb_ct (cfl (V 254) b o) 8 ≤ 8 := fb_ct_le _ 8
  have th : ∀ h k, f_X10_throwing (scr V h k) 3 = some (m1, scr (stv V 253 4 (nI 3)) h k) := fun h k => by rw [sm_th, scr_s253]; rfl
  unfold f_X10_mergeIt
  by_cases hm : mayM (V 254) b o
  · obtain ⟨h1, k1, e1⟩ := (mm_may ok hb ho).1 hm
    obtain ⟨h2, k2, e2⟩ := sm_conf (V := V) ok hb ho h1 k1
    have e2 : f_X10_conflicts (scr V h1 k1) (nI b) (nI o) = some (nI (fb_ct (cfl (V 254) b o) 8), scr V h2 k2) := e2
    obtain ⟨z, z2⟩ := h.resolve_left (fun q => q hm)
    refine ⟨h2, k2, m1, ?_⟩
    rw [sm_isBra_T (V := V) (ok_bcn ok) h5 hb, bd_s, jn_d, if_neg (by decide), sm_isBra_T (V := V) (ok_bcn ok) h5 ho, bd_s, if_neg (by decide), if_neg (by rw [eq_F hne (by omega) (by omega)]; exact id), e1, bd_s, jn_d, if_neg (by decide), jn_d, if_pos (by rw [z]; decide), e2, bd_s, if_neg (nI_nle z2 (by omega))]
    show bd (f_X10_throwing (scr V h2 k2) 3) _ = _
    rw [th, bd_s]
  · obtain ⟨h1, k1, e1⟩ := (mm_may ok hb ho).2 hm
    refine ⟨h1, k1, m1, ?_⟩
    rw [sm_isBra_T (V := V) (ok_bcn ok) h5 hb, bd_s, jn_d, if_neg (by decide), sm_isBra_T (V := V) (ok_bcn ok) h5 ho, bd_s, if_neg (by decide), if_neg (by rw [eq_F hne (by omega) (by omega)]; exact id), e1, bd_s, jn_d, if_pos (by decide)]
    show bd (f_X10_throwing (scr V h1 k1) 3) _ = _
    rw [th, bd_s]
end MM
