/-! PURE, 31: what the class's changes do to a store -/
def COk (o : Option (Int32 × Mem)) (V : Mem) (r : Int32) (g' : Arr) : Prop := ∃ V', o = some (r, V') ∧ RelS V' g' ∧ ∀ c, 20 ≤ c → V' c = V c
theorem Rel_bwp {W W' : Nat → Arr} {g : Arr} {b h : Nat} {L : Arr} (ok : OKg g) (hb : b < bcn g) (R : RelS W g) (w0 : W' 0 = W 0) (w : ∀ c, 1 ≤ c → c ≤ 13 → W' c = W c) (w15 : ∀ i, i < bcn g → W' 15 i = if i = b then nI h else W 15 i) (w17 : ∀ i f, i < bcn g → f < 8 → W' 17 (i * 8 + f) = if i = b then L f else W 17 (i * 8 + f)) (w19 : W' 19 = W 19) : RelS W' (bwg g b h L) := by
  have hc := ok_c24 ok
  have h5 := ok_b5 ok
  have e : ∀ j, 2 ≤ j → j < 2 + 12 * cnt g → bwg g b h L j = g j := fun j _ h2 => bwg_o (by omega)
  have c0 : cnt (bwg g b h L) = cnt g := by unfold cnt; rw [bwg_o (by omega)]
  have b0 : bcn (bwg g b h L) = bcn g := by unfold bcn; rw [bwg_o (by omega)]
  obtain ⟨⟨r1, r2⟩, r3, r4, r5, r6⟩ := R
  refine ⟨⟨by rw [w 1 (by omega) (by omega), bwg_o (by omega)]; exact r1, by rw [w0, bwg_o (by omega)]; exact r2⟩, fun r hr => ?_, fun r hr => by rw [w 1 (by omega) (by omega)]; exact r4 r (by omega), fun b' hb' => ?_, fun t ht => by rw [w19, bwg_o (by omega)]; exact r6 t ht⟩
  · rw [c0] at hr
    exact RRev_cong hr e w (r3 r hr)
  · rw [b0] at hb'
    by_cases q : b' = b
    · subst q
      exact ⟨by rw [w15 _ hb', if_pos rfl, bwg_h], fun f hf => by rw [w17 _ f hb' hf, if_pos rfl, bwg_l hf]⟩
    · exact ⟨by rw [w15 _ hb', if_neg q, bwg_o (by omega)]; exact (r5 b' hb').1, fun f hf => by rw [w17 _ f hb' hf, if_neg q, bwg_o (by omega)]; exact (r5 b' hb').2 f hf⟩
section CM
variable {V : Mem} {g : Arr}
theorem sx_small {c : Nat} (h1 : 97 ≤ c) (h2 : c ≤ 122) : f_X9_isSmall V (nI c) = some (nI 1, V) := by
  unfold f_X9_isSmall
  simp (disch := omega) only [bd_s, bv_s, lt_d, jn_d, om_s, om_n, zl0, zl1, zl2, zl3, zl4, zl5, zl6, zl7, zl8, zl9, zl10, zl11, zl12, zl13, zl16, zl23, zl24, zl26, zl31, zl32, zl35, zl36, zl40, zl42, zl45, zl48, zl57, zl58, zl59, zl60, zl61, zl62, zl63, zl64, zl65, zl78, zl90, zl94, zl97, zl98, zl114, zl122, zl126, zl244, zl290, zl291, zl326, zl335, zl361, zl2527, zl2888, neg1, le_T, le_F, lt_T, lt_F, eq_T, eq_F, m1_ne, m1_ne', m1_lt, m1_le, lt_m1, le_m1, cl_n, ib_T, nI_add, pk_mul, sub_n, add_m1, sub_m1, m1_1, m1_1', pw_d, st_e, st_n, vu_e, vu_n, up_e, up_n, if_true, if_false, true_or, or_true, false_or, or_false, eq_self, reduceCtorEq, not_true_eq_false, not_false_eq_true]
theorem sx_small_B {y : Int32} (h : y < nI 97 ∨ nI 122 < y) : f_X9_isSmall V y = some (nI 0, V) := by
  unfold f_X9_isSmall
  by_cases q : y < 97
  · rw [if_pos q]; rfl
  · rw [if_neg q, zl122, if_pos (h.resolve_left q)]; rfl
theorem cx_rEdit {b f : Nat} {y : Int32} (ok : OKg g) (R : RelS V g) (hb : b < bcn g) (hf : f < 8) (hy : Let y) : f_X8_refusalOfEdit V (nI b) (nI f) y = some (0, V) := by
  obtain ⟨c, c1, c2, rfl⟩ := hy
  unfold f_X8_refusalOfEdit
  simp (disch := omega) only [bd_s, bv_s, lt_d, jn_d, om_s, om_n, zl0, zl1, zl2, zl3, zl4, zl5, zl6, zl7, zl8, zl9, zl10, zl11, zl12, zl13, zl16, zl23, zl24, zl26, zl31, zl32, zl35, zl36, zl40, zl42, zl45, zl48, zl57, zl58, zl59, zl60, zl61, zl62, zl63, zl64, zl65, zl78, zl90, zl94, zl97, zl98, zl114, zl122, zl126, zl244, zl290, zl291, zl326, zl335, zl361, zl2527, zl2888, neg1, le_T, le_F, lt_T, lt_F, eq_T, eq_F, m1_ne, m1_ne', m1_lt, m1_le, lt_m1, le_m1, cl_n, ib_T, nI_add, pk_mul, sub_n, add_m1, sub_m1, m1_1, m1_1', pw_d, st_e, st_n, vu_e, vu_n, up_e, up_n, if_true, if_false, true_or, or_true, false_or, or_false, eq_self, reduceCtorEq, not_true_eq_false, not_false_eq_true, cx_hasB ok R hb, sx_isField (V := V) hf, sx_small (V := V) c1 c2]
theorem cx_rEdit_1 {a d y : Int32} (ok : OKg g) (R : RelS V g) (h : Bad a (bcn g) ∨ Bad d 8) : f_X8_refusalOfEdit V a d y = some (1, V) := by
  have h5 := ok_b5 ok
  unfold f_X8_refusalOfEdit
  rcases bad_or a (show bcn g < 2 ^ 31 by omega) with ⟨b, hb, rfl⟩ | hB
  · have q := h.resolve_left (fun q => by
      rcases q with q | q
      · rw [lt_F (by omega) (by omega)] at q; exact q
      · rw [le_F (by omega) (by omega)] at q; exact q)
    simp (disch := omega) only [bd_s, bv_s, lt_d, jn_d, om_s, om_n, zl0, zl1, zl2, zl3, zl4, zl5, zl6, zl7, zl8, zl9, zl10, zl11, zl12, zl13, zl16, zl23, zl24, zl26, zl31, zl32, zl35, zl36, zl40, zl42, zl45, zl48, zl57, zl58, zl59, zl60, zl61, zl62, zl63, zl64, zl65, zl78, zl90, zl94, zl97, zl98, zl114, zl122, zl126, zl244, zl290, zl291, zl326, zl335, zl361, zl2527, zl2888, neg1, le_T, le_F, lt_T, lt_F, eq_T, eq_F, m1_ne, m1_ne', m1_lt, m1_le, lt_m1, le_m1, cl_n, ib_T, nI_add, pk_mul, sub_n, add_m1, sub_m1, m1_1, m1_1', pw_d, st_e, st_n, vu_e, vu_n, up_e, up_n, if_true, if_false, true_or, or_true, false_or, or_false, eq_self, reduceCtorEq, not_true_eq_false, not_false_eq_true, cx_hasB ok R hb, sx_isField_B (V := V) q]
  · simp (disch := omega) only [bd_s, bv_s, lt_d, jn_d, om_s, om_n, zl0, zl1, zl2, zl3, zl4, zl5, zl6, zl7, zl8, zl9, zl10, zl11, zl12, zl13, zl16, zl23, zl24, zl26, zl31, zl32, zl35, zl36, zl40, zl42, zl45, zl48, zl57, zl58, zl59, zl60, zl61, zl62, zl63, zl64, zl65, zl78, zl90, zl94, zl97, zl98, zl114, zl122, zl126, zl244, zl290, zl291, zl326, zl335, zl361, zl2527, zl2888, neg1, le_T, le_F, lt_T, lt_F, eq_T, eq_F, m1_ne, m1_ne', m1_lt, m1_le, lt_m1, le_m1, cl_n, ib_T, nI_add, pk_mul, sub_n, add_m1, sub_m1, m1_1, m1_1', pw_d, st_e, st_n, vu_e, vu_n, up_e, up_n, if_true, if_false, true_or, or_true, false_or, or_false, eq_self, reduceCtorEq, not_true_eq_false, not_false_eq_true, cx_hasB_B ok R hB]
theorem cx_rEdit_2 {b f : Nat} {y : Int32} (ok : OKg g) (R : RelS V g) (hb : b < bcn g) (hf : f < 8) (hy : y < nI 97 ∨ nI 122 < y) : f_X8_refusalOfEdit V (nI b) (nI f) y = some (2, V) := by
  unfold f_X8_refusalOfEdit
  simp (disch := omega) only [bd_s, bv_s, lt_d, jn_d, om_s, om_n, zl0, zl1, zl2, zl3, zl4, zl5, zl6, zl7, zl8, zl9, zl10, zl11, zl12, zl13, zl16, zl23, zl24, zl26, zl31, zl32, zl35, zl36, zl40, zl42, zl45, zl48, zl57, zl58, zl59, zl60, zl61, zl62, zl63, zl64, zl65, zl78, zl90, zl94, zl97, zl98, zl114, zl122, zl126, zl244, zl290, zl291, zl326, zl335, zl361, zl2527, zl2888, neg1, le_T, le_F, lt_T, lt_F, eq_T, eq_F, m1_ne, m1_ne', m1_lt, m1_le, lt_m1, le_m1, cl_n, ib_T, nI_add, pk_mul, sub_n, add_m1, sub_m1, m1_1, m1_1', pw_d, st_e, st_n, vu_e, vu_n, up_e, up_n, if_true, if_false, true_or, or_true, false_or, or_false, eq_self, reduceCtorEq, not_true_eq_false, not_false_eq_true, cx_hasB ok R hb, sx_isField (V := V) hf, sx_small_B (V := V) hy]
theorem cx_put {b f : Nat} {y : Int32} (ok : OKg g) (R : RelS V g) (hb : b < bcn g) (hf : f < 8) (hy : Let y) : COk (f_X8_putLetter V (nI b) (nI f) y) V (nI (edn (edg g b f y) b)) (edg g b f y) := by
  have h5 := ok_b5 ok
  obtain ⟨k1, k2, k3⟩ := OK_ed ok hb hf hy
  have R2 : RelS (stv V 17 (b * 8 + f) y) (edg g b f y) := by
    unfold edg
    rw [edit_bw ok hb hf]
    refine Rel_bwp ok hb R (st_n (by omega)) (fun c h1 h2 => st_n (by omega)) (fun i hi => ?_) (fun i f' hi hf' => ?_) (st_n (by omega))
    · rw [st_n (by omega)]
      by_cases q : i = b
      · subst q; rw [if_pos rfl, rl_h R hi]; exact ok_hd ok hi
      · rw [if_neg q]
    · rw [st_e]
      by_cases q : i = b
      · subst q; rw [if_pos rfl]
        by_cases q2 : f' = f
        · subst q2; rw [if_pos rfl, up_e]
        · rw [if_neg q2, up_n (by omega), rl_w R hi hf']
      · rw [if_neg q, up_n (by omega)]
  refine ⟨stv V 17 (b * 8 + f) y, ?_, R2, fun c hc => st_n (by omega)⟩
  unfold f_X8_putLetter
  rw [rx_pw (by omega) hf, bv_s, cx_ed k1 R2 (by omega), bd_s]
theorem cx_co {b r : Nat} (ok : OKg g) (R : RelS V g) (hb : b < bcn g) (hr : r < cnt g) : ∃ V', f_X8_checkOut V (nI b) (nI r) = some V' ∧ RelS V' (bwg g b r (lrg g r)) ∧ ∀ c, 20 ≤ c → V' c = V c := by
  have h5 := ok_b5 ok
  have hc := ok_c24 ok
  refine ⟨_, rx_co (by omega) (by omega), Rel_bwp ok hb R ?_ (fun c h1 h2 => ?_) (fun i hi => ?_) (fun i f hi hf => ?_) ?_, fun c hc => ?_⟩
  · rw [vu_n (by omega), st_n (by omega)]
  · rw [vu_n (by omega), st_n (by omega)]
  · rw [vu_n (by omega), st_e]
    by_cases q : i = b
    · subst q; rw [up_e, if_pos rfl]
    · rw [up_n q, if_neg q]
  · rw [vu_e]
    by_cases q : i = b
    · subst q
      rw [fb_put_in (by omega) (by omega), if_pos rfl]
      show V 13 (r * 8 + (i * 8 + f - i * 8)) = g (2 + 12 * r + 4 + f)
      rw [← (rl_r R hr).2.2.2 f hf]
      congr 1; omega
    · rw [fb_put_out (by omega), if_neg q]
  · rw [vu_n (by omega), st_n (by omega)]
  · rw [vu_n (by omega), st_n (by omega)]
theorem cx_rRev {b : Nat} (ok : OKg g) (R : RelS V g) (hb : b < bcn g) : f_X8_refusalOfRevert V (nI b) = some (0, V) := by
  unfold f_X8_refusalOfRevert
  simp (disch := omega) only [bd_s, bv_s, lt_d, jn_d, om_s, om_n, zl0, zl1, zl2, zl3, zl4, zl5, zl6, zl7, zl8, zl9, zl10, zl11, zl12, zl13, zl16, zl23, zl24, zl26, zl31, zl32, zl35, zl36, zl40, zl42, zl45, zl48, zl57, zl58, zl59, zl60, zl61, zl62, zl63, zl64, zl65, zl78, zl90, zl94, zl97, zl98, zl114, zl122, zl126, zl244, zl290, zl291, zl326, zl335, zl361, zl2527, zl2888, neg1, le_T, le_F, lt_T, lt_F, eq_T, eq_F, m1_ne, m1_ne', m1_lt, m1_le, lt_m1, le_m1, cl_n, ib_T, nI_add, pk_mul, sub_n, add_m1, sub_m1, m1_1, m1_1', pw_d, st_e, st_n, vu_e, vu_n, up_e, up_n, if_true, if_false, true_or, or_true, false_or, or_false, eq_self, reduceCtorEq, not_true_eq_false, not_false_eq_true, cx_hasB ok R hb]
theorem cx_rRev_1 {a : Int32} (ok : OKg g) (R : RelS V g) (h : Bad a (bcn g)) : f_X8_refusalOfRevert V a = some (1, V) := by
  unfold f_X8_refusalOfRevert
  simp (disch := omega) only [bd_s, bv_s, lt_d, jn_d, om_s, om_n, zl0, zl1, zl2, zl3, zl4, zl5, zl6, zl7, zl8, zl9, zl10, zl11, zl12, zl13, zl16, zl23, zl24, zl26, zl31, zl32, zl35, zl36, zl40, zl42, zl45, zl48, zl57, zl58, zl59, zl60, zl61, zl62, zl63, zl64, zl65, zl78, zl90, zl94, zl97, zl98, zl114, zl122, zl126, zl244, zl290, zl291, zl326, zl335, zl361, zl2527, zl2888, neg1, le_T, le_F, lt_T, lt_F, eq_T, eq_F, m1_ne, m1_ne', m1_lt, m1_le, lt_m1, le_m1, cl_n, ib_T, nI_add, pk_mul, sub_n, add_m1, sub_m1, m1_1, m1_1', pw_d, st_e, st_n, vu_e, vu_n, up_e, up_n, if_true, if_false, true_or, or_true, false_or, or_false, eq_self, reduceCtorEq, not_true_eq_false, not_false_eq_true, cx_hasB_B ok R h]
theorem cx_drop {b : Nat} (ok : OKg g) (R : RelS V g) (hb : b < bcn g) : COk (f_X8_dropEdits V (nI b)) V (nI (edn g b)) (bwg g b (hd g b) (lrg g (hd g b))) := by
  obtain ⟨V', e, R2, F⟩ := cx_co ok R hb (ok_hc ok hb)
  refine ⟨V', ?_, R2, F⟩
  unfold f_X8_dropEdits
  rw [cx_ed ok R hb, bd_s, cx_hd ok R hb, bd_s, e, bv_s]
theorem cx_rRes {b r : Nat} (ok : OKg g) (R : RelS V g) (hb : b < bcn g) (hr : r < cnt g) (ha : ¬ arc g r) (he : edn g b = 0) : f_X8_refusalOfReset V (nI b) (nI r) = some (0, V) := by
  unfold f_X8_refusalOfReset
  simp (disch := omega) only [bd_s, bv_s, lt_d, jn_d, om_s, om_n, zl0, zl1, zl2, zl3, zl4, zl5, zl6, zl7, zl8, zl9, zl10, zl11, zl12, zl13, zl16, zl23, zl24, zl26, zl31, zl32, zl35, zl36, zl40, zl42, zl45, zl48, zl57, zl58, zl59, zl60, zl61, zl62, zl63, zl64, zl65, zl78, zl90, zl94, zl97, zl98, zl114, zl122, zl126, zl244, zl290, zl291, zl326, zl335, zl361, zl2527, zl2888, neg1, le_T, le_F, lt_T, lt_F, eq_T, eq_F, m1_ne, m1_ne', m1_lt, m1_le, lt_m1, le_m1, cl_n, ib_T, nI_add, pk_mul, sub_n, add_m1, sub_m1, m1_1, m1_1', pw_d, st_e, st_n, vu_e, vu_n, up_e, up_n, if_true, if_false, true_or, or_true, false_or, or_false, eq_self, reduceCtorEq, not_true_eq_false, not_false_eq_true, cx_hasB ok R hb, cx_open ok R hr ha, cx_ed ok R hb, he]
theorem cx_rRes_1 {a d : Int32} (ok : OKg g) (R : RelS V g) (h : Bad a (bcn g)) : f_X8_refusalOfReset V a d = some (1, V) := by
  unfold f_X8_refusalOfReset
  simp (disch := omega) only [bd_s, bv_s, lt_d, jn_d, om_s, om_n, zl0, zl1, zl2, zl3, zl4, zl5, zl6, zl7, zl8, zl9, zl10, zl11, zl12, zl13, zl16, zl23, zl24, zl26, zl31, zl32, zl35, zl36, zl40, zl42, zl45, zl48, zl57, zl58, zl59, zl60, zl61, zl62, zl63, zl64, zl65, zl78, zl90, zl94, zl97, zl98, zl114, zl122, zl126, zl244, zl290, zl291, zl326, zl335, zl361, zl2527, zl2888, neg1, le_T, le_F, lt_T, lt_F, eq_T, eq_F, m1_ne, m1_ne', m1_lt, m1_le, lt_m1, le_m1, cl_n, ib_T, nI_add, pk_mul, sub_n, add_m1, sub_m1, m1_1, m1_1', pw_d, st_e, st_n, vu_e, vu_n, up_e, up_n, if_true, if_false, true_or, or_true, false_or, or_false, eq_self, reduceCtorEq, not_true_eq_false, not_false_eq_true, cx_hasB_B ok R h]
def Nop (g : Arr) (d : Int32) : Prop := Bad d (cnt g) ∨ ∃ r, d = nI r ∧ r < cnt g ∧ arc g r
theorem cx_nop {d : Int32} (ok : OKg g) (R : RelS V g) (h : Nop g d) : f_X6_isOpen V d = some (nI 0, V) := by
  rcases h with h | ⟨r, rfl, h1, h2⟩
  · exact cx_open_B ok R h
  · exact cx_open_A ok R h1 h2
theorem cx_rRes_2 {b : Nat} {d : Int32} (ok : OKg g) (R : RelS V g) (hb : b < bcn g) (h : Nop g d) : f_X8_refusalOfReset V (nI b) d = some (3, V) := by
  unfold f_X8_refusalOfReset
  simp (disch := omega) only [bd_s, bv_s, lt_d, jn_d, om_s, om_n, zl0, zl1, zl2, zl3, zl4, zl5, zl6, zl7, zl8, zl9, zl10, zl11, zl12, zl13, zl16, zl23, zl24, zl26, zl31, zl32, zl35, zl36, zl40, zl42, zl45, zl48, zl57, zl58, zl59, zl60, zl61, zl62, zl63, zl64, zl65, zl78, zl90, zl94, zl97, zl98, zl114, zl122, zl126, zl244, zl290, zl291, zl326, zl335, zl361, zl2527, zl2888, neg1, le_T, le_F, lt_T, lt_F, eq_T, eq_F, m1_ne, m1_ne', m1_lt, m1_le, lt_m1, le_m1, cl_n, ib_T, nI_add, pk_mul, sub_n, add_m1, sub_m1, m1_1, m1_1', pw_d, st_e, st_n, vu_e, vu_n, up_e, up_n, if_true, if_false, true_or, or_true, false_or, or_false, eq_self, reduceCtorEq, not_true_eq_false, not_false_eq_true, cx_hasB ok R hb, cx_nop ok R h]
theorem cx_rRes_3 {b r : Nat} (ok : OKg g) (R : RelS V g) (hb : b < bcn g) (hr : r < cnt g) (ha : ¬ arc g r) (he : 0 < edn g b) : f_X8_refusalOfReset V (nI b) (nI r) = some (4, V) := by
  have h8 : edn g b ≤ 8 := fb_ct_le _ 8
  unfold f_X8_refusalOfReset
  simp (disch := omega) only [bd_s, bv_s, lt_d, jn_d, om_s, om_n, zl0, zl1, zl2, zl3, zl4, zl5, zl6, zl7, zl8, zl9, zl10, zl11, zl12, zl13, zl16, zl23, zl24, zl26, zl31, zl32, zl35, zl36, zl40, zl42, zl45, zl48, zl57, zl58, zl59, zl60, zl61, zl62, zl63, zl64, zl65, zl78, zl90, zl94, zl97, zl98, zl114, zl122, zl126, zl244, zl290, zl291, zl326, zl335, zl361, zl2527, zl2888, neg1, le_T, le_F, lt_T, lt_F, eq_T, eq_F, m1_ne, m1_ne', m1_lt, m1_le, lt_m1, le_m1, cl_n, ib_T, nI_add, pk_mul, sub_n, add_m1, sub_m1, m1_1, m1_1', pw_d, st_e, st_n, vu_e, vu_n, up_e, up_n, if_true, if_false, true_or, or_true, false_or, or_false, eq_self, reduceCtorEq, not_true_eq_false, not_false_eq_true, cx_hasB ok R hb, cx_open ok R hr ha, cx_ed ok R hb]
theorem cx_move {b r : Nat} (ok : OKg g) (R : RelS V g) (hb : b < bcn g) (hr : r < cnt g) : COk (f_X8_moveHead V (nI b) (nI r)) V (nI (hd g b)) (bwg g b r (lrg g r)) := by
  obtain ⟨V', e, R2, F⟩ := cx_co ok R hb hr
  refine ⟨V', ?_, R2, F⟩
  unfold f_X8_moveHead
  rw [cx_hd ok R hb, bd_s, e, bv_s]
/-! branches -/
theorem cx_rBra {r : Nat} (ok : OKg g) (R : RelS V g) (hr : r < cnt g) (ha : ¬ arc g r) (hn : bcn g < 5) : f_X8_refusalOfBranching V (nI r) = some (0, V) := by
  unfold f_X8_refusalOfBranching
  simp (disch := omega) only [bd_s, bv_s, lt_d, jn_d, om_s, om_n, zl0, zl1, zl2, zl3, zl4, zl5, zl6, zl7, zl8, zl9, zl10, zl11, zl12, zl13, zl16, zl23, zl24, zl26, zl31, zl32, zl35, zl36, zl40, zl42, zl45, zl48, zl57, zl58, zl59, zl60, zl61, zl62, zl63, zl64, zl65, zl78, zl90, zl94, zl97, zl98, zl114, zl122, zl126, zl244, zl290, zl291, zl326, zl335, zl361, zl2527, zl2888, neg1, le_T, le_F, lt_T, lt_F, eq_T, eq_F, m1_ne, m1_ne', m1_lt, m1_le, lt_m1, le_m1, cl_n, ib_T, nI_add, pk_mul, sub_n, add_m1, sub_m1, m1_1, m1_1', pw_d, st_e, st_n, vu_e, vu_n, up_e, up_n, if_true, if_false, true_or, or_true, false_or, or_false, eq_self, reduceCtorEq, not_true_eq_false, not_false_eq_true, cx_open ok R hr ha, rl_b R, ok_bcn ok]
theorem cx_rBra_1 {d : Int32} (ok : OKg g) (R : RelS V g) (h : Nop g d) : f_X8_refusalOfBranching V d = some (3, V) := by
  unfold f_X8_refusalOfBranching
  simp (disch := omega) only [bd_s, bv_s, lt_d, jn_d, om_s, om_n, zl0, zl1, zl2, zl3, zl4, zl5, zl6, zl7, zl8, zl9, zl10, zl11, zl12, zl13, zl16, zl23, zl24, zl26, zl31, zl32, zl35, zl36, zl40, zl42, zl45, zl48, zl57, zl58, zl59, zl60, zl61, zl62, zl63, zl64, zl65, zl78, zl90, zl94, zl97, zl98, zl114, zl122, zl126, zl244, zl290, zl291, zl326, zl335, zl361, zl2527, zl2888, neg1, le_T, le_F, lt_T, lt_F, eq_T, eq_F, m1_ne, m1_ne', m1_lt, m1_le, lt_m1, le_m1, cl_n, ib_T, nI_add, pk_mul, sub_n, add_m1, sub_m1, m1_1, m1_1', pw_d, st_e, st_n, vu_e, vu_n, up_e, up_n, if_true, if_false, true_or, or_true, false_or, or_false, eq_self, reduceCtorEq, not_true_eq_false, not_false_eq_true, cx_nop ok R h]
theorem cx_rBra_2 {r : Nat} (ok : OKg g) (R : RelS V g) (hr : r < cnt g) (ha : ¬ arc g r) (hn : bcn g = 5) : f_X8_refusalOfBranching V (nI r) = some (4, V) := by
  have e := ok_bcn ok
  rw [hn] at e
  unfold f_X8_refusalOfBranching
  simp (disch := omega) only [bd_s, bv_s, lt_d, jn_d, om_s, om_n, zl0, zl1, zl2, zl3, zl4, zl5, zl6, zl7, zl8, zl9, zl10, zl11, zl12, zl13, zl16, zl23, zl24, zl26, zl31, zl32, zl35, zl36, zl40, zl42, zl45, zl48, zl57, zl58, zl59, zl60, zl61, zl62, zl63, zl64, zl65, zl78, zl90, zl94, zl97, zl98, zl114, zl122, zl126, zl244, zl290, zl291, zl326, zl335, zl361, zl2527, zl2888, neg1, le_T, le_F, lt_T, lt_F, eq_T, eq_F, m1_ne, m1_ne', m1_lt, m1_le, lt_m1, le_m1, cl_n, ib_T, nI_add, pk_mul, sub_n, add_m1, sub_m1, m1_1, m1_1', pw_d, st_e, st_n, vu_e, vu_n, up_e, up_n, if_true, if_false, true_or, or_true, false_or, or_false, eq_self, reduceCtorEq, not_true_eq_false, not_false_eq_true, cx_open ok R hr ha, rl_b R, e]
theorem cx_opn {r : Nat} (ok : OKg g) (R : RelS V g) (hr : r < cnt g) (hn : bcn g < 5) : COk (f_X8_openBranch V (nI r)) V (nI (bcn g)) (opg g r) := by
  have hc := ok_c24 ok
  refine ⟨va_up (stv (stv V 0 0 (nI (bcn g + 1))) 15 (bcn g) (nI r)) 17 (fb_put (V 17) (fun f => V 13 (r * 8 + f)) (bcn g * 8) 8), ?_, Rel_op ok hn hr R ?_ (fun c h1 h2 => ?_) ?_ ?_ ?_, fun c hc => ?_⟩
  · unfold f_X8_openBranch
    simp (disch := omega) only [bd_s, bv_s, lt_d, jn_d, om_s, om_n, zl0, zl1, zl2, zl3, zl4, zl5, zl6, zl7, zl8, zl9, zl10, zl11, zl12, zl13, zl16, zl23, zl24, zl26, zl31, zl32, zl35, zl36, zl40, zl42, zl45, zl48, zl57, zl58, zl59, zl60, zl61, zl62, zl63, zl64, zl65, zl78, zl90, zl94, zl97, zl98, zl114, zl122, zl126, zl244, zl290, zl291, zl326, zl335, zl361, zl2527, zl2888, neg1, le_T, le_F, lt_T, lt_F, eq_T, eq_F, m1_ne, m1_ne', m1_lt, m1_le, lt_m1, le_m1, cl_n, ib_T, nI_add, pk_mul, sub_n, add_m1, sub_m1, m1_1, m1_1', pw_d, st_e, st_n, vu_e, vu_n, up_e, up_n, if_true, if_false, true_or, or_true, false_or, or_false, eq_self, reduceCtorEq, not_true_eq_false, not_false_eq_true, rl_b R, ok_bcn ok, rx_co (V := stv V 0 0 (nI (bcn g + 1))) hn (show r < 24 by omega)]
  · rw [vu_n (by omega), st_n (by omega), st_e, up_e]
  · rw [vu_n (by omega), st_n (by omega), st_n (by omega)]
  · rw [vu_n (by omega), st_e, st_n (by omega)]
  · rw [vu_e]
  · rw [vu_n (by omega), st_n (by omega), st_n (by omega)]
  · rw [vu_n (by omega), st_n (by omega), st_n (by omega)]
theorem cx_rCl {b : Nat} (ok : OKg g) (R : RelS V g) (hb : b < bcn g) (hn : 1 < bcn g) : f_X8_refusalOfClosing V (nI b) = some (0, V) := by
  have h5 := ok_b5 ok
  unfold f_X8_refusalOfClosing
  simp (disch := omega) only [bd_s, bv_s, lt_d, jn_d, om_s, om_n, zl0, zl1, zl2, zl3, zl4, zl5, zl6, zl7, zl8, zl9, zl10, zl11, zl12, zl13, zl16, zl23, zl24, zl26, zl31, zl32, zl35, zl36, zl40, zl42, zl45, zl48, zl57, zl58, zl59, zl60, zl61, zl62, zl63, zl64, zl65, zl78, zl90, zl94, zl97, zl98, zl114, zl122, zl126, zl244, zl290, zl291, zl326, zl335, zl361, zl2527, zl2888, neg1, le_T, le_F, lt_T, lt_F, eq_T, eq_F, m1_ne, m1_ne', m1_lt, m1_le, lt_m1, le_m1, cl_n, ib_T, nI_add, pk_mul, sub_n, add_m1, sub_m1, m1_1, m1_1', pw_d, st_e, st_n, vu_e, vu_n, up_e, up_n, if_true, if_false, true_or, or_true, false_or, or_false, eq_self, reduceCtorEq, not_true_eq_false, not_false_eq_true, cx_hasB ok R hb, rl_b R, ok_bcn ok]
theorem cx_rCl_1 {a : Int32} (ok : OKg g) (R : RelS V g) (h : Bad a (bcn g)) : f_X8_refusalOfClosing V a = some (1, V) := by
  unfold f_X8_refusalOfClosing
  simp (disch := omega) only [bd_s, bv_s, lt_d, jn_d, om_s, om_n, zl0, zl1, zl2, zl3, zl4, zl5, zl6, zl7, zl8, zl9, zl10, zl11, zl12, zl13, zl16, zl23, zl24, zl26, zl31, zl32, zl35, zl36, zl40, zl42, zl45, zl48, zl57, zl58, zl59, zl60, zl61, zl62, zl63, zl64, zl65, zl78, zl90, zl94, zl97, zl98, zl114, zl122, zl126, zl244, zl290, zl291, zl326, zl335, zl361, zl2527, zl2888, neg1, le_T, le_F, lt_T, lt_F, eq_T, eq_F, m1_ne, m1_ne', m1_lt, m1_le, lt_m1, le_m1, cl_n, ib_T, nI_add, pk_mul, sub_n, add_m1, sub_m1, m1_1, m1_1', pw_d, st_e, st_n, vu_e, vu_n, up_e, up_n, if_true, if_false, true_or, or_true, false_or, or_false, eq_self, reduceCtorEq, not_true_eq_false, not_false_eq_true, cx_hasB_B ok R h]
theorem cx_rCl_2 {b : Nat} (ok : OKg g) (R : RelS V g) (hb : b < bcn g) (hn : bcn g = 1) : f_X8_refusalOfClosing V (nI b) = some (4, V) := by
  have e := ok_bcn ok
  rw [hn] at e
  unfold f_X8_refusalOfClosing
  simp (disch := omega) only [bd_s, bv_s, lt_d, jn_d, om_s, om_n, zl0, zl1, zl2, zl3, zl4, zl5, zl6, zl7, zl8, zl9, zl10, zl11, zl12, zl13, zl16, zl23, zl24, zl26, zl31, zl32, zl35, zl36, zl40, zl42, zl45, zl48, zl57, zl58, zl59, zl60, zl61, zl62, zl63, zl64, zl65, zl78, zl90, zl94, zl97, zl98, zl114, zl122, zl126, zl244, zl290, zl291, zl326, zl335, zl361, zl2527, zl2888, neg1, le_T, le_F, lt_T, lt_F, eq_T, eq_F, m1_ne, m1_ne', m1_lt, m1_le, lt_m1, le_m1, cl_n, ib_T, nI_add, pk_mul, sub_n, add_m1, sub_m1, m1_1, m1_1', pw_d, st_e, st_n, vu_e, vu_n, up_e, up_n, if_true, if_false, true_or, or_true, false_or, or_false, eq_self, reduceCtorEq, not_true_eq_false, not_false_eq_true, cx_hasB ok R hb, rl_b R, e]
def h15 (H : Arr) (b k : Nat) : Arr := fun i => if b ≤ i ∧ i < k then H (i + 1) else H i
def w17 (H : Arr) (b k : Nat) : Arr := fun j => if b * 8 ≤ j ∧ j < k * 8 then H (j + 8) else H j
theorem h15_s {H : Arr} {b k : Nat} (h : b ≤ k) : upd (h15 H b k) k (H (k + 1)) = h15 H b (k + 1) := by
  funext i
  unfold h15
  by_cases e : i = k
  · subst e; rw [up_e, if_pos (by omega)]
  · rw [up_n e]
    by_cases q : b ≤ i ∧ i < k
    · rw [if_pos q, if_pos (by omega)]
    · rw [if_neg q, if_neg (by omega)]
theorem w17_s {H : Arr} {b k : Nat} (h : b ≤ k) : fb_put (w17 H b k) (fun f => H ((k + 1) * 8 + f)) (k * 8) 8 = w17 H b (k + 1) := by
  funext j
  by_cases e : k * 8 ≤ j ∧ j < k * 8 + 8
  · rw [fb_put_in e.1 e.2]
    unfold w17
    rw [if_pos (by omega)]
    show H _ = H _
    congr 1; omega
  · rw [fb_put_out (by omega)]
    unfold w17
    by_cases q : b * 8 ≤ j ∧ j < k * 8
    · rw [if_pos q, if_pos (by omega)]
    · rw [if_neg q, if_neg (by omega)]
theorem cx_cls {b : Nat} (ok : OKg g) (R : RelS V g) (hb : b < bcn g) (hn : 1 < bcn g) : COk (f_X8_dropBranch V (nI b)) V (nI (bcn g - 1)) (clg g b) := by
  have h5 := ok_b5 ok
  refine ⟨va_up (va_up (stv V 0 0 (nI (bcn g - 1))) 15 (h15 (V 15) b (bcn g - 1))) 17 (w17 (V 17) b (bcn g - 1)), ?_, Rel_cl ok hb hn R ?_ (fun c h1 h2 => ?_) (fun k hk => ?_) (fun k f hk hf => ?_) ?_, fun c hc => ?_⟩
  · unfold f_X8_dropBranch
    simp (disch := omega) only [bd_s, bv_s, lt_d, jn_d, om_s, om_n, zl0, zl1, zl2, zl3, zl4, zl5, zl6, zl7, zl8, zl9, zl10, zl11, zl12, zl13, zl16, zl23, zl24, zl26, zl31, zl32, zl35, zl36, zl40, zl42, zl45, zl48, zl57, zl58, zl59, zl60, zl61, zl62, zl63, zl64, zl65, zl78, zl90, zl94, zl97, zl98, zl114, zl122, zl126, zl244, zl290, zl291, zl326, zl335, zl361, zl2527, zl2888, neg1, le_T, le_F, lt_T, lt_F, eq_T, eq_F, m1_ne, m1_ne', m1_lt, m1_le, lt_m1, le_m1, cl_n, ib_T, nI_add, pk_mul, sub_n, add_m1, sub_m1, m1_1, m1_1', pw_d, st_e, st_n, vu_e, vu_n, up_e, up_n, if_true, if_false, true_or, or_true, false_or, or_false, eq_self, reduceCtorEq, not_true_eq_false, not_false_eq_true, rl_b R, ok_bcn ok]
    have e0 : stv V 0 0 (nI (bcn g - 1)) = va_up (va_up (stv V 0 0 (nI (bcn g - 1))) 15 (h15 (V 15) b b)) 17 (w17 (V 17) b b) := by
      have z1 : h15 (V 15) b b = V 15 := by funext i; unfold h15; rw [if_neg (by omega)]
      have z2 : w17 (V 17) b b = V 17 := by funext i; unfold w17; rw [if_neg (by omega)]
      rw [z1, z2, vu_id' (st_n (V := V) (c := 0) (d := 15) (by omega)).symm, vu_id' (st_n (V := V) (c := 0) (d := 17) (by omega)).symm]
    have L : ∀ (j : Mem → Option (Int32 × Mem)), f_X8_dropBranch_L12 j FU (stv V 0 0 (nI (bcn g - 1))) (nI b) = j (va_up (va_up (stv V 0 0 (nI (bcn g - 1))) 15 (h15 (V 15) b (bcn g - 1))) 17 (w17 (V 17) b (bcn g - 1))) := by
      intro j
      refine Eq.trans (congrArg (fun W => f_X8_dropBranch_L12 j FU W (nI b)) e0) ?_
      refine lp_up (bcn g - 1) (fun n k => b ≤ k → f_X8_dropBranch_L12 j n (va_up (va_up (stv V 0 0 (nI (bcn g - 1))) 15 (h15 (V 15) b k)) 17 (w17 (V 17) b k)) (nI k) = j (va_up (va_up (stv V 0 0 (nI (bcn g - 1))) 15 (h15 (V 15) b (bcn g - 1))) 17 (w17 (V 17) b (bcn g - 1)))) ?_ ?_ FU b (by omega) (by unfold FU; omega) (Nat.le_refl _)
      · intro n _
        rw [f_X8_dropBranch_L12.eq_2]
        simp (disch := omega) only [bd_s, bv_s, lt_d, jn_d, om_s, om_n, zl0, zl1, zl2, zl3, zl4, zl5, zl6, zl7, zl8, zl9, zl10, zl11, zl12, zl13, zl16, zl23, zl24, zl26, zl31, zl32, zl35, zl36, zl40, zl42, zl45, zl48, zl57, zl58, zl59, zl60, zl61, zl62, zl63, zl64, zl65, zl78, zl90, zl94, zl97, zl98, zl114, zl122, zl126, zl244, zl290, zl291, zl326, zl335, zl361, zl2527, zl2888, neg1, le_T, le_F, lt_T, lt_F, eq_T, eq_F, m1_ne, m1_ne', m1_lt, m1_le, lt_m1, le_m1, cl_n, ib_T, nI_add, pk_mul, sub_n, add_m1, sub_m1, m1_1, m1_1', pw_d, st_e, st_n, vu_e, vu_n, up_e, up_n, if_true, if_false, true_or, or_true, false_or, or_false, eq_self, reduceCtorEq, not_true_eq_false, not_false_eq_true]
      · intro n k hk ih h1
        rw [f_X8_dropBranch_L12.eq_2]
        have ih := ih (by omega)
        rw [← h15_s h1, ← w17_s h1] at ih
        have q15 : h15 (V 15) b k (k + 1) = V 15 (k + 1) := by unfold h15; rw [if_neg (by omega)]
        have q17 : ∀ f, f < 8 → w17 (V 17) b k ((k + 1) * 8 + f) = V 17 ((k + 1) * 8 + f) := fun f hf => by unfold w17; rw [if_neg (by omega)]
        generalize h15 (V 15) b k = A at *
        generalize w17 (V 17) b k = B at *
        -- the letters
        have I : ∀ (j2 : Mem → Option (Int32 × Mem)) (A2 : Arr), f_X8_dropBranch_L37 (nI k) j2 FU (va_up (va_up (stv V 0 0 (nI (bcn g - 1))) 15 A2) 17 B) (nI 0) = j2 (va_up (va_up (stv V 0 0 (nI (bcn g - 1))) 15 A2) 17 (fb_put B (fun f => V 17 ((k + 1) * 8 + f)) (k * 8) 8)) := by
          intro j2 A2
          refine Eq.trans (congrArg (fun X => f_X8_dropBranch_L37 (nI k) j2 FU (va_up (va_up (stv V 0 0 (nI (bcn g - 1))) 15 A2) 17 X) (nI 0)) (fb_put_0 B (fun f => V 17 ((k + 1) * 8 + f)) (k * 8)).symm) ?_
          refine lp_run 8 (fun n i => f_X8_dropBranch_L37 (nI k) j2 n (va_up (va_up (stv V 0 0 (nI (bcn g - 1))) 15 A2) 17 (fb_put B (fun f => V 17 ((k + 1) * 8 + f)) (k * 8) i)) (nI i)) _ ?_ ?_ (n := FU) (k := 0) (by omega) (by decide)
          · intro n
            rw [f_X8_dropBranch_L37.eq_2]
            simp (disch := omega) only [bd_s, bv_s, lt_d, jn_d, om_s, om_n, zl0, zl1, zl2, zl3, zl4, zl5, zl6, zl7, zl8, zl9, zl10, zl11, zl12, zl13, zl16, zl23, zl24, zl26, zl31, zl32, zl35, zl36, zl40, zl42, zl45, zl48, zl57, zl58, zl59, zl60, zl61, zl62, zl63, zl64, zl65, zl78, zl90, zl94, zl97, zl98, zl114, zl122, zl126, zl244, zl290, zl291, zl326, zl335, zl361, zl2527, zl2888, neg1, le_T, le_F, lt_T, lt_F, eq_T, eq_F, m1_ne, m1_ne', m1_lt, m1_le, lt_m1, le_m1, cl_n, ib_T, nI_add, pk_mul, sub_n, add_m1, sub_m1, m1_1, m1_1', pw_d, st_e, st_n, vu_e, vu_n, up_e, up_n, if_true, if_false, true_or, or_true, false_or, or_false, eq_self, reduceCtorEq, not_true_eq_false, not_false_eq_true]
          · intro n i hi
            rw [f_X8_dropBranch_L37.eq_2]
            have z : fb_put B (fun f => V 17 ((k + 1) * 8 + f)) (k * 8) i ((k + 1) * 8 + i) = V 17 ((k + 1) * 8 + i) := by rw [fb_put_out (by omega)]; exact q17 i hi
            simp (disch := omega) only [bd_s, bv_s, lt_d, jn_d, om_s, om_n, zl0, zl1, zl2, zl3, zl4, zl5, zl6, zl7, zl8, zl9, zl10, zl11, zl12, zl13, zl16, zl23, zl24, zl26, zl31, zl32, zl35, zl36, zl40, zl42, zl45, zl48, zl57, zl58, zl59, zl60, zl61, zl62, zl63, zl64, zl65, zl78, zl90, zl94, zl97, zl98, zl114, zl122, zl126, zl244, zl290, zl291, zl326, zl335, zl361, zl2527, zl2888, neg1, le_T, le_F, lt_T, lt_F, eq_T, eq_F, m1_ne, m1_ne', m1_lt, m1_le, lt_m1, le_m1, cl_n, ib_T, nI_add, pk_mul, sub_n, add_m1, sub_m1, m1_1, m1_1', pw_d, st_e, st_n, vu_e, vu_n, up_e, up_n, if_true, if_false, true_or, or_true, false_or, or_false, eq_self, reduceCtorEq, not_true_eq_false, not_false_eq_true, rx_wk (V := va_up (va_up (stv V 0 0 (nI (bcn g - 1))) 15 A2) 17 (fb_put B (fun f => V 17 ((k + 1) * 8 + f)) (k * 8) i)) (show k + 1 < 5 by omega) hi, z, rx_pw (V := va_up (va_up (stv V 0 0 (nI (bcn g - 1))) 15 A2) 17 (fb_put B (fun f => V 17 ((k + 1) * 8 + f)) (k * 8) i)) (show k < 5 by omega) hi, bv_s, st_v2]
            rw [← fb_put_succ]
        have st15 : ∀ x, stv (va_up (va_up (stv V 0 0 (nI (bcn g - 1))) 15 A) 17 B) 15 k x = va_up (va_up (stv V 0 0 (nI (bcn g - 1))) 15 (upd A k x)) 17 B := fun x => by
          funext c
          by_cases e1 : c = 15
          · subst e1; rw [st_e, vu_n (by omega), vu_e, vu_n (by omega), vu_e]
          · rw [st_n e1]
            by_cases e2 : c = 17
            · subst e2; rw [vu_e, vu_e]
            · rw [vu_n e2, vu_n e1, vu_n e2, vu_n e1]
        simp (disch := omega) only [bd_s, bv_s, lt_d, jn_d, om_s, om_n, zl0, zl1, zl2, zl3, zl4, zl5, zl6, zl7, zl8, zl9, zl10, zl11, zl12, zl13, zl16, zl23, zl24, zl26, zl31, zl32, zl35, zl36, zl40, zl42, zl45, zl48, zl57, zl58, zl59, zl60, zl61, zl62, zl63, zl64, zl65, zl78, zl90, zl94, zl97, zl98, zl114, zl122, zl126, zl244, zl290, zl291, zl326, zl335, zl361, zl2527, zl2888, neg1, le_T, le_F, lt_T, lt_F, eq_T, eq_F, m1_ne, m1_ne', m1_lt, m1_le, lt_m1, le_m1, cl_n, ib_T, nI_add, pk_mul, sub_n, add_m1, sub_m1, m1_1, m1_1', pw_d, st_e, st_n, vu_e, vu_n, up_e, up_n, if_true, if_false, true_or, or_true, false_or, or_false, eq_self, reduceCtorEq, not_true_eq_false, not_false_eq_true, rx_hd (V := va_up (va_up (stv V 0 0 (nI (bcn g - 1))) 15 A) 17 B) (show k + 1 < 5 by omega), q15, sx_set (V := va_up (va_up (stv V 0 0 (nI (bcn g - 1))) 15 A) 17 B) (i := 14) (N := 5) (show k < 5 by omega) (by omega), bv_s, st15, I]
        exact ih
    simp (disch := omega) only [bd_s, bv_s, lt_d, jn_d, om_s, om_n, zl0, zl1, zl2, zl3, zl4, zl5, zl6, zl7, zl8, zl9, zl10, zl11, zl12, zl13, zl16, zl23, zl24, zl26, zl31, zl32, zl35, zl36, zl40, zl42, zl45, zl48, zl57, zl58, zl59, zl60, zl61, zl62, zl63, zl64, zl65, zl78, zl90, zl94, zl97, zl98, zl114, zl122, zl126, zl244, zl290, zl291, zl326, zl335, zl361, zl2527, zl2888, neg1, le_T, le_F, lt_T, lt_F, eq_T, eq_F, m1_ne, m1_ne', m1_lt, m1_le, lt_m1, le_m1, cl_n, ib_T, nI_add, pk_mul, sub_n, add_m1, sub_m1, m1_1, m1_1', pw_d, st_e, st_n, vu_e, vu_n, up_e, up_n, if_true, if_false, true_or, or_true, false_or, or_false, eq_self, reduceCtorEq, not_true_eq_false, not_false_eq_true, L]
  · rw [vu_n (by omega), vu_n (by omega), st_e, up_e]
  · rw [vu_n (by omega), vu_n (by omega), st_n (by omega)]
  · rw [vu_n (by omega), vu_e]
    unfold h15
    by_cases q : b ≤ k
    · rw [if_pos ⟨q, hk⟩, if_pos q]
    · rw [if_neg (by omega), if_neg q]
  · rw [vu_e]
    unfold w17
    by_cases q : b ≤ k
    · rw [if_pos (by omega), if_pos q]; congr 1; omega
    · rw [if_neg (by omega), if_neg q]
  · rw [vu_n (by omega), vu_n (by omega), st_n (by omega)]
  · rw [vu_n (by omega), vu_n (by omega), st_n (by omega)]
end CM
