/-! PURE, 28: what the reference's changes do -/
theorem scr_vu {V : Mem} {h k f : Arr} : va_up (scr V h k) 254 f = scr (va_up V 254 f) h k := by
  funext c; by_cases e : c = 254
  · subst e; rw [vu_e]; rfl
  · rw [vu_n e]; unfold scr; rw [vu_n e]
theorem scr_s253 {V : Mem} {h k : Arr} {j : Nat} {x : Int32} : stv (scr V h k) 253 j x = scr (stv V 253 j x) h k := by
  funext c; by_cases e : c = 253
  · subst e; rw [st_e]; unfold scr; rw [if_neg (by omega), if_neg (by omega), if_neg (by omega), if_neg (by omega), st_e]
  · rw [st_n e]; unfold scr; rw [st_n e]
def MOk (o : Option (Int32 × Mem)) (V : Mem) (r : Int32) (g' : Arr) : Prop := ∃ h k, o = some (r, scr (va_up V 254 g') h k)
def MNo (o : Option (Int32 × Mem)) (V : Mem) (c : Nat) : Prop := ∃ h k r, o = some (r, scr (stv V 253 4 (nI c)) h k)
theorem MOk.of {o : Option (Int32 × Mem)} {V : Mem} {r : Int32} {g' : Arr} (h : o = some (r, va_up V 254 g')) : MOk o V r g' := by
  refine ⟨V 259, V 260, ?_⟩
  have e : scr (va_up V 254 g') (V 259) (V 260) = va_up V 254 g' := scr_id (V := va_up V 254 g')
  rw [e]; exact h
theorem MNo.of {o : Option (Int32 × Mem)} {V : Mem} {c : Nat} {r : Int32} (h : o = some (r, stv V 253 4 (nI c))) : MNo o V c := by
  refine ⟨V 259, V 260, r, ?_⟩
  have e : scr (stv V 253 4 (nI c)) (V 259) (V 260) = stv V 253 4 (nI c) := scr_id (V := stv V 253 4 (nI c))
  rw [e]; exact h
theorem MOk.sc {o : Option (Int32 × Mem)} {V : Mem} {h k : Arr} {r : Int32} {g' : Arr} (q : MOk o (scr V h k) r g') : MOk o V r g' := by
  obtain ⟨h1, k1, e⟩ := q
  exact ⟨h1, k1, by rw [e, scr_vu, scr_scr]⟩
theorem MNo.sc {o : Option (Int32 × Mem)} {V : Mem} {h k : Arr} {c : Nat} (q : MNo o (scr V h k) c) : MNo o V c := by
  obtain ⟨h1, k1, r, e⟩ := q
  exact ⟨h1, k1, r, by rw [e, scr_s253, scr_scr]⟩
/-! agreement, once more -/
theorem hd_agr {g g' : Arr} (A : Agr g g') {b : Nat} (hb : b < 5) : hd g' b = hd g b := by unfold hd; rw [A.2.2.2 _ (by omega) (by omega)]
theorem Ag_agr {g g' : Arr} (A : Agr g g') {r : Nat} (hr : r < cnt g) : Ag g' r = Ag g r := Ag_cong (fun i hi => ⟨A.2.2.1 _ (by omega) (by omega), A.2.2.1 _ (by omega) (by omega)⟩)
theorem com_agr {g g' : Arr} (A : Agr g g') {a b : Nat} (ha : a < cnt g) (hb : b < cnt g) : com g' a b = com g a b := by unfold com; rw [Ag_agr A ha, Ag_agr A hb]
theorem mgl_agr {g g' : Arr} (ok : OKg g) (A : Agr g g') {b o f : Nat} (hb : b < bcn g) (ho : o < bcn g) (hf : f < 8) : mgl g' b o f = mgl g b o f := by
  have h5 := ok_b5 ok
  have h1 := ok_hc ok hb
  have h2 := ok_hc ok ho
  have h3 := com_lt ok h1 h2
  unfold mgl
  rw [hd_agr A (show b < 5 by omega), hd_agr A (show o < 5 by omega), com_agr A h1 h2, A.2.2.1 _ (by omega) (show 2 + 12 * hd g b + 4 + f < 2 + 12 * cnt g by omega), A.2.2.1 _ (by omega) (show 2 + 12 * hd g o + 4 + f < 2 + 12 * cnt g by omega), A.2.2.1 _ (by omega) (show 2 + 12 * com g (hd g b) (hd g o) + 4 + f < 2 + 12 * cnt g by omega)]
section MM
variable {V : Mem}
/-! edit -/
theorem edit_bw {g : Arr} (ok : OKg g) {b f : Nat} {y : Int32} (hb : b < bcn g) (hf : f < 8) : upd g (290 + 9 * b + 1 + f) y = bwg g b (hd g b) (fun f' => if f' = f then y else g (290 + 9 * b + 1 + f')) := by
  funext j
  by_cases e : j = 290 + 9 * b + 1 + f
  · subst e; rw [up_e, bwg_l hf, if_pos rfl]
  · rw [up_n e]
    unfold bwg
    by_cases e1 : j = 290 + 9 * b
    · rw [if_pos e1, e1]; exact ok_hd ok hb
    · rw [if_neg e1]
      by_cases e2 : 290 + 9 * b + 1 ≤ j ∧ j < 290 + 9 * b + 1 + 8
      · rw [if_pos e2]
        show g j = if j - (290 + 9 * b + 1) = f then y else g (290 + 9 * b + 1 + (j - (290 + 9 * b + 1)))
        rw [if_neg (by omega)]; congr 1; omega
      · rw [if_neg e2]
def edg (g : Arr) (b f : Nat) (y : Int32) : Arr := upd g (290 + 9 * b + 1 + f) y
theorem OK_ed {g : Arr} (ok : OKg g) {b f : Nat} {y : Int32} (hb : b < bcn g) (hf : f < 8) (hy : Let y) : OKg (edg g b f y) ∧ cnt (edg g b f y) = cnt g ∧ bcn (edg g b f y) = bcn g := by
  unfold edg
  rw [edit_bw ok hb hf]
  exact OK_bw ok hb (ok_hc ok hb) (ok_bra ok hb).1.2.2 (fun f' hf' => by
    by_cases e : f' = f
    · rw [if_pos e]; exact hy
    · rw [if_neg e]; exact ok_wk ok hb hf')
theorem mm_edit {b f : Nat} {y : Int32} (ok : OKg (V 254)) (hb : b < bcn (V 254)) (hf : f < 8) (hy : Let y) : f_X10_editIt V (nI b) (nI f) y = some (nI (edn (edg (V 254) b f y) b), va_up V 254 (edg (V 254) b f y)) := by
  have h5 := ok_b5 ok
  obtain ⟨k1, k2, k3⟩ := OK_ed ok hb hf hy
  obtain ⟨c, c1, c2, rfl⟩ := hy
  unfold f_X10_editIt
  have e : f_X10_edits (va_up V 254 (edg (V 254) b f (nI c))) (nI b) = some (nI (edn (edg (V 254) b f (nI c)) b), va_up V 254 (edg (V 254) b f (nI c))) := sm_edits (V := va_up V 254 (edg (V 254) b f (nI c))) k1 (by show b < bcn (edg (V 254) b f (nI c)); omega)
  simp (disch := omega) only [bd_s, bv_s, lt_d, jn_d, om_s, om_n, zl0, zl1, zl2, zl3, zl4, zl5, zl6, zl7, zl8, zl9, zl10, zl11, zl12, zl13, zl16, zl23, zl24, zl26, zl31, zl32, zl35, zl36, zl40, zl42, zl45, zl48, zl57, zl58, zl59, zl60, zl61, zl62, zl63, zl64, zl65, zl78, zl90, zl94, zl97, zl98, zl114, zl122, zl126, zl244, zl290, zl291, zl326, zl335, zl361, zl2527, zl2888, neg1, le_T, le_F, lt_T, lt_F, eq_T, eq_F, m1_ne, m1_ne', m1_lt, m1_le, lt_m1, le_m1, cl_n, ib_T, nI_add, pk_mul, sub_n, add_m1, sub_m1, m1_1, m1_1', pw_d, st_e, st_n, vu_e, vu_n, up_e, up_n, if_true, if_false, true_or, or_true, false_or, or_false, eq_self, reduceCtorEq, not_true_eq_false, not_false_eq_true, sm_isBra_T (V := V) (ok_bcn ok) h5 hb, sm_isFld_T (V := V) hf, sm_in_T V (A := (nI c).toInt64) (B := 97) (C := 122) rfl w97 w122 (nI_le c1 (by omega)) (nI_le c2 (by omega)), sm_braAt]
  rw [st_vu, show upd (V 254) (290 + 9 * b + 1 + f) (nI c) = edg (V 254) b f (nI c) from rfl, e, bd_s]
theorem mm_edit_1 {a d e : Int32} (ok : OKg (V 254)) (h : Bad a (bcn (V 254)) ∨ Bad d 8) : MNo (f_X10_editIt V a d e) V 1 := by
  have h5 := ok_b5 ok
  refine MNo.of (r := m1) ?_
  unfold f_X10_editIt
  rcases bad_or a (show bcn (V 254) < 2 ^ 31 by omega) with ⟨b, hb, rfl⟩ | hB
  · have q := h.resolve_left (fun q => by
      rcases q with q | q
      · rw [lt_F (by omega) (by omega)] at q; exact q
      · rw [le_F (by omega) (by omega)] at q; exact q)
    simp (disch := omega) only [bd_s, bv_s, lt_d, jn_d, om_s, om_n, zl0, zl1, zl2, zl3, zl4, zl5, zl6, zl7, zl8, zl9, zl10, zl11, zl12, zl13, zl16, zl23, zl24, zl26, zl31, zl32, zl35, zl36, zl40, zl42, zl45, zl48, zl57, zl58, zl59, zl60, zl61, zl62, zl63, zl64, zl65, zl78, zl90, zl94, zl97, zl98, zl114, zl122, zl126, zl244, zl290, zl291, zl326, zl335, zl361, zl2527, zl2888, neg1, le_T, le_F, lt_T, lt_F, eq_T, eq_F, m1_ne, m1_ne', m1_lt, m1_le, lt_m1, le_m1, cl_n, ib_T, nI_add, pk_mul, sub_n, add_m1, sub_m1, m1_1, m1_1', pw_d, st_e, st_n, vu_e, vu_n, up_e, up_n, if_true, if_false, true_or, or_true, false_or, or_false, eq_self, reduceCtorEq, not_true_eq_false, not_false_eq_true, sm_isBra_T (V := V) (ok_bcn ok) h5 hb, sm_isFld_F (V := V) q, sm_th]
  · simp (disch := omega) only [bd_s, bv_s, lt_d, jn_d, om_s, om_n, zl0, zl1, zl2, zl3, zl4, zl5, zl6, zl7, zl8, zl9, zl10, zl11, zl12, zl13, zl16, zl23, zl24, zl26, zl31, zl32, zl35, zl36, zl40, zl42, zl45, zl48, zl57, zl58, zl59, zl60, zl61, zl62, zl63, zl64, zl65, zl78, zl90, zl94, zl97, zl98, zl114, zl122, zl126, zl244, zl290, zl291, zl326, zl335, zl361, zl2527, zl2888, neg1, le_T, le_F, lt_T, lt_F, eq_T, eq_F, m1_ne, m1_ne', m1_lt, m1_le, lt_m1, le_m1, cl_n, ib_T, nI_add, pk_mul, sub_n, add_m1, sub_m1, m1_1, m1_1', pw_d, st_e, st_n, vu_e, vu_n, up_e, up_n, if_true, if_false, true_or, or_true, false_or, or_false, eq_self, reduceCtorEq, not_true_eq_false, not_false_eq_true, sm_isBra_F (V := V) (ok_bcn ok) (ok_b1 ok) h5 hB, sm_th]
theorem mm_edit_2 {b f : Nat} {y : Int32} (ok : OKg (V 254)) (hb : b < bcn (V 254)) (hf : f < 8) (hy : y < nI 97 ∨ nI 122 < y) : MNo (f_X10_editIt V (nI b) (nI f) y) V 2 := by
  have h5 := ok_b5 ok
  refine MNo.of (r := m1) ?_
  unfold f_X10_editIt
  simp (disch := omega) only [bd_s, bv_s, lt_d, jn_d, om_s, om_n, zl0, zl1, zl2, zl3, zl4, zl5, zl6, zl7, zl8, zl9, zl10, zl11, zl12, zl13, zl16, zl23, zl24, zl26, zl31, zl32, zl35, zl36, zl40, zl42, zl45, zl48, zl57, zl58, zl59, zl60, zl61, zl62, zl63, zl64, zl65, zl78, zl90, zl94, zl97, zl98, zl114, zl122, zl126, zl244, zl290, zl291, zl326, zl335, zl361, zl2527, zl2888, neg1, le_T, le_F, lt_T, lt_F, eq_T, eq_F, m1_ne, m1_ne', m1_lt, m1_le, lt_m1, le_m1, cl_n, ib_T, nI_add, pk_mul, sub_n, add_m1, sub_m1, m1_1, m1_1', pw_d, st_e, st_n, vu_e, vu_n, up_e, up_n, if_true, if_false, true_or, or_true, false_or, or_false, eq_self, reduceCtorEq, not_true_eq_false, not_false_eq_true, sm_isBra_T (V := V) (ok_bcn ok) h5 hb, sm_isFld_T (V := V) hf, sm_in_F V (A := y.toInt64) (B := 97) (C := 122) rfl w97 w122 hy, sm_th]
/-! a head moved -/
theorem mm_bh {b r : Nat} (hb : b < 5) (hr : r < 24) : f_X10_becomesHead V (nI b) (nI r) = some (va_up V 254 (bwg (V 254) b r (fun f => V 254 (2 + 12 * r + 4 + f)))) := by
  have e8 : fb_put (upd (V 254) (290 + 9 * b) (nI r)) (fun f => V 254 (2 + 12 * r + 4 + f)) (290 + 9 * b + 1) 8 = bwg (V 254) b r (fun f => V 254 (2 + 12 * r + 4 + f)) := by
    funext j
    unfold fb_put bwg upd
    by_cases e1 : j = 290 + 9 * b
    · rw [if_neg (by omega), if_pos e1, if_pos e1]
    · by_cases e2 : 290 + 9 * b + 1 ≤ j ∧ j < 290 + 9 * b + 1 + 8
      · rw [if_pos e2, if_neg e1, if_pos e2]
      · rw [if_neg e2, if_neg e1, if_neg e1, if_neg e2]
  rw [← e8]
  unfold f_X10_becomesHead
  simp (disch := omega) only [bd_s, bv_s, lt_d, jn_d, om_s, om_n, zl0, zl1, zl2, zl3, zl4, zl5, zl6, zl7, zl8, zl9, zl10, zl11, zl12, zl13, zl16, zl23, zl24, zl26, zl31, zl32, zl35, zl36, zl40, zl42, zl45, zl48, zl57, zl58, zl59, zl60, zl61, zl62, zl63, zl64, zl65, zl78, zl90, zl94, zl97, zl98, zl114, zl122, zl126, zl244, zl290, zl291, zl326, zl335, zl361, zl2527, zl2888, neg1, le_T, le_F, lt_T, lt_F, eq_T, eq_F, m1_ne, m1_ne', m1_lt, m1_le, lt_m1, le_m1, cl_n, ib_T, nI_add, pk_mul, sub_n, add_m1, sub_m1, m1_1, m1_1', pw_d, st_e, st_n, vu_e, vu_n, up_e, up_n, if_true, if_false, true_or, or_true, false_or, or_false, eq_self, reduceCtorEq, not_true_eq_false, not_false_eq_true, sm_braAt, st_vu (V := V) (c := 254)]
  refine Eq.trans (congrArg (fun W => f_X10_becomesHead_L12 (nI b) (nI r) FU W (nI 0)) (show va_up V 254 (upd (V 254) (290 + 9 * b) (nI r)) = va_up V 254 (fb_put (upd (V 254) (290 + 9 * b) (nI r)) (fun f => V 254 (2 + 12 * r + 4 + f)) (290 + 9 * b + 1) 0) by rw [fb_put_0])) ?_
  refine lp_run 8 (fun n k => f_X10_becomesHead_L12 (nI b) (nI r) n (va_up V 254 (fb_put (upd (V 254) (290 + 9 * b) (nI r)) (fun f => V 254 (2 + 12 * r + 4 + f)) (290 + 9 * b + 1) k)) (nI k)) _ ?_ ?_ (n := FU) (k := 0) (by omega) (by decide)
  · intro n
    rw [f_X10_becomesHead_L12.eq_2]
    simp (disch := omega) only [bd_s, bv_s, lt_d, jn_d, om_s, om_n, zl0, zl1, zl2, zl3, zl4, zl5, zl6, zl7, zl8, zl9, zl10, zl11, zl12, zl13, zl16, zl23, zl24, zl26, zl31, zl32, zl35, zl36, zl40, zl42, zl45, zl48, zl57, zl58, zl59, zl60, zl61, zl62, zl63, zl64, zl65, zl78, zl90, zl94, zl97, zl98, zl114, zl122, zl126, zl244, zl290, zl291, zl326, zl335, zl361, zl2527, zl2888, neg1, le_T, le_F, lt_T, lt_F, eq_T, eq_F, m1_ne, m1_ne', m1_lt, m1_le, lt_m1, le_m1, cl_n, ib_T, nI_add, pk_mul, sub_n, add_m1, sub_m1, m1_1, m1_1', pw_d, st_e, st_n, vu_e, vu_n, up_e, up_n, if_true, if_false, true_or, or_true, false_or, or_false, eq_self, reduceCtorEq, not_true_eq_false, not_false_eq_true]
  · intro n k hk
    rw [f_X10_becomesHead_L12.eq_2]
    simp (disch := omega) only [bd_s, bv_s, lt_d, jn_d, om_s, om_n, zl0, zl1, zl2, zl3, zl4, zl5, zl6, zl7, zl8, zl9, zl10, zl11, zl12, zl13, zl16, zl23, zl24, zl26, zl31, zl32, zl35, zl36, zl40, zl42, zl45, zl48, zl57, zl58, zl59, zl60, zl61, zl62, zl63, zl64, zl65, zl78, zl90, zl94, zl97, zl98, zl114, zl122, zl126, zl244, zl290, zl291, zl326, zl335, zl361, zl2527, zl2888, neg1, le_T, le_F, lt_T, lt_F, eq_T, eq_F, m1_ne, m1_ne', m1_lt, m1_le, lt_m1, le_m1, cl_n, ib_T, nI_add, pk_mul, sub_n, add_m1, sub_m1, m1_1, m1_1', pw_d, st_e, st_n, vu_e, vu_n, up_e, up_n, if_true, if_false, true_or, or_true, false_or, or_false, eq_self, reduceCtorEq, not_true_eq_false, not_false_eq_true, sm_braAt, sm_letter (V := va_up V 254 (fb_put (upd (V 254) (290 + 9 * b) (nI r)) (fun f => V 254 (2 + 12 * r + 4 + f)) (290 + 9 * b + 1) k)) hr hk, st_v2]
    rw [fb_put_out (by omega), up_n (by omega), ← fb_put_succ]
def lrg (g : Arr) (r : Nat) : Arr := fun f => g (2 + 12 * r + 4 + f)
theorem lrg_let {g : Arr} (ok : OKg g) {r : Nat} (hr : r < cnt g) : ∀ f, f < 8 → Let (lrg g r f) := fun f hf => ok_le ok hr hf
theorem mm_rev {b : Nat} (ok : OKg (V 254)) (hb : b < bcn (V 254)) : f_X10_revertIt V (nI b) = some (nI (edn (V 254) b), va_up V 254 (bwg (V 254) b (hd (V 254) b) (lrg (V 254) (hd (V 254) b)))) := by
  have h5 := ok_b5 ok
  have hc := ok_c24 ok
  have hh := ok_hc ok hb
  unfold f_X10_revertIt
  simp (disch := omega) only [bd_s, bv_s, lt_d, jn_d, om_s, om_n, zl0, zl1, zl2, zl3, zl4, zl5, zl6, zl7, zl8, zl9, zl10, zl11, zl12, zl13, zl16, zl23, zl24, zl26, zl31, zl32, zl35, zl36, zl40, zl42, zl45, zl48, zl57, zl58, zl59, zl60, zl61, zl62, zl63, zl64, zl65, zl78, zl90, zl94, zl97, zl98, zl114, zl122, zl126, zl244, zl290, zl291, zl326, zl335, zl361, zl2527, zl2888, neg1, le_T, le_F, lt_T, lt_F, eq_T, eq_F, m1_ne, m1_ne', m1_lt, m1_le, lt_m1, le_m1, cl_n, ib_T, nI_add, pk_mul, sub_n, add_m1, sub_m1, m1_1, m1_1', pw_d, st_e, st_n, vu_e, vu_n, up_e, up_n, if_true, if_false, true_or, or_true, false_or, or_false, eq_self, reduceCtorEq, not_true_eq_false, not_false_eq_true, sm_isBra_T (V := V) (ok_bcn ok) h5 hb, sm_edits (V := V) ok hb, sm_headOf (V := V) (show b < 5 by omega), ok_hd ok hb, mm_bh (V := V) (show b < 5 by omega) (show hd (V 254) b < 24 by omega)]
  rfl
theorem mm_rev_1 {a : Int32} (ok : OKg (V 254)) (h : Bad a (bcn (V 254))) : MNo (f_X10_revertIt V a) V 1 := by
  have h5 := ok_b5 ok
  refine MNo.of (r := m1) ?_
  unfold f_X10_revertIt
  simp (disch := omega) only [bd_s, bv_s, lt_d, jn_d, om_s, om_n, zl0, zl1, zl2, zl3, zl4, zl5, zl6, zl7, zl8, zl9, zl10, zl11, zl12, zl13, zl16, zl23, zl24, zl26, zl31, zl32, zl35, zl36, zl40, zl42, zl45, zl48, zl57, zl58, zl59, zl60, zl61, zl62, zl63, zl64, zl65, zl78, zl90, zl94, zl97, zl98, zl114, zl122, zl126, zl244, zl290, zl291, zl326, zl335, zl361, zl2527, zl2888, neg1, le_T, le_F, lt_T, lt_F, eq_T, eq_F, m1_ne, m1_ne', m1_lt, m1_le, lt_m1, le_m1, cl_n, ib_T, nI_add, pk_mul, sub_n, add_m1, sub_m1, m1_1, m1_1', pw_d, st_e, st_n, vu_e, vu_n, up_e, up_n, if_true, if_false, true_or, or_true, false_or, or_false, eq_self, reduceCtorEq, not_true_eq_false, not_false_eq_true, sm_isBra_F (V := V) (ok_bcn ok) (ok_b1 ok) h5 h, sm_th]
/-! reset -/
theorem mm_res {b r : Nat} (ok : OKg (V 254)) (hb : b < bcn (V 254)) (hr : r < cnt (V 254)) (ha : ¬ arc (V 254) r) (he : edn (V 254) b = 0) : f_X10_resetIt V (nI b) (nI r) = some (nI (hd (V 254) b), va_up V 254 (bwg (V 254) b r (lrg (V 254) r))) := by
  have h5 := ok_b5 ok
  have hc := ok_c24 ok
  unfold f_X10_resetIt
  simp (disch := omega) only [bd_s, bv_s, lt_d, jn_d, om_s, om_n, zl0, zl1, zl2, zl3, zl4, zl5, zl6, zl7, zl8, zl9, zl10, zl11, zl12, zl13, zl16, zl23, zl24, zl26, zl31, zl32, zl35, zl36, zl40, zl42, zl45, zl48, zl57, zl58, zl59, zl60, zl61, zl62, zl63, zl64, zl65, zl78, zl90, zl94, zl97, zl98, zl114, zl122, zl126, zl244, zl290, zl291, zl326, zl335, zl361, zl2527, zl2888, neg1, le_T, le_F, lt_T, lt_F, eq_T, eq_F, m1_ne, m1_ne', m1_lt, m1_le, lt_m1, le_m1, cl_n, ib_T, nI_add, pk_mul, sub_n, add_m1, sub_m1, m1_1, m1_1', pw_d, st_e, st_n, vu_e, vu_n, up_e, up_n, if_true, if_false, true_or, or_true, false_or, or_false, eq_self, reduceCtorEq, not_true_eq_false, not_false_eq_true, sm_isBra_T (V := V) (ok_bcn ok) h5 hb, sm_isOpen_T (V := V) ok hr ha, sm_edits (V := V) ok hb, he, sm_headOf (V := V) (show b < 5 by omega), ok_hd ok hb, mm_bh (V := V) (show b < 5 by omega) (show r < 24 by omega)]
  rfl
theorem mm_res_1 {a d : Int32} (ok : OKg (V 254)) (h : Bad a (bcn (V 254))) : MNo (f_X10_resetIt V a d) V 1 := by
  have h5 := ok_b5 ok
  refine MNo.of (r := m1) ?_
  unfold f_X10_resetIt
  simp (disch := omega) only [bd_s, bv_s, lt_d, jn_d, om_s, om_n, zl0, zl1, zl2, zl3, zl4, zl5, zl6, zl7, zl8, zl9, zl10, zl11, zl12, zl13, zl16, zl23, zl24, zl26, zl31, zl32, zl35, zl36, zl40, zl42, zl45, zl48, zl57, zl58, zl59, zl60, zl61, zl62, zl63, zl64, zl65, zl78, zl90, zl94, zl97, zl98, zl114, zl122, zl126, zl244, zl290, zl291, zl326, zl335, zl361, zl2527, zl2888, neg1, le_T, le_F, lt_T, lt_F, eq_T, eq_F, m1_ne, m1_ne', m1_lt, m1_le, lt_m1, le_m1, cl_n, ib_T, nI_add, pk_mul, sub_n, add_m1, sub_m1, m1_1, m1_1', pw_d, st_e, st_n, vu_e, vu_n, up_e, up_n, if_true, if_false, true_or, or_true, false_or, or_false, eq_self, reduceCtorEq, not_true_eq_false, not_false_eq_true, sm_isBra_F (V := V) (ok_bcn ok) (ok_b1 ok) h5 h, sm_th]
theorem mm_res_2 {b : Nat} {d : Int32} (ok : OKg (V 254)) (hb : b < bcn (V 254)) (h : Bad d (cnt (V 254)) ∨ ∃ r, d = nI r ∧ r < cnt (V 254) ∧ arc (V 254) r) : MNo (f_X10_resetIt V (nI b) d) V 2 := by
  have h5 := ok_b5 ok
  refine MNo.of (r := m1) ?_
  unfold f_X10_resetIt
  rcases h with h | ⟨r, rfl, h1, h2⟩
  · simp (disch := omega) only [bd_s, bv_s, lt_d, jn_d, om_s, om_n, zl0, zl1, zl2, zl3, zl4, zl5, zl6, zl7, zl8, zl9, zl10, zl11, zl12, zl13, zl16, zl23, zl24, zl26, zl31, zl32, zl35, zl36, zl40, zl42, zl45, zl48, zl57, zl58, zl59, zl60, zl61, zl62, zl63, zl64, zl65, zl78, zl90, zl94, zl97, zl98, zl114, zl122, zl126, zl244, zl290, zl291, zl326, zl335, zl361, zl2527, zl2888, neg1, le_T, le_F, lt_T, lt_F, eq_T, eq_F, m1_ne, m1_ne', m1_lt, m1_le, lt_m1, le_m1, cl_n, ib_T, nI_add, pk_mul, sub_n, add_m1, sub_m1, m1_1, m1_1', pw_d, st_e, st_n, vu_e, vu_n, up_e, up_n, if_true, if_false, true_or, or_true, false_or, or_false, eq_self, reduceCtorEq, not_true_eq_false, not_false_eq_true, sm_isBra_T (V := V) (ok_bcn ok) h5 hb, sm_isOpen_B (V := V) ok h, sm_th]
  · simp (disch := omega) only [bd_s, bv_s, lt_d, jn_d, om_s, om_n, zl0, zl1, zl2, zl3, zl4, zl5, zl6, zl7, zl8, zl9, zl10, zl11, zl12, zl13, zl16, zl23, zl24, zl26, zl31, zl32, zl35, zl36, zl40, zl42, zl45, zl48, zl57, zl58, zl59, zl60, zl61, zl62, zl63, zl64, zl65, zl78, zl90, zl94, zl97, zl98, zl114, zl122, zl126, zl244, zl290, zl291, zl326, zl335, zl361, zl2527, zl2888, neg1, le_T, le_F, lt_T, lt_F, eq_T, eq_F, m1_ne, m1_ne', m1_lt, m1_le, lt_m1, le_m1, cl_n, ib_T, nI_add, pk_mul, sub_n, add_m1, sub_m1, m1_1, m1_1', pw_d, st_e, st_n, vu_e, vu_n, up_e, up_n, if_true, if_false, true_or, or_true, false_or, or_false, eq_self, reduceCtorEq, not_true_eq_false, not_false_eq_true, sm_isBra_T (V := V) (ok_bcn ok) h5 hb, sm_isOpen_F (V := V) ok h1 h2, sm_th]
theorem mm_res_3 {b r : Nat} (ok : OKg (V 254)) (hb : b < bcn (V 254)) (hr : r < cnt (V 254)) (ha : ¬ arc (V 254) r) (he : 0 < edn (V 254) b) : MNo (f_X10_resetIt V (nI b) (nI r)) V 3 := by
  have h5 := ok_b5 ok
  have h8 : edn (V 254) b ≤ 8 := fb_ct_le _ 8
  refine MNo.of (r := m1) ?_
  unfold f_X10_resetIt
  simp (disch := omega) only [bd_s, bv_s, lt_d, jn_d, om_s, om_n, zl0, zl1, zl2, zl3, zl4, zl5, zl6, zl7, zl8, zl9, zl10, zl11, zl12, zl13, zl16, zl23, zl24, zl26, zl31, zl32, zl35, zl36, zl40, zl42, zl45, zl48, zl57, zl58, zl59, zl60, zl61, zl62, zl63, zl64, zl65, zl78, zl90, zl94, zl97, zl98, zl114, zl122, zl126, zl244, zl290, zl291, zl326, zl335, zl361, zl2527, zl2888, neg1, le_T, le_F, lt_T, lt_F, eq_T, eq_F, m1_ne, m1_ne', m1_lt, m1_le, lt_m1, le_m1, cl_n, ib_T, nI_add, pk_mul, sub_n, add_m1, sub_m1, m1_1, m1_1', pw_d, st_e, st_n, vu_e, vu_n, up_e, up_n, if_true, if_false, true_or, or_true, false_or, or_false, eq_self, reduceCtorEq, not_true_eq_false, not_false_eq_true, sm_isBra_T (V := V) (ok_bcn ok) h5 hb, sm_isOpen_T (V := V) ok hr ha, sm_edits (V := V) ok hb, sm_th]
/-! branches -/
theorem mm_op {r : Nat} (ok : OKg (V 254)) (hr : r < cnt (V 254)) (ha : ¬ arc (V 254) r) (hn : bcn (V 254) < 5) : f_X10_branchIt V (nI r) = some (nI (bcn (V 254)), va_up V 254 (opg (V 254) r)) := by
  have hc := ok_c24 ok
  have h5 := ok_b5 ok
  unfold f_X10_branchIt
  simp (disch := omega) only [bd_s, bv_s, lt_d, jn_d, om_s, om_n, zl0, zl1, zl2, zl3, zl4, zl5, zl6, zl7, zl8, zl9, zl10, zl11, zl12, zl13, zl16, zl23, zl24, zl26, zl31, zl32, zl35, zl36, zl40, zl42, zl45, zl48, zl57, zl58, zl59, zl60, zl61, zl62, zl63, zl64, zl65, zl78, zl90, zl94, zl97, zl98, zl114, zl122, zl126, zl244, zl290, zl291, zl326, zl335, zl361, zl2527, zl2888, neg1, le_T, le_F, lt_T, lt_F, eq_T, eq_F, m1_ne, m1_ne', m1_lt, m1_le, lt_m1, le_m1, cl_n, ib_T, nI_add, pk_mul, sub_n, add_m1, sub_m1, m1_1, m1_1', pw_d, st_e, st_n, vu_e, vu_n, up_e, up_n, if_true, if_false, true_or, or_true, false_or, or_false, eq_self, reduceCtorEq, not_true_eq_false, not_false_eq_true, sm_isOpen_T (V := V) ok hr ha, ok_bcn ok]
  simp (disch := omega) only [bd_s, bv_s, lt_d, jn_d, om_s, om_n, zl0, zl1, zl2, zl3, zl4, zl5, zl6, zl7, zl8, zl9, zl10, zl11, zl12, zl13, zl16, zl23, zl24, zl26, zl31, zl32, zl35, zl36, zl40, zl42, zl45, zl48, zl57, zl58, zl59, zl60, zl61, zl62, zl63, zl64, zl65, zl78, zl90, zl94, zl97, zl98, zl114, zl122, zl126, zl244, zl290, zl291, zl326, zl335, zl361, zl2527, zl2888, neg1, le_T, le_F, lt_T, lt_F, eq_T, eq_F, m1_ne, m1_ne', m1_lt, m1_le, lt_m1, le_m1, cl_n, ib_T, nI_add, pk_mul, sub_n, add_m1, sub_m1, m1_1, m1_1', pw_d, st_e, st_n, vu_e, vu_n, up_e, up_n, if_true, if_false, true_or, or_true, false_or, or_false, eq_self, reduceCtorEq, not_true_eq_false, not_false_eq_true, Nat.add_sub_cancel, mm_bh (V := stv V 254 1 (nI (bcn (V 254) + 1))) hn (show r < 24 by omega)]
  rw [show bwg (upd (V 254) 1 (nI (bcn (V 254) + 1))) (bcn (V 254)) r (fun f => V 254 (2 + 12 * r + 4 + f)) = opg (V 254) r from rfl]
  simp (disch := omega) only [bd_s, bv_s, lt_d, jn_d, om_s, om_n, zl0, zl1, zl2, zl3, zl4, zl5, zl6, zl7, zl8, zl9, zl10, zl11, zl12, zl13, zl16, zl23, zl24, zl26, zl31, zl32, zl35, zl36, zl40, zl42, zl45, zl48, zl57, zl58, zl59, zl60, zl61, zl62, zl63, zl64, zl65, zl78, zl90, zl94, zl97, zl98, zl114, zl122, zl126, zl244, zl290, zl291, zl326, zl335, zl361, zl2527, zl2888, neg1, le_T, le_F, lt_T, lt_F, eq_T, eq_F, m1_ne, m1_ne', m1_lt, m1_le, lt_m1, le_m1, cl_n, ib_T, nI_add, pk_mul, sub_n, add_m1, sub_m1, m1_1, m1_1', pw_d, st_e, st_n, vu_e, vu_n, up_e, up_n, if_true, if_false, true_or, or_true, false_or, or_false, eq_self, reduceCtorEq, not_true_eq_false, not_false_eq_true, opg_1, Nat.add_sub_cancel, st_vu (V := V) (c := 254), vu_vu]
theorem mm_op_1 {d : Int32} (ok : OKg (V 254)) (h : Bad d (cnt (V 254)) ∨ ∃ r, d = nI r ∧ r < cnt (V 254) ∧ arc (V 254) r) : MNo (f_X10_branchIt V d) V 1 := by
  refine MNo.of (r := m1) ?_
  unfold f_X10_branchIt
  rcases h with h | ⟨r, rfl, h1, h2⟩
  · simp (disch := omega) only [bd_s, bv_s, lt_d, jn_d, om_s, om_n, zl0, zl1, zl2, zl3, zl4, zl5, zl6, zl7, zl8, zl9, zl10, zl11, zl12, zl13, zl16, zl23, zl24, zl26, zl31, zl32, zl35, zl36, zl40, zl42, zl45, zl48, zl57, zl58, zl59, zl60, zl61, zl62, zl63, zl64, zl65, zl78, zl90, zl94, zl97, zl98, zl114, zl122, zl126, zl244, zl290, zl291, zl326, zl335, zl361, zl2527, zl2888, neg1, le_T, le_F, lt_T, lt_F, eq_T, eq_F, m1_ne, m1_ne', m1_lt, m1_le, lt_m1, le_m1, cl_n, ib_T, nI_add, pk_mul, sub_n, add_m1, sub_m1, m1_1, m1_1', pw_d, st_e, st_n, vu_e, vu_n, up_e, up_n, if_true, if_false, true_or, or_true, false_or, or_false, eq_self, reduceCtorEq, not_true_eq_false, not_false_eq_true, sm_isOpen_B (V := V) ok h, sm_th]
  · simp (disch := omega) only [bd_s, bv_s, lt_d, jn_d, om_s, om_n, zl0, zl1, zl2, zl3, zl4, zl5, zl6, zl7, zl8, zl9, zl10, zl11, zl12, zl13, zl16, zl23, zl24, zl26, zl31, zl32, zl35, zl36, zl40, zl42, zl45, zl48, zl57, zl58, zl59, zl60, zl61, zl62, zl63, zl64, zl65, zl78, zl90, zl94, zl97, zl98, zl114, zl122, zl126, zl244, zl290, zl291, zl326, zl335, zl361, zl2527, zl2888, neg1, le_T, le_F, lt_T, lt_F, eq_T, eq_F, m1_ne, m1_ne', m1_lt, m1_le, lt_m1, le_m1, cl_n, ib_T, nI_add, pk_mul, sub_n, add_m1, sub_m1, m1_1, m1_1', pw_d, st_e, st_n, vu_e, vu_n, up_e, up_n, if_true, if_false, true_or, or_true, false_or, or_false, eq_self, reduceCtorEq, not_true_eq_false, not_false_eq_true, sm_isOpen_F (V := V) ok h1 h2, sm_th]
theorem mm_op_2 {r : Nat} (ok : OKg (V 254)) (hr : r < cnt (V 254)) (ha : ¬ arc (V 254) r) (hn : bcn (V 254) = 5) : MNo (f_X10_branchIt V (nI r)) V 2 := by
  refine MNo.of (r := m1) ?_
  have e := ok_bcn ok
  rw [hn] at e
  unfold f_X10_branchIt
  simp (disch := omega) only [bd_s, bv_s, lt_d, jn_d, om_s, om_n, zl0, zl1, zl2, zl3, zl4, zl5, zl6, zl7, zl8, zl9, zl10, zl11, zl12, zl13, zl16, zl23, zl24, zl26, zl31, zl32, zl35, zl36, zl40, zl42, zl45, zl48, zl57, zl58, zl59, zl60, zl61, zl62, zl63, zl64, zl65, zl78, zl90, zl94, zl97, zl98, zl114, zl122, zl126, zl244, zl290, zl291, zl326, zl335, zl361, zl2527, zl2888, neg1, le_T, le_F, lt_T, lt_F, eq_T, eq_F, m1_ne, m1_ne', m1_lt, m1_le, lt_m1, le_m1, cl_n, ib_T, nI_add, pk_mul, sub_n, add_m1, sub_m1, m1_1, m1_1', pw_d, st_e, st_n, vu_e, vu_n, up_e, up_n, if_true, if_false, true_or, or_true, false_or, or_false, eq_self, reduceCtorEq, not_true_eq_false, not_false_eq_true, sm_isOpen_T (V := V) ok hr ha, e, sm_th]
theorem mm_cl {b : Nat} (ok : OKg (V 254)) (hb : b < bcn (V 254)) (hn : 1 < bcn (V 254)) : f_X10_closeIt V (nI b) = some (nI (bcn (V 254) - 1), va_up V 254 (clg (V 254) b)) := by
  have h5 := ok_b5 ok
  generalize hg : V 254 = g at *
  unfold f_X10_closeIt
  have eb : V 254 1 = nI (bcn g) := by rw [hg]; exact ok_bcn ok
  simp (disch := omega) only [bd_s, bv_s, lt_d, jn_d, om_s, om_n, zl0, zl1, zl2, zl3, zl4, zl5, zl6, zl7, zl8, zl9, zl10, zl11, zl12, zl13, zl16, zl23, zl24, zl26, zl31, zl32, zl35, zl36, zl40, zl42, zl45, zl48, zl57, zl58, zl59, zl60, zl61, zl62, zl63, zl64, zl65, zl78, zl90, zl94, zl97, zl98, zl114, zl122, zl126, zl244, zl290, zl291, zl326, zl335, zl361, zl2527, zl2888, neg1, le_T, le_F, lt_T, lt_F, eq_T, eq_F, m1_ne, m1_ne', m1_lt, m1_le, lt_m1, le_m1, cl_n, ib_T, nI_add, pk_mul, sub_n, add_m1, sub_m1, m1_1, m1_1', pw_d, st_e, st_n, vu_e, vu_n, up_e, up_n, if_true, if_false, true_or, or_true, false_or, or_false, eq_self, reduceCtorEq, not_true_eq_false, not_false_eq_true, sm_isBra_T (V := V) eb h5 hb, eb, sm_braAt]
  have G1 : ∀ k, 290 + 9 * b ≤ k → k ≤ 326 → ∀ (n : Nat) (j : Mem → Option (Int32 × Mem)), 326 - k < n → f_X10_closeIt_L35 j n (va_up V 254 (fb_put g (fun i => g (290 + 9 * b + i + 9)) (290 + 9 * b) (k - (290 + 9 * b)))) (nI k) = j (va_up V 254 (fb_put g (fun i => g (290 + 9 * b + i + 9)) (290 + 9 * b) (326 - (290 + 9 * b)))) := by
    intro k h1 h2 n j hn'
    refine lp_up 326 (fun n k => 290 + 9 * b ≤ k → f_X10_closeIt_L35 j n (va_up V 254 (fb_put g (fun i => g (290 + 9 * b + i + 9)) (290 + 9 * b) (k - (290 + 9 * b)))) (nI k) = j (va_up V 254 (fb_put g (fun i => g (290 + 9 * b + i + 9)) (290 + 9 * b) (326 - (290 + 9 * b))))) ?_ ?_ n k h2 hn' h1
    · intro n _
      rw [f_X10_closeIt_L35.eq_2]
      simp (disch := omega) only [bd_s, bv_s, lt_d, jn_d, om_s, om_n, zl0, zl1, zl2, zl3, zl4, zl5, zl6, zl7, zl8, zl9, zl10, zl11, zl12, zl13, zl16, zl23, zl24, zl26, zl31, zl32, zl35, zl36, zl40, zl42, zl45, zl48, zl57, zl58, zl59, zl60, zl61, zl62, zl63, zl64, zl65, zl78, zl90, zl94, zl97, zl98, zl114, zl122, zl126, zl244, zl290, zl291, zl326, zl335, zl361, zl2527, zl2888, neg1, le_T, le_F, lt_T, lt_F, eq_T, eq_F, m1_ne, m1_ne', m1_lt, m1_le, lt_m1, le_m1, cl_n, ib_T, nI_add, pk_mul, sub_n, add_m1, sub_m1, m1_1, m1_1', pw_d, st_e, st_n, vu_e, vu_n, up_e, up_n, if_true, if_false, true_or, or_true, false_or, or_false, eq_self, reduceCtorEq, not_true_eq_false, not_false_eq_true]
    · intro n k hk ih h1
      rw [f_X10_closeIt_L35.eq_2]
      simp (disch := omega) only [bd_s, bv_s, lt_d, jn_d, om_s, om_n, zl0, zl1, zl2, zl3, zl4, zl5, zl6, zl7, zl8, zl9, zl10, zl11, zl12, zl13, zl16, zl23, zl24, zl26, zl31, zl32, zl35, zl36, zl40, zl42, zl45, zl48, zl57, zl58, zl59, zl60, zl61, zl62, zl63, zl64, zl65, zl78, zl90, zl94, zl97, zl98, zl114, zl122, zl126, zl244, zl290, zl291, zl326, zl335, zl361, zl2527, zl2888, neg1, le_T, le_F, lt_T, lt_F, eq_T, eq_F, m1_ne, m1_ne', m1_lt, m1_le, lt_m1, le_m1, cl_n, ib_T, nI_add, pk_mul, sub_n, add_m1, sub_m1, m1_1, m1_1', pw_d, st_e, st_n, vu_e, vu_n, up_e, up_n, if_true, if_false, true_or, or_true, false_or, or_false, eq_self, reduceCtorEq, not_true_eq_false, not_false_eq_true, st_v2]
      rw [fb_put_out (by omega)]
      have e : upd (fb_put g (fun i => g (290 + 9 * b + i + 9)) (290 + 9 * b) (k - (290 + 9 * b))) k (g (k + 9)) = fb_put g (fun i => g (290 + 9 * b + i + 9)) (290 + 9 * b) (k + 1 - (290 + 9 * b)) := by
        have := fb_put_succ g (fun i => g (290 + 9 * b + i + 9)) (290 + 9 * b) (k - (290 + 9 * b))
        rw [show 290 + 9 * b + (k - (290 + 9 * b)) = k by omega, show k - (290 + 9 * b) + 1 = k + 1 - (290 + 9 * b) by omega] at this
        exact this
      rw [e]
      exact ih (by omega)
  have G2 : ∀ (F : Arr) (j : Mem → Option (Int32 × Mem)), f_X10_closeIt_L67 j FU (va_up V 254 F) (nI 326) = j (va_up V 254 (fb_put F (fun _ => nI 0) 326 9)) := by
    intro F j
    refine Eq.trans (congrArg (fun W => f_X10_closeIt_L67 j FU W (nI 326)) (show va_up V 254 F = va_up V 254 (fb_put F (fun _ => nI 0) 326 0) by rw [fb_put_0])) ?_
    refine lp_run 9 (fun n k => f_X10_closeIt_L67 j n (va_up V 254 (fb_put F (fun _ => nI 0) 326 k)) (nI (326 + k))) _ ?_ ?_ (n := FU) (k := 0) (by omega) (by decide)
    · intro n
      rw [f_X10_closeIt_L67.eq_2]
      simp (disch := omega) only [bd_s, bv_s, lt_d, jn_d, om_s, om_n, zl0, zl1, zl2, zl3, zl4, zl5, zl6, zl7, zl8, zl9, zl10, zl11, zl12, zl13, zl16, zl23, zl24, zl26, zl31, zl32, zl35, zl36, zl40, zl42, zl45, zl48, zl57, zl58, zl59, zl60, zl61, zl62, zl63, zl64, zl65, zl78, zl90, zl94, zl97, zl98, zl114, zl122, zl126, zl244, zl290, zl291, zl326, zl335, zl361, zl2527, zl2888, neg1, le_T, le_F, lt_T, lt_F, eq_T, eq_F, m1_ne, m1_ne', m1_lt, m1_le, lt_m1, le_m1, cl_n, ib_T, nI_add, pk_mul, sub_n, add_m1, sub_m1, m1_1, m1_1', pw_d, st_e, st_n, vu_e, vu_n, up_e, up_n, if_true, if_false, true_or, or_true, false_or, or_false, eq_self, reduceCtorEq, not_true_eq_false, not_false_eq_true]
    · intro n k hk
      rw [f_X10_closeIt_L67.eq_2]
      simp (disch := omega) only [bd_s, bv_s, lt_d, jn_d, om_s, om_n, zl0, zl1, zl2, zl3, zl4, zl5, zl6, zl7, zl8, zl9, zl10, zl11, zl12, zl13, zl16, zl23, zl24, zl26, zl31, zl32, zl35, zl36, zl40, zl42, zl45, zl48, zl57, zl58, zl59, zl60, zl61, zl62, zl63, zl64, zl65, zl78, zl90, zl94, zl97, zl98, zl114, zl122, zl126, zl244, zl290, zl291, zl326, zl335, zl361, zl2527, zl2888, neg1, le_T, le_F, lt_T, lt_F, eq_T, eq_F, m1_ne, m1_ne', m1_lt, m1_le, lt_m1, le_m1, cl_n, ib_T, nI_add, pk_mul, sub_n, add_m1, sub_m1, m1_1, m1_1', pw_d, st_e, st_n, vu_e, vu_n, up_e, up_n, if_true, if_false, true_or, or_true, false_or, or_false, eq_self, reduceCtorEq, not_true_eq_false, not_false_eq_true, st_v2]
      rw [← fb_put_succ F (fun _ => nI 0) 326 k, show 326 + (k + 1) = 326 + k + 1 by omega]
  have e0 : V = va_up V 254 (fb_put g (fun i => g (290 + 9 * b + i + 9)) (290 + 9 * b) (290 + 9 * b - (290 + 9 * b))) := by
    rw [Nat.sub_self, fb_put_0, ← hg, vu_id]
  have q := fun j => (congrArg (fun W => f_X10_closeIt_L35 j FU W (nI (290 + 9 * b))) e0).trans (G1 (290 + 9 * b) (Nat.le_refl _) (by omega) FU j (by unfold FU; omega))
  simp (disch := omega) only [bd_s, bv_s, lt_d, jn_d, om_s, om_n, zl0, zl1, zl2, zl3, zl4, zl5, zl6, zl7, zl8, zl9, zl10, zl11, zl12, zl13, zl16, zl23, zl24, zl26, zl31, zl32, zl35, zl36, zl40, zl42, zl45, zl48, zl57, zl58, zl59, zl60, zl61, zl62, zl63, zl64, zl65, zl78, zl90, zl94, zl97, zl98, zl114, zl122, zl126, zl244, zl290, zl291, zl326, zl335, zl361, zl2527, zl2888, neg1, le_T, le_F, lt_T, lt_F, eq_T, eq_F, m1_ne, m1_ne', m1_lt, m1_le, lt_m1, le_m1, cl_n, ib_T, nI_add, pk_mul, sub_n, add_m1, sub_m1, m1_1, m1_1', pw_d, st_e, st_n, vu_e, vu_n, up_e, up_n, if_true, if_false, true_or, or_true, false_or, or_false, eq_self, reduceCtorEq, not_true_eq_false, not_false_eq_true, q, G2]
  rw [fb_put_out (by omega), fb_put_out (by omega), ok_bcn ok]
  simp (disch := omega) only [bd_s, bv_s, lt_d, jn_d, om_s, om_n, zl0, zl1, zl2, zl3, zl4, zl5, zl6, zl7, zl8, zl9, zl10, zl11, zl12, zl13, zl16, zl23, zl24, zl26, zl31, zl32, zl35, zl36, zl40, zl42, zl45, zl48, zl57, zl58, zl59, zl60, zl61, zl62, zl63, zl64, zl65, zl78, zl90, zl94, zl97, zl98, zl114, zl122, zl126, zl244, zl290, zl291, zl326, zl335, zl361, zl2527, zl2888, neg1, le_T, le_F, lt_T, lt_F, eq_T, eq_F, m1_ne, m1_ne', m1_lt, m1_le, lt_m1, le_m1, cl_n, ib_T, nI_add, pk_mul, sub_n, add_m1, sub_m1, m1_1, m1_1', pw_d, st_e, st_n, vu_e, vu_n, up_e, up_n, if_true, if_false, true_or, or_true, false_or, or_false, eq_self, reduceCtorEq, not_true_eq_false, not_false_eq_true, st_v2]
  refine congrArg (fun F => some (nI (bcn g - 1), va_up V 254 F)) ?_
  funext j
  by_cases e1 : j = 1
  · subst e1; rw [clg_1, up_e]
  · rw [up_n e1]
    by_cases e2 : 326 ≤ j ∧ j < 326 + 9
    · rw [fb_put_in e2.1 e2.2]
      unfold clg
      rw [if_neg e1, if_neg (by omega), if_pos (by omega)]
    · rw [fb_put_out (by omega)]
      by_cases e3 : 290 + 9 * b ≤ j ∧ j < 326
      · rw [fb_put_in (by omega) (by omega), clg_i e3.1 e3.2]
        show g (290 + 9 * b + (j - (290 + 9 * b)) + 9) = g (j + 9)
        congr 1; omega
      · rw [fb_put_out (by omega), clg_o e1 (by omega) (by omega)]
theorem mm_cl_1 {a : Int32} (ok : OKg (V 254)) (h : Bad a (bcn (V 254))) : MNo (f_X10_closeIt V a) V 1 := by
  have h5 := ok_b5 ok
  refine MNo.of (r := m1) ?_
  unfold f_X10_closeIt
  simp (disch := omega) only [bd_s, bv_s, lt_d, jn_d, om_s, om_n, zl0, zl1, zl2, zl3, zl4, zl5, zl6, zl7, zl8, zl9, zl10, zl11, zl12, zl13, zl16, zl23, zl24, zl26, zl31, zl32, zl35, zl36, zl40, zl42, zl45, zl48, zl57, zl58, zl59, zl60, zl61, zl62, zl63, zl64, zl65, zl78, zl90, zl94, zl97, zl98, zl114, zl122, zl126, zl244, zl290, zl291, zl326, zl335, zl361, zl2527, zl2888, neg1, le_T, le_F, lt_T, lt_F, eq_T, eq_F, m1_ne, m1_ne', m1_lt, m1_le, lt_m1, le_m1, cl_n, ib_T, nI_add, pk_mul, sub_n, add_m1, sub_m1, m1_1, m1_1', pw_d, st_e, st_n, vu_e, vu_n, up_e, up_n, if_true, if_false, true_or, or_true, false_or, or_false, eq_self, reduceCtorEq, not_true_eq_false, not_false_eq_true, sm_isBra_F (V := V) (ok_bcn ok) (ok_b1 ok) h5 h, sm_th]
theorem mm_cl_2 {b : Nat} (ok : OKg (V 254)) (hb : b < bcn (V 254)) (hn : bcn (V 254) = 1) : MNo (f_X10_closeIt V (nI b)) V 2 := by
  have e := ok_bcn ok
  have h5 := ok_b5 ok
  refine MNo.of (r := m1) ?_
  unfold f_X10_closeIt
  have e2 := e
  rw [hn] at e2
  simp (disch := omega) only [bd_s, bv_s, lt_d, jn_d, om_s, om_n, zl0, zl1, zl2, zl3, zl4, zl5, zl6, zl7, zl8, zl9, zl10, zl11, zl12, zl13, zl16, zl23, zl24, zl26, zl31, zl32, zl35, zl36, zl40, zl42, zl45, zl48, zl57, zl58, zl59, zl60, zl61, zl62, zl63, zl64, zl65, zl78, zl90, zl94, zl97, zl98, zl114, zl122, zl126, zl244, zl290, zl291, zl326, zl335, zl361, zl2527, zl2888, neg1, le_T, le_F, lt_T, lt_F, eq_T, eq_F, m1_ne, m1_ne', m1_lt, m1_le, lt_m1, le_m1, cl_n, ib_T, nI_add, pk_mul, sub_n, add_m1, sub_m1, m1_1, m1_1', pw_d, st_e, st_n, vu_e, vu_n, up_e, up_n, if_true, if_false, true_or, or_true, false_or, or_false, eq_self, reduceCtorEq, not_true_eq_false, not_false_eq_true, sm_isBra_T (V := V) e h5 hb, e2, sm_th]
end MM
