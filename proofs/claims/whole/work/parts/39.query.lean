/-! PURE, 39: the calls that ask: revisions -/
def U0 (W : Mem) : Mem := stv W 253 4 (nI 0)
theorem lt_U {β : Type} (W : Mem) (k : Mem → β) : lt (stv W 253 4 0) k = k (U0 W) := id rfl
theorem U0_254 {W : Mem} : U0 W 254 = W 254 := st_n (by omega)
theorem U0_n {W : Mem} {c : Nat} (h : c ≠ 253) : U0 W c = W c := st_n h
theorem U0_4 {W : Mem} : U0 W 253 4 = nI 0 := by unfold U0; rw [st_e, up_e]
theorem U0_th {W : Mem} {x : Int32} : stv (U0 W) 253 4 x = stv W 253 4 x := by
  unfold U0
  rw [st_s2, st_vu]
  congr 1
  funext j
  by_cases e : j = 4
  · subst e; rw [up_e, up_e]
  · rw [up_n e, up_n e, up_n e]
theorem sam_4 {V : Mem} {W : Mem} (hW : ∀ d, d ≠ 265 → W d = V d) {x : Int32} {h k : Arr} : Sam V (scr (stv W 253 4 x) h k) := by
  refine ⟨fun c hc => ?_, fun j h4 h7 => ?_, fun c a b d e f => ?_⟩
  · rw [scr_n (by omega) (by omega), st_n (by omega)]; exact hW c (by omega)
  · rw [scr_n (by omega) (by omega), st_e, up_n h4, hW 253 (by omega)]
  · rw [scr_n e f, st_n (by omega)]; exact hW c (by omega)
def StepD {α : Type} (V : Mem) (cl : Option (α × Mem)) (md : Mem → Option (α × Mem)) : Prop := ∃ r V2 V4, cl = some (r, V2) ∧ md V2 = some (r, V4) ∧ Inv V4
section QF
variable {V : Mem}
theorem q_T {cl : Option (Int32 × Mem)} {md : Mem → Option (Int32 × Mem)} {r : Int32} (I : Inv V) (hcl : cl = some (nI 0, stv V 265 0 r)) (hmd : ∀ W, W 254 = V 254 → ∃ h k, md W = some (r, scr (U0 W) h k)) : StepR V cl md := by
  obtain ⟨h, k, e⟩ := hmd (stv V 265 0 r) (st_n (by omega))
  refine ⟨nI 0, _, r, _, hcl, e, ?_, fun _ => ?_, I.sam (sam_4 (fun d hd => st_n hd))⟩
  · rw [scr_n (by omega) (by omega), U0_4]
  · rw [scr_n (by omega) (by omega), U0_n (by omega), st_e, up_e]
theorem q_F {cl : Option (Int32 × Mem)} {md : Mem → Option (Int32 × Mem)} {code : Nat} (I : Inv V) (h0 : 0 < code) (h9 : code < 9) (hcl : cl = some (nI code, V)) (hmd : ∀ W, W 254 = V 254 → ∃ b h k, md W = some (b, scr (stv W 253 4 (nI code)) h k)) : StepR V cl md := by
  obtain ⟨b, h, k, e⟩ := hmd V rfl
  refine ⟨nI code, V, b, _, hcl, e, ?_, fun z => absurd z (nI_ne0 h0 (by omega)), I.sam (sam_4 (fun d hd => rfl))⟩
  rw [scr_n (by omega) (by omega), st_e, up_e]
theorem q_D {α : Type} {cl : Option (α × Mem)} {md : Mem → Option (α × Mem)} {r : α} (I : Inv V) (hcl : cl = some (r, V)) (hmd : ∃ h k, md V = some (r, scr (U0 V) h k)) : StepD V cl md := by
  obtain ⟨h, k, e⟩ := hmd
  exact ⟨r, V, _, hcl, e, I.sam (sam_4 (fun d hd => rfl))⟩
theorem ex_sc {α : Type} {o : Option (α × Mem)} {U : Mem} {r : α} (h : o = some (r, U)) : ∃ h k, o = some (r, scr U h k) := ⟨U 259, U 260, by rw [scr_id]; exact h⟩
theorem ex_sc2 {α : Type} {o : Option (α × Mem)} {U : Mem} {r : α} (h : o = some (r, U)) : ∃ b h k, o = some (b, scr U h k) := ⟨r, U 259, U 260, by rw [scr_id]; exact h⟩
variable {g : Arr}
theorem cx_rqR {r : Nat} (ok : OKg g) (R : RelS V g) (hr : r < cnt g) : f_X9_requireRevision V (nI r) = some (0, V) := by
  unfold f_X9_requireRevision
  simp (disch := omega) only [bd_s, bv_s, lt_d, jn_d, om_s, om_n, zl0, zl1, zl2, zl3, zl4, zl5, zl6, zl7, zl8, zl9, zl10, zl11, zl12, zl13, zl16, zl23, zl24, zl26, zl31, zl32, zl35, zl36, zl40, zl42, zl45, zl48, zl57, zl58, zl59, zl60, zl61, zl62, zl63, zl64, zl65, zl78, zl90, zl94, zl97, zl98, zl114, zl122, zl126, zl244, zl290, zl291, zl326, zl335, zl361, zl2527, zl2888, neg1, le_T, le_F, lt_T, lt_F, eq_T, eq_F, m1_ne, m1_ne', m1_lt, m1_le, lt_m1, le_m1, cl_n, ib_T, nI_add, pk_mul, sub_n, add_m1, sub_m1, m1_1, m1_1', pw_d, st_e, st_n, vu_e, vu_n, up_e, up_n, if_true, if_false, true_or, or_true, false_or, or_false, eq_self, reduceCtorEq, not_true_eq_false, not_false_eq_true, cx_has ok R hr]
theorem cx_rqR_B {a : Int32} (ok : OKg g) (R : RelS V g) (h : Bad a (cnt g)) : f_X9_requireRevision V a = some (3, V) := by
  unfold f_X9_requireRevision
  simp (disch := omega) only [bd_s, bv_s, lt_d, jn_d, om_s, om_n, zl0, zl1, zl2, zl3, zl4, zl5, zl6, zl7, zl8, zl9, zl10, zl11, zl12, zl13, zl16, zl23, zl24, zl26, zl31, zl32, zl35, zl36, zl40, zl42, zl45, zl48, zl57, zl58, zl59, zl60, zl61, zl62, zl63, zl64, zl65, zl78, zl90, zl94, zl97, zl98, zl114, zl122, zl126, zl244, zl290, zl291, zl326, zl335, zl361, zl2527, zl2888, neg1, le_T, le_F, lt_T, lt_F, eq_T, eq_F, m1_ne, m1_ne', m1_lt, m1_le, lt_m1, le_m1, cl_n, ib_T, nI_add, pk_mul, sub_n, add_m1, sub_m1, m1_1, m1_1', pw_d, st_e, st_n, vu_e, vu_n, up_e, up_n, if_true, if_false, true_or, or_true, false_or, or_false, eq_self, reduceCtorEq, not_true_eq_false, not_false_eq_true, cx_has_B ok R h]
theorem cx_rqF {f : Nat} (hf : f < 8) : f_X9_requireField V (nI f) = some (0, V) := by
  unfold f_X9_requireField
  simp (disch := omega) only [bd_s, bv_s, lt_d, jn_d, om_s, om_n, zl0, zl1, zl2, zl3, zl4, zl5, zl6, zl7, zl8, zl9, zl10, zl11, zl12, zl13, zl16, zl23, zl24, zl26, zl31, zl32, zl35, zl36, zl40, zl42, zl45, zl48, zl57, zl58, zl59, zl60, zl61, zl62, zl63, zl64, zl65, zl78, zl90, zl94, zl97, zl98, zl114, zl122, zl126, zl244, zl290, zl291, zl326, zl335, zl361, zl2527, zl2888, neg1, le_T, le_F, lt_T, lt_F, eq_T, eq_F, m1_ne, m1_ne', m1_lt, m1_le, lt_m1, le_m1, cl_n, ib_T, nI_add, pk_mul, sub_n, add_m1, sub_m1, m1_1, m1_1', pw_d, st_e, st_n, vu_e, vu_n, up_e, up_n, if_true, if_false, true_or, or_true, false_or, or_false, eq_self, reduceCtorEq, not_true_eq_false, not_false_eq_true, sx_isField (V := V) hf]
theorem cx_rqF_B {a : Int32} (h : Bad a 8) : f_X9_requireField V a = some (1, V) := by
  unfold f_X9_requireField
  simp (disch := omega) only [bd_s, bv_s, lt_d, jn_d, om_s, om_n, zl0, zl1, zl2, zl3, zl4, zl5, zl6, zl7, zl8, zl9, zl10, zl11, zl12, zl13, zl16, zl23, zl24, zl26, zl31, zl32, zl35, zl36, zl40, zl42, zl45, zl48, zl57, zl58, zl59, zl60, zl61, zl62, zl63, zl64, zl65, zl78, zl90, zl94, zl97, zl98, zl114, zl122, zl126, zl244, zl290, zl291, zl326, zl335, zl361, zl2527, zl2888, neg1, le_T, le_F, lt_T, lt_F, eq_T, eq_F, m1_ne, m1_ne', m1_lt, m1_le, lt_m1, le_m1, cl_n, ib_T, nI_add, pk_mul, sub_n, add_m1, sub_m1, m1_1, m1_1', pw_d, st_e, st_n, vu_e, vu_n, up_e, up_n, if_true, if_false, true_or, or_true, false_or, or_false, eq_self, reduceCtorEq, not_true_eq_false, not_false_eq_true, sx_isField_B (V := V) h]
theorem cx_rqB {b : Nat} (ok : OKg g) (R : RelS V g) (hb : b < bcn g) : f_X9_requireBranch V (nI b) = some (0, V) := by
  unfold f_X9_requireBranch
  simp (disch := omega) only [bd_s, bv_s, lt_d, jn_d, om_s, om_n, zl0, zl1, zl2, zl3, zl4, zl5, zl6, zl7, zl8, zl9, zl10, zl11, zl12, zl13, zl16, zl23, zl24, zl26, zl31, zl32, zl35, zl36, zl40, zl42, zl45, zl48, zl57, zl58, zl59, zl60, zl61, zl62, zl63, zl64, zl65, zl78, zl90, zl94, zl97, zl98, zl114, zl122, zl126, zl244, zl290, zl291, zl326, zl335, zl361, zl2527, zl2888, neg1, le_T, le_F, lt_T, lt_F, eq_T, eq_F, m1_ne, m1_ne', m1_lt, m1_le, lt_m1, le_m1, cl_n, ib_T, nI_add, pk_mul, sub_n, add_m1, sub_m1, m1_1, m1_1', pw_d, st_e, st_n, vu_e, vu_n, up_e, up_n, if_true, if_false, true_or, or_true, false_or, or_false, eq_self, reduceCtorEq, not_true_eq_false, not_false_eq_true, cx_hasB ok R hb]
theorem cx_rqB_B {a : Int32} (ok : OKg g) (R : RelS V g) (h : Bad a (bcn g)) : f_X9_requireBranch V a = some (1, V) := by
  unfold f_X9_requireBranch
  simp (disch := omega) only [bd_s, bv_s, lt_d, jn_d, om_s, om_n, zl0, zl1, zl2, zl3, zl4, zl5, zl6, zl7, zl8, zl9, zl10, zl11, zl12, zl13, zl16, zl23, zl24, zl26, zl31, zl32, zl35, zl36, zl40, zl42, zl45, zl48, zl57, zl58, zl59, zl60, zl61, zl62, zl63, zl64, zl65, zl78, zl90, zl94, zl97, zl98, zl114, zl122, zl126, zl244, zl290, zl291, zl326, zl335, zl361, zl2527, zl2888, neg1, le_T, le_F, lt_T, lt_F, eq_T, eq_F, m1_ne, m1_ne', m1_lt, m1_le, lt_m1, le_m1, cl_n, ib_T, nI_add, pk_mul, sub_n, add_m1, sub_m1, m1_1, m1_1', pw_d, st_e, st_n, vu_e, vu_n, up_e, up_n, if_true, if_false, true_or, or_true, false_or, or_false, eq_self, reduceCtorEq, not_true_eq_false, not_false_eq_true, cx_hasB_B ok R h]
theorem cx_rqP {b o : Nat} (ok : OKg g) (R : RelS V g) (hb : b < bcn g) (ho : o < bcn g) (hne : b ≠ o) : f_X9_requirePair V (nI b) (nI o) = some (0, V) := by
  unfold f_X9_requirePair
  rw [cx_pair ok R hb ho hne, bd_s, refuse_0, bw0_0]
theorem cx_rqP_1 {a d : Int32} (ok : OKg g) (R : RelS V g) (h : Bad a (bcn g) ∨ Bad d (bcn g)) : f_X9_requirePair V a d = some (1, V) := by
  unfold f_X9_requirePair
  rw [cx_pair_1 ok R h, bd_s, refuse_1, bw0_n]
theorem cx_rqP_2 {b : Nat} (ok : OKg g) (R : RelS V g) (hb : b < bcn g) : f_X9_requirePair V (nI b) (nI b) = some (2, V) := by
  unfold f_X9_requirePair
  rw [cx_pair_2 ok R hb, bd_s, refuse_2, bw0_n]
theorem rq_pres (x : Int32) (h : ¬ x = m1) : f_X9_requirePresent V x = some (0, x, V) := by
  unfold f_X9_requirePresent
  rw [if_neg (show ¬ x = -1 from h)]
theorem rq_pres_m : f_X9_requirePresent V m1 = some (3, 0, V) := by
  unfold f_X9_requirePresent
  rw [if_pos (show m1 = -1 from rfl)]
/-! one revision -/
theorem mq_rev {W : Mem} (ok : OKg (V 254)) (hW : W 254 = V 254) {r : Nat} (hr : r < cnt (V 254)) : f_X10_isRevision (U0 W) (nI r) = some (nI 1, U0 W) :=
  sm_isRev_T (V := U0 W) (n := cnt (V 254)) (by rw [U0_254, hW]; exact ok_cnt ok) (ok_c24 ok) hr
theorem mq_rev_B {W : Mem} (ok : OKg (V 254)) (hW : W 254 = V 254) {a : Int32} (h : Bad a (cnt (V 254))) : f_X10_isRevision (U0 W) a = some (nI 0, U0 W) :=
  sm_isRev_F (V := U0 W) (n := cnt (V 254)) (by rw [U0_254, hW]; exact ok_cnt ok) (ok_c1 ok) (ok_c24 ok) h
theorem mq_bra {W : Mem} (ok : OKg (V 254)) (hW : W 254 = V 254) {b : Nat} (hb : b < bcn (V 254)) : f_X10_isBranch (U0 W) (nI b) = some (nI 1, U0 W) :=
  sm_isBra_T (V := U0 W) (n := bcn (V 254)) (by rw [U0_254, hW]; exact ok_bcn ok) (ok_b5 ok) hb
theorem mq_bra_B {W : Mem} (ok : OKg (V 254)) (hW : W 254 = V 254) {a : Int32} (h : Bad a (bcn (V 254))) : f_X10_isBranch (U0 W) a = some (nI 0, U0 W) :=
  sm_isBra_F (V := U0 W) (n := bcn (V 254)) (by rw [U0_254, hW]; exact ok_bcn ok) (ok_b1 ok) (ok_b5 ok) h
theorem rev_or {g : Arr} (ok : OKg g) (a : Int32) : (∃ r, r < cnt g ∧ a = nI r) ∨ Bad a (cnt g) := bad_or a (by have := ok_c24 ok; omega)
theorem bra_or {g : Arr} (ok : OKg g) (a : Int32) : (∃ b, b < bcn g ∧ a = nI b) ∨ Bad a (bcn g) := bad_or a (by have := ok_b5 ok; omega)
theorem st_isArchived (I : Inv V) (a : Int32) : StepR V (f_L_isArchived V a) (fun W => f_X10_isArchived W a) := by
  obtain ⟨ok, R⟩ := I.1
  have hc := ok_c24 ok
  rcases rev_or ok a with ⟨r, hr, rfl⟩ | hB
  · refine q_T (r := if V 254 (2 + 12 * r + 3) = nI 1 then nI 1 else nI 0) I ?_ (fun W hW => ex_sc ?_)
    · have ra := rl_a R hr
      unfold arc at ra
      unfold f_L_isArchived f_X9_isArchived
      rw [cx_rqR ok R hr, bw_0, cx_inA ok hr, bd_s]
      by_cases q : V 254 (2 + 12 * r + 3) = nI 1
      · rw [if_pos q, if_pos (ra.mpr q)]; rfl
      · rw [if_neg q, if_neg (fun z => q (ra.mp z))]; rfl
    · unfold f_X10_isArchived
      rw [lt_U, mq_rev ok hW hr, bd_s]
      have e : U0 W 254 (2 + 12 * r + 3) = V 254 (2 + 12 * r + 3) := by rw [U0_254, hW]
      by_cases q : V 254 (2 + 12 * r + 3) = nI 1
      · simp (disch := omega) only [bd_s, bv_s, lt_d, jn_d, om_s, om_n, zl0, zl1, zl2, zl3, zl4, zl5, zl6, zl7, zl8, zl9, zl10, zl11, zl12, zl13, zl16, zl23, zl24, zl26, zl31, zl32, zl35, zl36, zl40, zl42, zl45, zl48, zl57, zl58, zl59, zl60, zl61, zl62, zl63, zl64, zl65, zl78, zl90, zl94, zl97, zl98, zl114, zl122, zl126, zl244, zl290, zl291, zl326, zl335, zl361, zl2527, zl2888, neg1, le_T, le_F, lt_T, lt_F, eq_T, eq_F, m1_ne, m1_ne', m1_lt, m1_le, lt_m1, le_m1, cl_n, ib_T, nI_add, pk_mul, sub_n, add_m1, sub_m1, m1_1, m1_1', pw_d, st_e, st_n, vu_e, vu_n, up_e, up_n, if_true, if_false, true_or, or_true, false_or, or_false, eq_self, reduceCtorEq, not_true_eq_false, not_false_eq_true, sm_revAt, e, q]
      · simp (disch := omega) only [bd_s, bv_s, lt_d, jn_d, om_s, om_n, zl0, zl1, zl2, zl3, zl4, zl5, zl6, zl7, zl8, zl9, zl10, zl11, zl12, zl13, zl16, zl23, zl24, zl26, zl31, zl32, zl35, zl36, zl40, zl42, zl45, zl48, zl57, zl58, zl59, zl60, zl61, zl62, zl63, zl64, zl65, zl78, zl90, zl94, zl97, zl98, zl114, zl122, zl126, zl244, zl290, zl291, zl326, zl335, zl361, zl2527, zl2888, neg1, le_T, le_F, lt_T, lt_F, eq_T, eq_F, m1_ne, m1_ne', m1_lt, m1_le, lt_m1, le_m1, cl_n, ib_T, nI_add, pk_mul, sub_n, add_m1, sub_m1, m1_1, m1_1', pw_d, st_e, st_n, vu_e, vu_n, up_e, up_n, if_true, if_false, true_or, or_true, false_or, or_false, eq_self, reduceCtorEq, not_true_eq_false, not_false_eq_true, sm_revAt, e, q]
  · refine q_F (code := 1) I (by omega) (by omega) ?_ (fun W hW => ex_sc2 (r := nI 0) ?_)
    · unfold f_L_isArchived f_X9_isArchived
      rw [cx_rqR_B ok R hB, bw_n, bh_n]; rfl
    · unfold f_X10_isArchived
      rw [lt_U, mq_rev_B ok hW hB, bd_s]
      simp (disch := omega) only [bd_s, bv_s, lt_d, jn_d, om_s, om_n, zl0, zl1, zl2, zl3, zl4, zl5, zl6, zl7, zl8, zl9, zl10, zl11, zl12, zl13, zl16, zl23, zl24, zl26, zl31, zl32, zl35, zl36, zl40, zl42, zl45, zl48, zl57, zl58, zl59, zl60, zl61, zl62, zl63, zl64, zl65, zl78, zl90, zl94, zl97, zl98, zl114, zl122, zl126, zl244, zl290, zl291, zl326, zl335, zl361, zl2527, zl2888, neg1, le_T, le_F, lt_T, lt_F, eq_T, eq_F, m1_ne, m1_ne', m1_lt, m1_le, lt_m1, le_m1, cl_n, ib_T, nI_add, pk_mul, sub_n, add_m1, sub_m1, m1_1, m1_1', pw_d, st_e, st_n, vu_e, vu_n, up_e, up_n, if_true, if_false, true_or, or_true, false_or, or_false, eq_self, reduceCtorEq, not_true_eq_false, not_false_eq_true, sm_th, U0_th]
theorem mq_par {W : Mem} (ok : OKg (V 254)) (hW : W 254 = V 254) {r w : Nat} (hr : r < cnt (V 254)) (hw : w < 2) : f_X10_parent W (nI r) (nI w) = if V 254 (2 + 12 * r + w) = m1 then some (m1, stv W 253 4 (nI 1)) else some (V 254 (2 + 12 * r + w), U0 W) := by
  have hc := ok_c24 ok
  have e : U0 W 254 (2 + 12 * r + w) = V 254 (2 + 12 * r + w) := by rw [U0_254, hW]
  unfold f_X10_parent
  rw [lt_U, mq_rev ok hW hr, bd_s]
  by_cases q : V 254 (2 + 12 * r + w) = m1
  · rw [if_pos q]
    simp (disch := omega) only [bd_s, bv_s, lt_d, jn_d, om_s, om_n, zl0, zl1, zl2, zl3, zl4, zl5, zl6, zl7, zl8, zl9, zl10, zl11, zl12, zl13, zl16, zl23, zl24, zl26, zl31, zl32, zl35, zl36, zl40, zl42, zl45, zl48, zl57, zl58, zl59, zl60, zl61, zl62, zl63, zl64, zl65, zl78, zl90, zl94, zl97, zl98, zl114, zl122, zl126, zl244, zl290, zl291, zl326, zl335, zl361, zl2527, zl2888, neg1, le_T, le_F, lt_T, lt_F, eq_T, eq_F, m1_ne, m1_ne', m1_lt, m1_le, lt_m1, le_m1, cl_n, ib_T, nI_add, pk_mul, sub_n, add_m1, sub_m1, m1_1, m1_1', pw_d, st_e, st_n, vu_e, vu_n, up_e, up_n, if_true, if_false, true_or, or_true, false_or, or_false, eq_self, reduceCtorEq, not_true_eq_false, not_false_eq_true, sm_revAt, e, q, sm_th, U0_th]
  · rw [if_neg q]
    simp (disch := omega) only [bd_s, bv_s, lt_d, jn_d, om_s, om_n, zl0, zl1, zl2, zl3, zl4, zl5, zl6, zl7, zl8, zl9, zl10, zl11, zl12, zl13, zl16, zl23, zl24, zl26, zl31, zl32, zl35, zl36, zl40, zl42, zl45, zl48, zl57, zl58, zl59, zl60, zl61, zl62, zl63, zl64, zl65, zl78, zl90, zl94, zl97, zl98, zl114, zl122, zl126, zl244, zl290, zl291, zl326, zl335, zl361, zl2527, zl2888, neg1, le_T, le_F, lt_T, lt_F, eq_T, eq_F, m1_ne, m1_ne', m1_lt, m1_le, lt_m1, le_m1, cl_n, ib_T, nI_add, pk_mul, sub_n, add_m1, sub_m1, m1_1, m1_1', pw_d, st_e, st_n, vu_e, vu_n, up_e, up_n, if_true, if_false, true_or, or_true, false_or, or_false, eq_self, reduceCtorEq, not_true_eq_false, not_false_eq_true, sm_revAt, e, q]
theorem mq_par_B {W : Mem} (ok : OKg (V 254)) (hW : W 254 = V 254) {a w : Int32} (h : Bad a (cnt (V 254))) : f_X10_parent W a w = some (m1, stv W 253 4 (nI 1)) := by
  unfold f_X10_parent
  rw [lt_U, mq_rev_B ok hW h, bd_s]
  simp (disch := omega) only [bd_s, bv_s, lt_d, jn_d, om_s, om_n, zl0, zl1, zl2, zl3, zl4, zl5, zl6, zl7, zl8, zl9, zl10, zl11, zl12, zl13, zl16, zl23, zl24, zl26, zl31, zl32, zl35, zl36, zl40, zl42, zl45, zl48, zl57, zl58, zl59, zl60, zl61, zl62, zl63, zl64, zl65, zl78, zl90, zl94, zl97, zl98, zl114, zl122, zl126, zl244, zl290, zl291, zl326, zl335, zl361, zl2527, zl2888, neg1, le_T, le_F, lt_T, lt_F, eq_T, eq_F, m1_ne, m1_ne', m1_lt, m1_le, lt_m1, le_m1, cl_n, ib_T, nI_add, pk_mul, sub_n, add_m1, sub_m1, m1_1, m1_1', pw_d, st_e, st_n, vu_e, vu_n, up_e, up_n, if_true, if_false, true_or, or_true, false_or, or_false, eq_self, reduceCtorEq, not_true_eq_false, not_false_eq_true, sm_th, U0_th]
theorem st_firstParent (I : Inv V) (a : Int32) : StepR V (f_L_firstParent V a) (fun W => f_X10_firstParent W a) := by
  obtain ⟨ok, R⟩ := I.1
  have hc := ok_c24 ok
  rcases rev_or ok a with ⟨r, hr, rfl⟩ | hB
  · by_cases q : V 254 (2 + 12 * r) = m1
    · refine q_F (code := 1) I (by omega) (by omega) ?_ (fun W hW => ex_sc2 (r := m1) ?_)
      · unfold f_L_firstParent f_X9_firstParent
        rw [cx_rqR ok R hr, bw_0, cx_fp ok R hr, bd_s, q, rq_pres_m, bx_n, bh_n]; rfl
      · unfold f_X10_firstParent
        rw [show (0 : Int32) = nI 0 from rfl, mq_par ok hW hr (by omega), Nat.add_zero, if_pos q, bd_s]
    · refine q_T (r := V 254 (2 + 12 * r)) I ?_ (fun W hW => ex_sc ?_)
      · unfold f_L_firstParent f_X9_firstParent
        rw [cx_rqR ok R hr, bw_0, cx_fp ok R hr, bd_s, rq_pres _ q, bx_0, bh_0]; rfl
      · unfold f_X10_firstParent
        rw [show (0 : Int32) = nI 0 from rfl, mq_par ok hW hr (by omega), Nat.add_zero, if_neg q, bd_s]
  · refine q_F (code := 1) I (by omega) (by omega) ?_ (fun W hW => ex_sc2 (r := m1) ?_)
    · unfold f_L_firstParent f_X9_firstParent
      rw [cx_rqR_B ok R hB, bw_n, bh_n]; rfl
    · unfold f_X10_firstParent
      rw [mq_par_B ok hW hB, bd_s]
theorem st_secondParent (I : Inv V) (a : Int32) : StepR V (f_L_secondParent V a) (fun W => f_X10_secondParent W a) := by
  obtain ⟨ok, R⟩ := I.1
  have hc := ok_c24 ok
  rcases rev_or ok a with ⟨r, hr, rfl⟩ | hB
  · by_cases q : V 254 (2 + 12 * r + 1) = m1
    · refine q_F (code := 1) I (by omega) (by omega) ?_ (fun W hW => ex_sc2 (r := m1) ?_)
      · unfold f_L_secondParent f_X9_secondParent
        rw [cx_rqR ok R hr, bw_0, cx_sp ok R hr, bd_s, q, rq_pres_m, bx_n, bh_n]; rfl
      · unfold f_X10_secondParent
        rw [show (1 : Int32) = nI 1 from rfl, mq_par ok hW hr (by omega), if_pos q, bd_s]
    · refine q_T (r := V 254 (2 + 12 * r + 1)) I ?_ (fun W hW => ex_sc ?_)
      · unfold f_L_secondParent f_X9_secondParent
        rw [cx_rqR ok R hr, bw_0, cx_sp ok R hr, bd_s, rq_pres _ q, bx_0, bh_0]; rfl
      · unfold f_X10_secondParent
        rw [show (1 : Int32) = nI 1 from rfl, mq_par ok hW hr (by omega), if_neg q, bd_s]
  · refine q_F (code := 1) I (by omega) (by omega) ?_ (fun W hW => ex_sc2 (r := m1) ?_)
    · unfold f_L_secondParent f_X9_secondParent
      rw [cx_rqR_B ok R hB, bw_n, bh_n]; rfl
    · unfold f_X10_secondParent
      rw [mq_par_B ok hW hB, bd_s]
theorem st_authorOf (I : Inv V) (a : Int32) : StepR V (f_L_authorOf V a) (fun W => f_X10_authorOf W a) := by
  obtain ⟨ok, R⟩ := I.1
  have hc := ok_c24 ok
  rcases rev_or ok a with ⟨r, hr, rfl⟩ | hB
  · refine q_T (r := V 254 (2 + 12 * r + 2)) I ?_ (fun W hW => ex_sc ?_)
    · unfold f_L_authorOf f_X9_authorOf
      rw [cx_rqR ok R hr, bw_0, cx_wr ok R hr, bd_s, bh_0]; rfl
    · unfold f_X10_authorOf
      rw [lt_U, mq_rev ok hW hr, bd_s]
      simp (disch := omega) only [bd_s, bv_s, lt_d, jn_d, om_s, om_n, zl0, zl1, zl2, zl3, zl4, zl5, zl6, zl7, zl8, zl9, zl10, zl11, zl12, zl13, zl16, zl23, zl24, zl26, zl31, zl32, zl35, zl36, zl40, zl42, zl45, zl48, zl57, zl58, zl59, zl60, zl61, zl62, zl63, zl64, zl65, zl78, zl90, zl94, zl97, zl98, zl114, zl122, zl126, zl244, zl290, zl291, zl326, zl335, zl361, zl2527, zl2888, neg1, le_T, le_F, lt_T, lt_F, eq_T, eq_F, m1_ne, m1_ne', m1_lt, m1_le, lt_m1, le_m1, cl_n, ib_T, nI_add, pk_mul, sub_n, add_m1, sub_m1, m1_1, m1_1', pw_d, st_e, st_n, vu_e, vu_n, up_e, up_n, if_true, if_false, true_or, or_true, false_or, or_false, eq_self, reduceCtorEq, not_true_eq_false, not_false_eq_true, sm_revAt, show U0 W 254 (2 + 12 * r + 2) = V 254 (2 + 12 * r + 2) by rw [U0_254, hW]]
  · refine q_F (code := 1) I (by omega) (by omega) ?_ (fun W hW => ex_sc2 (r := m1) ?_)
    · unfold f_L_authorOf f_X9_authorOf
      rw [cx_rqR_B ok R hB, bw_n, bh_n]; rfl
    · unfold f_X10_authorOf
      rw [lt_U, mq_rev_B ok hW hB, bd_s]
      simp (disch := omega) only [bd_s, bv_s, lt_d, jn_d, om_s, om_n, zl0, zl1, zl2, zl3, zl4, zl5, zl6, zl7, zl8, zl9, zl10, zl11, zl12, zl13, zl16, zl23, zl24, zl26, zl31, zl32, zl35, zl36, zl40, zl42, zl45, zl48, zl57, zl58, zl59, zl60, zl61, zl62, zl63, zl64, zl65, zl78, zl90, zl94, zl97, zl98, zl114, zl122, zl126, zl244, zl290, zl291, zl326, zl335, zl361, zl2527, zl2888, neg1, le_T, le_F, lt_T, lt_F, eq_T, eq_F, m1_ne, m1_ne', m1_lt, m1_le, lt_m1, le_m1, cl_n, ib_T, nI_add, pk_mul, sub_n, add_m1, sub_m1, m1_1, m1_1', pw_d, st_e, st_n, vu_e, vu_n, up_e, up_n, if_true, if_false, true_or, or_true, false_or, or_false, eq_self, reduceCtorEq, not_true_eq_false, not_false_eq_true, sm_th, U0_th]
theorem mq_ok {W : Mem} (ok : OKg (V 254)) (hW : W 254 = V 254) : OKg (U0 W 254) := by rw [U0_254, hW]; exact ok
theorem st_generation (I : Inv V) (a : Int32) : StepR V (f_L_generation V a) (fun W => f_X10_generation W a) := by
  obtain ⟨ok, R⟩ := I.1
  rcases rev_or ok a with ⟨r, hr, rfl⟩ | hB
  · refine q_T (r := Gg (V 254) r) I ?_ (fun W hW => ?_)
    · unfold f_L_generation f_X9_generation
      rw [cx_rqR ok R hr, bw_0, cx_gn ok R hr, bd_s, bh_0]; rfl
    · obtain ⟨h, k, e⟩ := (sm_gen (V := U0 W) (r := r) (mq_ok ok hW) (by rw [U0_254, hW]; exact hr)).at
      refine ⟨h, k, ?_⟩
      have e : f_X10_generationOf (U0 W) (nI r) = some (Gg (U0 W 254) r, scr (U0 W) h k) := e
      rw [U0_254, hW] at e
      show f_X10_generation W (nI r) = _
      unfold f_X10_generation
      rw [lt_U, mq_rev ok hW hr, bd_s, if_neg (by decide), e, bd_s]
  · refine q_F (code := 1) I (by omega) (by omega) ?_ (fun W hW => ex_sc2 (r := m1) ?_)
    · unfold f_L_generation f_X9_generation
      rw [cx_rqR_B ok R hB, bw_n, bh_n]; rfl
    · unfold f_X10_generation
      rw [lt_U, mq_rev_B ok hW hB, bd_s]
      simp (disch := omega) only [bd_s, bv_s, lt_d, jn_d, om_s, om_n, zl0, zl1, zl2, zl3, zl4, zl5, zl6, zl7, zl8, zl9, zl10, zl11, zl12, zl13, zl16, zl23, zl24, zl26, zl31, zl32, zl35, zl36, zl40, zl42, zl45, zl48, zl57, zl58, zl59, zl60, zl61, zl62, zl63, zl64, zl65, zl78, zl90, zl94, zl97, zl98, zl114, zl122, zl126, zl244, zl290, zl291, zl326, zl335, zl361, zl2527, zl2888, neg1, le_T, le_F, lt_T, lt_F, eq_T, eq_F, m1_ne, m1_ne', m1_lt, m1_le, lt_m1, le_m1, cl_n, ib_T, nI_add, pk_mul, sub_n, add_m1, sub_m1, m1_1, m1_1', pw_d, st_e, st_n, vu_e, vu_n, up_e, up_n, if_true, if_false, true_or, or_true, false_or, or_false, eq_self, reduceCtorEq, not_true_eq_false, not_false_eq_true, sm_th, U0_th]
theorem ch_n {c : Nat} (h : c < 65536) : ((nI c).toUInt32 % 65536).toInt32 = nI c := by
  rw [pk_char, pk_tn (by omega), Nat.mod_eq_of_lt h]
theorem ch_let {x : Int32} (h : Let x) : (x.toUInt32 % 65536).toInt32 = x := by
  obtain ⟨c, h1, h2, rfl⟩ := h
  exact ch_n (by omega)
theorem st_letterIn (I : Inv V) (a d : Int32) : StepR V (f_L_letterIn V a d) (fun W => f_X10_letterIn W a d) := by
  obtain ⟨ok, R⟩ := I.1
  have hc := ok_c24 ok
  rcases rev_or ok a with ⟨r, hr, rfl⟩ | hB
  · rcases bad_or d (show 8 < 2 ^ 31 by omega) with ⟨f, hf, rfl⟩ | hF
    · have hl := ch_let (ok_le ok hr hf)
      refine q_T (r := V 254 (2 + 12 * r + 4 + f)) I ?_ (fun W hW => ex_sc ?_)
      · unfold f_L_letterIn f_X9_letterIn
        rw [cx_rqR ok R hr, bw_0, cx_rqF hf, bw_0, cx_le ok R hr hf, bd_s, hl, bh_0]; rfl
      · unfold f_X10_letterIn
        rw [lt_U, mq_rev ok hW hr, bd_s, if_neg (by decide), sm_isFld_T hf, bd_s, if_neg (by decide), sm_letter (by omega) hf, bd_s, U0_254, hW, hl]
    · refine q_F (code := 2) I (by omega) (by omega) ?_ (fun W hW => ex_sc2 (r := (m1.toUInt32 % 65536).toInt32) ?_)
      · unfold f_L_letterIn f_X9_letterIn
        rw [cx_rqR ok R hr, bw_0, cx_rqF_B hF, bw_n, bh_n]; rfl
      · unfold f_X10_letterIn
        rw [lt_U, mq_rev ok hW hr, bd_s, if_neg (by decide), sm_isFld_F hF, bd_s, if_pos (by decide), sm_th, bd_s, U0_th]; rfl
  · refine q_F (code := 1) I (by omega) (by omega) ?_ (fun W hW => ex_sc2 (r := (m1.toUInt32 % 65536).toInt32) ?_)
    · unfold f_L_letterIn f_X9_letterIn
      rw [cx_rqR_B ok R hB, bw_n, bh_n]; rfl
    · unfold f_X10_letterIn
      rw [lt_U, mq_rev_B ok hW hB, bd_s, if_pos (by decide), sm_th, bd_s, U0_th]; rfl
/-! two revisions -/
theorem mq_asks {W : Mem} (ok : OKg (V 254)) (hW : W 254 = V 254) {r s : Nat} (hr : r < cnt (V 254)) (hs : s < cnt (V 254)) : f_X10_asks W (nI r) (nI s) = some (nI 1, U0 W) := by
  unfold f_X10_asks
  rw [lt_U, mq_rev ok hW hr, bd_s]
  simp (disch := omega) only [bd_s, bv_s, lt_d, jn_d, om_s, om_n, zl0, zl1, zl2, zl3, zl4, zl5, zl6, zl7, zl8, zl9, zl10, zl11, zl12, zl13, zl16, zl23, zl24, zl26, zl31, zl32, zl35, zl36, zl40, zl42, zl45, zl48, zl57, zl58, zl59, zl60, zl61, zl62, zl63, zl64, zl65, zl78, zl90, zl94, zl97, zl98, zl114, zl122, zl126, zl244, zl290, zl291, zl326, zl335, zl361, zl2527, zl2888, neg1, le_T, le_F, lt_T, lt_F, eq_T, eq_F, m1_ne, m1_ne', m1_lt, m1_le, lt_m1, le_m1, cl_n, ib_T, nI_add, pk_mul, sub_n, add_m1, sub_m1, m1_1, m1_1', pw_d, st_e, st_n, vu_e, vu_n, up_e, up_n, if_true, if_false, true_or, or_true, false_or, or_false, eq_self, reduceCtorEq, not_true_eq_false, not_false_eq_true, mq_rev ok hW hs, U0_4]
theorem mq_asks_B {W : Mem} (ok : OKg (V 254)) (hW : W 254 = V 254) {a d : Int32} (h : Bad a (cnt (V 254)) ∨ Bad d (cnt (V 254))) : f_X10_asks W a d = some (nI 0, stv W 253 4 (nI 1)) := by
  have hc := ok_c24 ok
  unfold f_X10_asks
  rw [lt_U]
  rcases rev_or ok a with ⟨r, hr, rfl⟩ | hB
  · have q := h.resolve_left (fun q => by
      rcases q with q | q
      · rw [lt_F (by omega) (by omega)] at q; exact q
      · rw [le_F (by omega) (by omega)] at q; exact q)
    rw [mq_rev ok hW hr, bd_s]
    simp (disch := omega) only [bd_s, bv_s, lt_d, jn_d, om_s, om_n, zl0, zl1, zl2, zl3, zl4, zl5, zl6, zl7, zl8, zl9, zl10, zl11, zl12, zl13, zl16, zl23, zl24, zl26, zl31, zl32, zl35, zl36, zl40, zl42, zl45, zl48, zl57, zl58, zl59, zl60, zl61, zl62, zl63, zl64, zl65, zl78, zl90, zl94, zl97, zl98, zl114, zl122, zl126, zl244, zl290, zl291, zl326, zl335, zl361, zl2527, zl2888, neg1, le_T, le_F, lt_T, lt_F, eq_T, eq_F, m1_ne, m1_ne', m1_lt, m1_le, lt_m1, le_m1, cl_n, ib_T, nI_add, pk_mul, sub_n, add_m1, sub_m1, m1_1, m1_1', pw_d, st_e, st_n, vu_e, vu_n, up_e, up_n, if_true, if_false, true_or, or_true, false_or, or_false, eq_self, reduceCtorEq, not_true_eq_false, not_false_eq_true, mq_rev_B ok hW q, sm_th, U0_th]
  · rw [mq_rev_B ok hW hB, bd_s]
    simp (disch := omega) only [bd_s, bv_s, lt_d, jn_d, om_s, om_n, zl0, zl1, zl2, zl3, zl4, zl5, zl6, zl7, zl8, zl9, zl10, zl11, zl12, zl13, zl16, zl23, zl24, zl26, zl31, zl32, zl35, zl36, zl40, zl42, zl45, zl48, zl57, zl58, zl59, zl60, zl61, zl62, zl63, zl64, zl65, zl78, zl90, zl94, zl97, zl98, zl114, zl122, zl126, zl244, zl290, zl291, zl326, zl335, zl361, zl2527, zl2888, neg1, le_T, le_F, lt_T, lt_F, eq_T, eq_F, m1_ne, m1_ne', m1_lt, m1_le, lt_m1, le_m1, cl_n, ib_T, nI_add, pk_mul, sub_n, add_m1, sub_m1, m1_1, m1_1', pw_d, st_e, st_n, vu_e, vu_n, up_e, up_n, if_true, if_false, true_or, or_true, false_or, or_false, eq_self, reduceCtorEq, not_true_eq_false, not_false_eq_true, sm_th, U0_th]
theorem cq_two {g : Arr} {β : Type} {d0 : β} (ok : OKg g) (R : RelS V g) {a d : Int32} (h : Bad a (cnt g) ∨ Bad d (cnt g)) (k : Mem → Option (Nat × β × Mem)) : (bw d0 (f_X9_requireRevision V a) fun V2 => bw d0 (f_X9_requireRevision V2 d) k) = some (3, d0, V) := by
  have hc := ok_c24 ok
  rcases rev_or ok a with ⟨r, hr, rfl⟩ | hB
  · have q := h.resolve_left (fun q => by
      rcases q with q | q
      · rw [lt_F (by omega) (by omega)] at q; exact q
      · rw [le_F (by omega) (by omega)] at q; exact q)
    rw [cx_rqR ok R hr, bw_0, cx_rqR_B ok R q, bw_n]
  · rw [cx_rqR_B ok R hB, bw_n]
theorem two_or {g : Arr} (ok : OKg g) (a d : Int32) : (∃ r s, r < cnt g ∧ s < cnt g ∧ a = nI r ∧ d = nI s) ∨ (Bad a (cnt g) ∨ Bad d (cnt g)) := by
  rcases rev_or ok a with ⟨r, hr, rfl⟩ | hB
  · rcases rev_or ok d with ⟨s, hs, rfl⟩ | hD
    · exact .inl ⟨r, s, hr, hs, rfl, rfl⟩
    · exact .inr (.inr hD)
  · exact .inr (.inl hB)
theorem st_isAncestor (I : Inv V) (a d : Int32) : StepR V (f_L_isAncestor V a d) (fun W => f_X10_isAncestor W a d) := by
  obtain ⟨ok, R⟩ := I.1
  have hc := ok_c24 ok
  rcases two_or ok a d with ⟨r, s, hr, hs, rfl, rfl⟩ | h
  · have ct := sx_cont (V := V) (x := Ag (V 254) s) (show r < 24 by omega)
    refine q_T (r := if bt (Ag (V 254) s) r then nI 1 else nI 0) I ?_ (fun W hW => ?_)
    · unfold f_L_isAncestor f_X9_isAncestor
      rw [cx_rqR ok R hr, bw_0, cx_rqR ok R hs, bw_0, cx_as ok R hs, bd_s, ct, bd_s]
      cases bt (Ag (V 254) s) r <;> rfl
    · obtain ⟨h, k, e⟩ := (sm_anc (V := U0 W) (r := s) (mq_ok ok hW) (by rw [U0_254, hW]; exact hs)).at
      refine ⟨h, k, ?_⟩
      have e : f_X10_ancestorsOf (U0 W) (nI s) = some (Ag (U0 W 254) s, scr (U0 W) h k) := e
      rw [U0_254, hW] at e
      show f_X10_isAncestor W (nI r) (nI s) = _
      unfold f_X10_isAncestor
      rw [mq_asks ok hW hr hs, bd_s, if_neg (by decide), e, bd_s, show (31 : Int32) = nI 31 from rfl, show (1 : Int32) = nI 1 from rfl, sh_bt (by omega)]
      cases bt (Ag (V 254) s) r <;> rfl
  · refine q_F (code := 1) I (by omega) (by omega) ?_ (fun W hW => ex_sc2 (r := nI 0) ?_)
    · unfold f_L_isAncestor f_X9_isAncestor
      rw [cq_two ok R h, bh_n]; rfl
    · unfold f_X10_isAncestor
      rw [mq_asks_B ok hW h, bd_s, if_pos (by decide)]; rfl
theorem Ag_hi {g : Arr} (ok : OKg g) {r : Nat} (hr : r < cnt g) : ∀ i, 24 ≤ i → i < 32 → bt (Ag g r) i = false := fun i h1 _ => by
  cases q : bt (Ag g r) i
  · rfl
  · have := anc_le ok hr q; have := ok_c24 ok; omega
theorem mq_cnt {U : Mem} {x : Int32} (L : Int32 → Nat → Mem → Int32 → Int32 → Option (Int32 × Mem)) (h : ∀ n c i, L x (n + 1) U c i = if 24 ≤ i then some (c, U) else L x n U (c + ((x >>> (i &&& 31)) &&& 1)) (i + 1)) : L x FU U 0 0 = some (nI (pcn x), U) := by
  refine lp_run 24 (fun n k => L x n U (nI (fb_ct (fun i => bt x i) k)) (nI k)) _ ?_ ?_ (n := FU) (k := 0) (by omega) (by decide)
  · intro n
    rw [h]
    simp (disch := omega) only [bd_s, bv_s, lt_d, jn_d, om_s, om_n, zl0, zl1, zl2, zl3, zl4, zl5, zl6, zl7, zl8, zl9, zl10, zl11, zl12, zl13, zl16, zl23, zl24, zl26, zl31, zl32, zl35, zl36, zl40, zl42, zl45, zl48, zl57, zl58, zl59, zl60, zl61, zl62, zl63, zl64, zl65, zl78, zl90, zl94, zl97, zl98, zl114, zl122, zl126, zl244, zl290, zl291, zl326, zl335, zl361, zl2527, zl2888, neg1, le_T, le_F, lt_T, lt_F, eq_T, eq_F, m1_ne, m1_ne', m1_lt, m1_le, lt_m1, le_m1, cl_n, ib_T, nI_add, pk_mul, sub_n, add_m1, sub_m1, m1_1, m1_1', pw_d, st_e, st_n, vu_e, vu_n, up_e, up_n, if_true, if_false, true_or, or_true, false_or, or_false, eq_self, reduceCtorEq, not_true_eq_false, not_false_eq_true] <;> rfl
  · intro n k hk
    rw [h, fb_ct_succ]
    simp (disch := omega) only [bd_s, bv_s, lt_d, jn_d, om_s, om_n, zl0, zl1, zl2, zl3, zl4, zl5, zl6, zl7, zl8, zl9, zl10, zl11, zl12, zl13, zl16, zl23, zl24, zl26, zl31, zl32, zl35, zl36, zl40, zl42, zl45, zl48, zl57, zl58, zl59, zl60, zl61, zl62, zl63, zl64, zl65, zl78, zl90, zl94, zl97, zl98, zl114, zl122, zl126, zl244, zl290, zl291, zl326, zl335, zl361, zl2527, zl2888, neg1, le_T, le_F, lt_T, lt_F, eq_T, eq_F, m1_ne, m1_ne', m1_lt, m1_le, lt_m1, le_m1, cl_n, ib_T, nI_add, pk_mul, sub_n, add_m1, sub_m1, m1_1, m1_1', pw_d, st_e, st_n, vu_e, vu_n, up_e, up_n, if_true, if_false, true_or, or_true, false_or, or_false, eq_self, reduceCtorEq, not_true_eq_false, not_false_eq_true, sh_bt (x := x) (show k < 32 by omega)]
    cases bt x k
    · simp (disch := omega) only [bd_s, bv_s, lt_d, jn_d, om_s, om_n, zl0, zl1, zl2, zl3, zl4, zl5, zl6, zl7, zl8, zl9, zl10, zl11, zl12, zl13, zl16, zl23, zl24, zl26, zl31, zl32, zl35, zl36, zl40, zl42, zl45, zl48, zl57, zl58, zl59, zl60, zl61, zl62, zl63, zl64, zl65, zl78, zl90, zl94, zl97, zl98, zl114, zl122, zl126, zl244, zl290, zl291, zl326, zl335, zl361, zl2527, zl2888, neg1, le_T, le_F, lt_T, lt_F, eq_T, eq_F, m1_ne, m1_ne', m1_lt, m1_le, lt_m1, le_m1, cl_n, ib_T, nI_add, pk_mul, sub_n, add_m1, sub_m1, m1_1, m1_1', pw_d, st_e, st_n, vu_e, vu_n, up_e, up_n, if_true, if_false, true_or, or_true, false_or, or_false, eq_self, reduceCtorEq, not_true_eq_false, not_false_eq_true, Bool.false_eq_true]
    · simp (disch := omega) only [bd_s, bv_s, lt_d, jn_d, om_s, om_n, zl0, zl1, zl2, zl3, zl4, zl5, zl6, zl7, zl8, zl9, zl10, zl11, zl12, zl13, zl16, zl23, zl24, zl26, zl31, zl32, zl35, zl36, zl40, zl42, zl45, zl48, zl57, zl58, zl59, zl60, zl61, zl62, zl63, zl64, zl65, zl78, zl90, zl94, zl97, zl98, zl114, zl122, zl126, zl244, zl290, zl291, zl326, zl335, zl361, zl2527, zl2888, neg1, le_T, le_F, lt_T, lt_F, eq_T, eq_F, m1_ne, m1_ne', m1_lt, m1_le, lt_m1, le_m1, cl_n, ib_T, nI_add, pk_mul, sub_n, add_m1, sub_m1, m1_1, m1_1', pw_d, st_e, st_n, vu_e, vu_n, up_e, up_n, if_true, if_false, true_or, or_true, false_or, or_false, eq_self, reduceCtorEq, not_true_eq_false, not_false_eq_true]
theorem st_ancestorCount (I : Inv V) (a : Int32) : StepR V (f_L_ancestorCount V a) (fun W => f_X10_ancestorCount W a) := by
  obtain ⟨ok, R⟩ := I.1
  rcases rev_or ok a with ⟨r, hr, rfl⟩ | hB
  · refine q_T (r := nI (pcn (Ag (V 254) r))) I ?_ (fun W hW => ?_)
    · unfold f_L_ancestorCount f_X9_ancestorCount
      rw [cx_rqR ok R hr, bw_0, cx_as ok R hr, bd_s, cx_bc (Ag_hi ok hr), bd_s, bh_0]; rfl
    · obtain ⟨h, k, e⟩ := (sm_anc (V := U0 W) (r := r) (mq_ok ok hW) (by rw [U0_254, hW]; exact hr)).at
      refine ⟨h, k, ?_⟩
      have e : f_X10_ancestorsOf (U0 W) (nI r) = some (Ag (U0 W 254) r, scr (U0 W) h k) := e
      rw [U0_254, hW] at e
      show f_X10_ancestorCount W (nI r) = _
      unfold f_X10_ancestorCount
      rw [mq_asks ok hW hr hr, bd_s, if_neg (by decide), e, bd_s]
      exact mq_cnt (fun x n => f_X10_ancestorCount_L22 x n) (fun n c i => f_X10_ancestorCount_L22.eq_2 _ _ _ _ _)
  · refine q_F (code := 1) I (by omega) (by omega) ?_ (fun W hW => ex_sc2 (r := m1) ?_)
    · unfold f_L_ancestorCount f_X9_ancestorCount
      rw [cx_rqR_B ok R hB, bw_n, bh_n]; rfl
    · unfold f_X10_ancestorCount
      rw [mq_asks_B ok hW (.inl hB), bd_s, if_pos (by decide)]; rfl
end QF
