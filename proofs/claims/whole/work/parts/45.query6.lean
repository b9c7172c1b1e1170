/-! PURE, 45: the two shares, the check -/
def dsm (r : UInt64) : Bool := nan64 r && decide (Op.cmpValue (FP.dcmp r r) .l = 0)
theorem dv_ok : ∀ n, n < 25 → ∀ s, s < 277 → 0 < n → s ≤ n * (n - 1) / 2 → dsm (FP.ddiv (FP.i2d (nI s)) (FP.i2d (nI n))) = true := by decide +kernel
theorem fv_ok : ∀ n, n < 25 → ∀ s, s < 25 → 0 < n → s ≤ n → (nan32 (FP.fdiv (FP.i2f (nI s)) (FP.i2f (nI n))) && dsm (FP.f2d (FP.fdiv (FP.i2f (nI s)) (FP.i2f (nI n))))) = true := by decide +kernel
theorem dsm_1 {r : UInt64} (h : dsm r = true) : nan64 r = true := (Bool.and_eq_true_iff.mp h).1
theorem dsm_2 {r : UInt64} (h : dsm r = true) : Op.cmpValue (FP.dcmp r r) .l = 0 := of_decide_eq_true (Bool.and_eq_true_iff.mp h).2
def StepE {α : Type} (P : α → Prop) (V : Mem) (cl : Option (α × Mem)) (md : Mem → Option (α × Mem)) : Prop := ∃ r V2 V4, P r ∧ cl = some (r, V2) ∧ md V2 = some (r, V4) ∧ Inv V4
section QK
variable {V : Mem} {g : Arr}
theorem q_E {α : Type} {P : α → Prop} {cl : Option (α × Mem)} {md : Mem → Option (α × Mem)} {r : α} (I : Inv V) (hp : P r) (hcl : cl = some (r, V)) (hmd : ∃ h k, md V = some (r, scr (U0 V) h k)) : StepE P V cl md := by
  obtain ⟨h, k, e⟩ := hmd
  exact ⟨r, V, _, hp, hcl, e, I.sam (sam_4 (fun d hd => rfl))⟩
def gsm (g : Arr) : Nat → Nat
  | 0 => 0
  | k + 1 => gsm g k + GN g k
theorem gsm_le (ok : OKg g) : ∀ k, k ≤ cnt g → 2 * gsm g k + k ≤ k * k
  | 0, _ => Nat.le_refl _
  | k + 1, h => by
    have h1 := gsm_le ok k (by omega)
    have h2 := (GN_eq ok (show k < cnt g by omega)).2
    have : (k + 1) * (k + 1) = k * k + 2 * k + 1 := by rw [Nat.add_mul, Nat.mul_add, Nat.mul_one, Nat.one_mul]; omega
    unfold gsm
    omega
theorem gsm_b (ok : OKg g) : gsm g (cnt g) ≤ cnt g * (cnt g - 1) / 2 ∧ gsm g (cnt g) < 277 := by
  have hc := ok_c24 ok
  have := gsm_le ok (cnt g) (Nat.le_refl _)
  generalize gsm g (cnt g) = s at *
  generalize cnt g = n at *
  have e : n * n = n * (n - 1) + n := by
    rcases n with _ | n
    · rfl
    · rw [Nat.add_sub_cancel, Nat.mul_add (n + 1) n 1, Nat.mul_one]
  have : n * (n - 1) ≤ 24 * 23 := Nat.mul_le_mul hc (by omega)
  omega
theorem cx_mean (ok : OKg g) (R : RelS V g) : f_X6_meanOfGenerations V = some (FP.ddiv (FP.i2d (nI (gsm g (cnt g)))) (FP.i2d (nI (cnt g))), V) := by
  have hc := ok_c24 ok
  have h1 := ok_c1 ok
  have hb := gsm_b ok
  unfold f_X6_meanOfGenerations
  rw [jn_d]
  have L : ∀ (j : Mem → Int32 → Option (UInt64 × Mem)), f_X6_meanOfGenerations_L4 j FU V (nI 0) (nI 0) = j V (nI (gsm g (cnt g))) := by
    intro j
    refine lp_run (cnt g) (fun n k => f_X6_meanOfGenerations_L4 j n V (nI (gsm g k)) (nI k)) _ ?_ ?_ (n := FU) (k := 0) (by omega) (by unfold FU; omega)
    · intro n
      rw [f_X6_meanOfGenerations_L4.eq_2]
      simp (disch := omega) only [bd_s, bv_s, lt_d, jn_d, om_s, om_n, zl0, zl1, zl2, zl3, zl4, zl5, zl6, zl7, zl8, zl9, zl10, zl11, zl12, zl13, zl16, zl23, zl24, zl26, zl31, zl32, zl35, zl36, zl40, zl42, zl45, zl48, zl57, zl58, zl59, zl60, zl61, zl62, zl63, zl64, zl65, zl78, zl90, zl94, zl97, zl98, zl114, zl122, zl126, zl244, zl290, zl291, zl326, zl335, zl361, zl2527, zl2888, neg1, le_T, le_F, lt_T, lt_F, eq_T, eq_F, m1_ne, m1_ne', m1_lt, m1_le, lt_m1, le_m1, cl_n, ib_T, nI_add, pk_mul, sub_n, add_m1, sub_m1, m1_1, m1_1', pw_d, st_e, st_n, vu_e, vu_n, up_e, up_n, if_true, if_false, true_or, or_true, false_or, or_false, eq_self, reduceCtorEq, not_true_eq_false, not_false_eq_true, rl_n R, ok_cnt ok]
    · intro n k hk
      rw [f_X6_meanOfGenerations_L4.eq_2, gsm]
      have e := cx_gn ok R hk
      rw [(GN_eq ok hk).1] at e
      simp (disch := omega) only [bd_s, bv_s, lt_d, jn_d, om_s, om_n, zl0, zl1, zl2, zl3, zl4, zl5, zl6, zl7, zl8, zl9, zl10, zl11, zl12, zl13, zl16, zl23, zl24, zl26, zl31, zl32, zl35, zl36, zl40, zl42, zl45, zl48, zl57, zl58, zl59, zl60, zl61, zl62, zl63, zl64, zl65, zl78, zl90, zl94, zl97, zl98, zl114, zl122, zl126, zl244, zl290, zl291, zl326, zl335, zl361, zl2527, zl2888, neg1, le_T, le_F, lt_T, lt_F, eq_T, eq_F, m1_ne, m1_ne', m1_lt, m1_le, lt_m1, le_m1, cl_n, ib_T, nI_add, pk_mul, sub_n, add_m1, sub_m1, m1_1, m1_1', pw_d, st_e, st_n, vu_e, vu_n, up_e, up_n, if_true, if_false, true_or, or_true, false_or, or_false, eq_self, reduceCtorEq, not_true_eq_false, not_false_eq_true, rl_n R, ok_cnt ok, e]
  refine (L _).trans ?_
  show (if V 1 1 ≤ 0 then _ else _) = _
  rw [rl_n R, ok_cnt ok, if_neg (show ¬ nI (cnt g) ≤ 0 from nI_ge (a := 0) (by omega) (by omega)), if_pos (dsm_1 (dv_ok _ (by omega) _ hb.2 (by omega) hb.1))]
theorem mm_mean {U : Mem} (ok : OKg (U 254)) : ∃ h k, (jn (α := Mem → Int32 → Option (UInt64 × Mem)) (fun j33 => f_X10_meanGeneration_L9 j33 FU U 0 0) (fun (V33 : Mem) (x1_33 : Int32) => if ib 0 361 = true then if nan64 (FP.ddiv (FP.i2d x1_33) (FP.i2d (V33 254 (0 : Int32).toNatClampNeg))) = true then some ((FP.ddiv (FP.i2d x1_33) (FP.i2d (V33 254 (0 : Int32).toNatClampNeg))), V33) else none else none)) = some (FP.ddiv (FP.i2d (nI (gsm (U 254) (cnt (U 254))))) (FP.i2d (nI (cnt (U 254)))), scr U h k) := by
  have hc := ok_c24 ok
  have h1 := ok_c1 ok
  have hb := gsm_b ok
  have jl : ∀ (jj : Mem → Int32 → Option (UInt64 × Mem)), Rj (fun W => f_X10_meanGeneration_L9 jj FU W (nI (gsm (U 254) 0)) (nI 0)) U (fun W => jj W (nI (gsm (U 254) (cnt (U 254))))) := by
    intro jj
    refine lp_rj (G := fun W => jj W (nI (gsm (U 254) (cnt (U 254))))) (cnt (U 254)) (fun n k W => f_X10_meanGeneration_L9 jj n W (nI (gsm (U 254) k)) (nI k)) ?_ ?_ (n := FU) (k := 0) (by omega) (by unfold FU; omega)
    · intro n h k'
      show f_X10_meanGeneration_L9 _ _ _ _ _ = _
      rw [f_X10_meanGeneration_L9.eq_2]
      simp (disch := omega) only [bd_s, bv_s, lt_d, jn_d, om_s, om_n, zl0, zl1, zl2, zl3, zl4, zl5, zl6, zl7, zl8, zl9, zl10, zl11, zl12, zl13, zl16, zl23, zl24, zl26, zl31, zl32, zl35, zl36, zl40, zl42, zl45, zl48, zl57, zl58, zl59, zl60, zl61, zl62, zl63, zl64, zl65, zl78, zl90, zl94, zl97, zl98, zl114, zl122, zl126, zl244, zl290, zl291, zl326, zl335, zl361, zl2527, zl2888, neg1, le_T, le_F, lt_T, lt_F, eq_T, eq_F, m1_ne, m1_ne', m1_lt, m1_le, lt_m1, le_m1, cl_n, ib_T, nI_add, pk_mul, sub_n, add_m1, sub_m1, m1_1, m1_1', pw_d, st_e, st_n, vu_e, vu_n, up_e, up_n, if_true, if_false, true_or, or_true, false_or, or_false, eq_self, reduceCtorEq, not_true_eq_false, not_false_eq_true, scr_254, ok_cnt ok]
    · intro n k h h' hk
      obtain ⟨h2, k2, e⟩ := sm_gen ok hk h h'
      have e : f_X10_generationOf (scr U h h') (nI k) = some (Gg (U 254) k, scr U h2 k2) := e
      rw [(GN_eq ok hk).1] at e
      refine ⟨h2, k2, ?_⟩
      show f_X10_meanGeneration_L9 _ _ _ _ _ = f_X10_meanGeneration_L9 _ _ _ _ _
      rw [f_X10_meanGeneration_L9.eq_2, gsm]
      simp (disch := omega) only [bd_s, bv_s, lt_d, jn_d, om_s, om_n, zl0, zl1, zl2, zl3, zl4, zl5, zl6, zl7, zl8, zl9, zl10, zl11, zl12, zl13, zl16, zl23, zl24, zl26, zl31, zl32, zl35, zl36, zl40, zl42, zl45, zl48, zl57, zl58, zl59, zl60, zl61, zl62, zl63, zl64, zl65, zl78, zl90, zl94, zl97, zl98, zl114, zl122, zl126, zl244, zl290, zl291, zl326, zl335, zl361, zl2527, zl2888, neg1, le_T, le_F, lt_T, lt_F, eq_T, eq_F, m1_ne, m1_ne', m1_lt, m1_le, lt_m1, le_m1, cl_n, ib_T, nI_add, pk_mul, sub_n, add_m1, sub_m1, m1_1, m1_1', pw_d, st_e, st_n, vu_e, vu_n, up_e, up_n, if_true, if_false, true_or, or_true, false_or, or_false, eq_self, reduceCtorEq, not_true_eq_false, not_false_eq_true, scr_254, ok_cnt ok, e]
  obtain ⟨h, k, e⟩ := jl (fun (V33 : Mem) (x1_33 : Int32) => if ib 0 361 = true then if nan64 (FP.ddiv (FP.i2d x1_33) (FP.i2d (V33 254 (0 : Int32).toNatClampNeg))) = true then some ((FP.ddiv (FP.i2d x1_33) (FP.i2d (V33 254 (0 : Int32).toNatClampNeg))), V33) else none else none) (U 259) (U 260)
  refine ⟨h, k, ?_⟩
  rw [jn_d]
  rw [scr_id] at e
  refine e.trans ?_
  show (if ib 0 361 = true then if nan64 (FP.ddiv (FP.i2d (nI (gsm (U 254) (cnt (U 254))))) (FP.i2d (scr U h k 254 (0 : Int32).toNatClampNeg))) = true then some ((FP.ddiv (FP.i2d (nI (gsm (U 254) (cnt (U 254))))) (FP.i2d (scr U h k 254 (0 : Int32).toNatClampNeg))), scr U h k) else none else none) = _
  rw [if_pos (by decide), show (0 : Int32).toNatClampNeg = 0 by decide, scr_254, ok_cnt ok, if_pos (dsm_1 (dv_ok _ (by omega) _ hb.2 (by omega) hb.1))]
theorem st_meanGeneration (I : Inv V) : StepE (fun r => dsm r = true) V (f_X9_meanGeneration V) (fun W => f_X10_meanGeneration W) := by
  obtain ⟨ok, R⟩ := I.1
  have hc := ok_c24 ok
  have h1 := ok_c1 ok
  have hb := gsm_b ok
  refine q_E (r := FP.ddiv (FP.i2d (nI (gsm (V 254) (cnt (V 254))))) (FP.i2d (nI (cnt (V 254))))) I (dv_ok _ (by omega) _ hb.2 (by omega) hb.1) ?_ ?_
  · unfold f_X9_meanGeneration
    rw [cx_mean ok R, bd_s]
  · obtain ⟨h, k, e⟩ := mm_mean (U := U0 V) (mq_ok ok rfl)
    rw [U0_254] at e
    refine ⟨h, k, ?_⟩
    unfold f_X10_meanGeneration
    rw [lt_U]
    exact e
theorem acn_le (g : Arr) : acn g ≤ cnt g := fb_ct_le _ _
theorem mm_share {U : Mem} (ok : OKg (U 254)) (jj : Mem → Int32 → Option (UInt32 × Mem)) : f_X10_archivedShare_L9 jj FU U (nI 0) (nI 0) = jj U (nI (acn (U 254))) := by
  have hc := ok_c24 ok
  refine lp_run (cnt (U 254)) (fun n k => f_X10_archivedShare_L9 jj n U (nI (fb_ct (fun r => decide (U 254 (2 + 12 * r + 3) = nI 1)) k)) (nI k)) _ ?_ ?_ (n := FU) (k := 0) (by omega) (by unfold FU; omega)
  · intro n
    rw [f_X10_archivedShare_L9.eq_2]
    simp (disch := omega) only [bd_s, bv_s, lt_d, jn_d, om_s, om_n, zl0, zl1, zl2, zl3, zl4, zl5, zl6, zl7, zl8, zl9, zl10, zl11, zl12, zl13, zl16, zl23, zl24, zl26, zl31, zl32, zl35, zl36, zl40, zl42, zl45, zl48, zl57, zl58, zl59, zl60, zl61, zl62, zl63, zl64, zl65, zl78, zl90, zl94, zl97, zl98, zl114, zl122, zl126, zl244, zl290, zl291, zl326, zl335, zl361, zl2527, zl2888, neg1, le_T, le_F, lt_T, lt_F, eq_T, eq_F, m1_ne, m1_ne', m1_lt, m1_le, lt_m1, le_m1, cl_n, ib_T, nI_add, pk_mul, sub_n, add_m1, sub_m1, m1_1, m1_1', pw_d, st_e, st_n, vu_e, vu_n, up_e, up_n, if_true, if_false, true_or, or_true, false_or, or_false, eq_self, reduceCtorEq, not_true_eq_false, not_false_eq_true, ok_cnt ok] <;> rfl
  · intro n k hk
    rw [f_X10_archivedShare_L9.eq_2, fb_ct_succ]
    rcases ok_ar ok hk with q | q
    · simp (disch := omega) only [bd_s, bv_s, lt_d, jn_d, om_s, om_n, zl0, zl1, zl2, zl3, zl4, zl5, zl6, zl7, zl8, zl9, zl10, zl11, zl12, zl13, zl16, zl23, zl24, zl26, zl31, zl32, zl35, zl36, zl40, zl42, zl45, zl48, zl57, zl58, zl59, zl60, zl61, zl62, zl63, zl64, zl65, zl78, zl90, zl94, zl97, zl98, zl114, zl122, zl126, zl244, zl290, zl291, zl326, zl335, zl361, zl2527, zl2888, neg1, le_T, le_F, lt_T, lt_F, eq_T, eq_F, m1_ne, m1_ne', m1_lt, m1_le, lt_m1, le_m1, cl_n, ib_T, nI_add, pk_mul, sub_n, add_m1, sub_m1, m1_1, m1_1', pw_d, st_e, st_n, vu_e, vu_n, up_e, up_n, if_true, if_false, true_or, or_true, false_or, or_false, eq_self, reduceCtorEq, not_true_eq_false, not_false_eq_true, ok_cnt ok, sm_revAt, q, decide_true, decide_false, Bool.false_eq_true, Nat.add_zero]
    · simp (disch := omega) only [bd_s, bv_s, lt_d, jn_d, om_s, om_n, zl0, zl1, zl2, zl3, zl4, zl5, zl6, zl7, zl8, zl9, zl10, zl11, zl12, zl13, zl16, zl23, zl24, zl26, zl31, zl32, zl35, zl36, zl40, zl42, zl45, zl48, zl57, zl58, zl59, zl60, zl61, zl62, zl63, zl64, zl65, zl78, zl90, zl94, zl97, zl98, zl114, zl122, zl126, zl244, zl290, zl291, zl326, zl335, zl361, zl2527, zl2888, neg1, le_T, le_F, lt_T, lt_F, eq_T, eq_F, m1_ne, m1_ne', m1_lt, m1_le, lt_m1, le_m1, cl_n, ib_T, nI_add, pk_mul, sub_n, add_m1, sub_m1, m1_1, m1_1', pw_d, st_e, st_n, vu_e, vu_n, up_e, up_n, if_true, if_false, true_or, or_true, false_or, or_false, eq_self, reduceCtorEq, not_true_eq_false, not_false_eq_true, ok_cnt ok, sm_revAt, q, decide_true, decide_false, Bool.false_eq_true, Nat.add_zero]
theorem st_archivedShare (I : Inv V) : StepE (fun r => dsm (FP.f2d r) = true) V (f_X9_archivedShare V) (fun W => f_X10_archivedShare W) := by
  obtain ⟨ok, R⟩ := I.1
  have hc := ok_c24 ok
  have h1 := ok_c1 ok
  have ha := acn_le (V 254)
  have fv := Bool.and_eq_true_iff.mp (fv_ok (cnt (V 254)) (by omega) (acn (V 254)) (by omega) (by omega) ha)
  refine q_E (r := FP.fdiv (FP.i2f (nI (acn (V 254)))) (FP.i2f (nI (cnt (V 254))))) I fv.2 ?_ (ex_sc ?_)
  · unfold f_X9_archivedShare f_X6_shareOfArchived
    rw [if_neg (show ¬ V 1 1 ≤ 0 by rw [rl_n R, ok_cnt ok]; exact nI_ge (a := 0) (by omega) (by omega)), cx_bcA ok R, bd_s, rl_n R, ok_cnt ok, if_pos fv.1, bd_s]
  · unfold f_X10_archivedShare
    rw [lt_U, jn_d]
    refine (mm_share (mq_ok ok rfl) _).trans ?_
    rw [U0_254]
    show (if ib 0 361 = true then if nan32 (FP.fdiv (FP.i2f (nI (acn (V 254)))) (FP.i2f (U0 V 254 (0 : Int32).toNatClampNeg))) = true then some ((FP.fdiv (FP.i2f (nI (acn (V 254)))) (FP.i2f (U0 V 254 (0 : Int32).toNatClampNeg))), U0 V) else none else none) = _
    rw [if_pos (by decide), show (0 : Int32).toNatClampNeg = 0 by decide, U0_254, ok_cnt ok, if_pos fv.1]
/-! the check -/
theorem cx_agA (ok : OKg g) (R : RelS V g) : f_X8_ancestorsAgree V = some (nI 1, V) := by
  have h5 := ok_b5 ok
  unfold f_X8_ancestorsAgree
  have B : ∀ (k : Nat), k < bcn g → ∀ (j : Mem → Option (Int32 × Mem)), f_X8_ancestorsAgree_L12 (nI k) j FU V (nI 0) = j V := by
    intro k hk j
    refine lp_run (bcn g) (fun n o => f_X8_ancestorsAgree_L12 (nI k) j n V (nI o)) _ ?_ ?_ (n := FU) (k := 0) (by omega) (by unfold FU; omega)
    · intro n
      rw [f_X8_ancestorsAgree_L12.eq_2]
      simp (disch := omega) only [bd_s, bv_s, lt_d, jn_d, om_s, om_n, zl0, zl1, zl2, zl3, zl4, zl5, zl6, zl7, zl8, zl9, zl10, zl11, zl12, zl13, zl16, zl23, zl24, zl26, zl31, zl32, zl35, zl36, zl40, zl42, zl45, zl48, zl57, zl58, zl59, zl60, zl61, zl62, zl63, zl64, zl65, zl78, zl90, zl94, zl97, zl98, zl114, zl122, zl126, zl244, zl290, zl291, zl326, zl335, zl361, zl2527, zl2888, neg1, le_T, le_F, lt_T, lt_F, eq_T, eq_F, m1_ne, m1_ne', m1_lt, m1_le, lt_m1, le_m1, cl_n, ib_T, nI_add, pk_mul, sub_n, add_m1, sub_m1, m1_1, m1_1', pw_d, st_e, st_n, vu_e, vu_n, up_e, up_n, if_true, if_false, true_or, or_true, false_or, or_false, eq_self, reduceCtorEq, not_true_eq_false, not_false_eq_true, rl_b R, ok_bcn ok]
    · intro n o ho
      rw [f_X8_ancestorsAgree_L12.eq_2]
      simp (disch := omega) only [bd_s, bv_s, lt_d, jn_d, om_s, om_n, zl0, zl1, zl2, zl3, zl4, zl5, zl6, zl7, zl8, zl9, zl10, zl11, zl12, zl13, zl16, zl23, zl24, zl26, zl31, zl32, zl35, zl36, zl40, zl42, zl45, zl48, zl57, zl58, zl59, zl60, zl61, zl62, zl63, zl64, zl65, zl78, zl90, zl94, zl97, zl98, zl114, zl122, zl126, zl244, zl290, zl291, zl326, zl335, zl361, zl2527, zl2888, neg1, le_T, le_F, lt_T, lt_F, eq_T, eq_F, m1_ne, m1_ne', m1_lt, m1_le, lt_m1, le_m1, cl_n, ib_T, nI_add, pk_mul, sub_n, add_m1, sub_m1, m1_1, m1_1', pw_d, st_e, st_n, vu_e, vu_n, up_e, up_n, if_true, if_false, true_or, or_true, false_or, or_false, eq_self, reduceCtorEq, not_true_eq_false, not_false_eq_true, rl_b R, ok_bcn ok, cx_hd ok R hk, cx_hd ok R ho, cx_lc ok R (ok_hc ok hk) (ok_hc ok ho), cx_cs ok R (ok_hc ok hk) (ok_hc ok ho)]
  refine lp_run (bcn g) (fun n k => f_X8_ancestorsAgree_L2 n V (nI k)) _ ?_ ?_ (n := FU) (k := 0) (by omega) (by unfold FU; omega)
  · intro n
    rw [f_X8_ancestorsAgree_L2.eq_2]
    simp (disch := omega) only [bd_s, bv_s, lt_d, jn_d, om_s, om_n, zl0, zl1, zl2, zl3, zl4, zl5, zl6, zl7, zl8, zl9, zl10, zl11, zl12, zl13, zl16, zl23, zl24, zl26, zl31, zl32, zl35, zl36, zl40, zl42, zl45, zl48, zl57, zl58, zl59, zl60, zl61, zl62, zl63, zl64, zl65, zl78, zl90, zl94, zl97, zl98, zl114, zl122, zl126, zl244, zl290, zl291, zl326, zl335, zl361, zl2527, zl2888, neg1, le_T, le_F, lt_T, lt_F, eq_T, eq_F, m1_ne, m1_ne', m1_lt, m1_le, lt_m1, le_m1, cl_n, ib_T, nI_add, pk_mul, sub_n, add_m1, sub_m1, m1_1, m1_1', pw_d, st_e, st_n, vu_e, vu_n, up_e, up_n, if_true, if_false, true_or, or_true, false_or, or_false, eq_self, reduceCtorEq, not_true_eq_false, not_false_eq_true, rl_b R, ok_bcn ok] <;> rfl
  · intro n k hk
    have il := B k hk
    rw [f_X8_ancestorsAgree_L2.eq_2]
    simp (disch := omega) only [bd_s, bv_s, lt_d, jn_d, om_s, om_n, zl0, zl1, zl2, zl3, zl4, zl5, zl6, zl7, zl8, zl9, zl10, zl11, zl12, zl13, zl16, zl23, zl24, zl26, zl31, zl32, zl35, zl36, zl40, zl42, zl45, zl48, zl57, zl58, zl59, zl60, zl61, zl62, zl63, zl64, zl65, zl78, zl90, zl94, zl97, zl98, zl114, zl122, zl126, zl244, zl290, zl291, zl326, zl335, zl361, zl2527, zl2888, neg1, le_T, le_F, lt_T, lt_F, eq_T, eq_F, m1_ne, m1_ne', m1_lt, m1_le, lt_m1, le_m1, cl_n, ib_T, nI_add, pk_mul, sub_n, add_m1, sub_m1, m1_1, m1_1', pw_d, st_e, st_n, vu_e, vu_n, up_e, up_n, if_true, if_false, true_or, or_true, false_or, or_false, eq_self, reduceCtorEq, not_true_eq_false, not_false_eq_true, rl_b R, ok_bcn ok, il]
theorem cx_agO (ok : OKg g) (R : RelS V g) : f_X8_originsAgree V = some (nI 1, V) := by
  have h5 := ok_b5 ok
  unfold f_X8_originsAgree
  have B : ∀ (k : Nat), k < bcn g → ∀ (j : Mem → Option (Int32 × Mem)), f_X8_originsAgree_L18 (nI k) (nI (hd g k)) j FU V (nI 0) = j V := by
    intro k hk j
    refine lp_run 8 (fun n o => f_X8_originsAgree_L18 (nI k) (nI (hd g k)) j n V (nI o)) _ ?_ ?_ (n := FU) (k := 0) (by omega) (by decide)
    · intro n
      rw [f_X8_originsAgree_L18.eq_2]
      simp (disch := omega) only [bd_s, bv_s, lt_d, jn_d, om_s, om_n, zl0, zl1, zl2, zl3, zl4, zl5, zl6, zl7, zl8, zl9, zl10, zl11, zl12, zl13, zl16, zl23, zl24, zl26, zl31, zl32, zl35, zl36, zl40, zl42, zl45, zl48, zl57, zl58, zl59, zl60, zl61, zl62, zl63, zl64, zl65, zl78, zl90, zl94, zl97, zl98, zl114, zl122, zl126, zl244, zl290, zl291, zl326, zl335, zl361, zl2527, zl2888, neg1, le_T, le_F, lt_T, lt_F, eq_T, eq_F, m1_ne, m1_ne', m1_lt, m1_le, lt_m1, le_m1, cl_n, ib_T, nI_add, pk_mul, sub_n, add_m1, sub_m1, m1_1, m1_1', pw_d, st_e, st_n, vu_e, vu_n, up_e, up_n, if_true, if_false, true_or, or_true, false_or, or_false, eq_self, reduceCtorEq, not_true_eq_false, not_false_eq_true]
    · intro n o ho
      rw [f_X8_originsAgree_L18.eq_2]
      have e2 : f_X6_sourceByRecursion V (nI (hd g k)) (nI o) (nI 0) = some (nI (org g o 24 (hd g k)), V) := cx_srr ok R (ok_hc ok hk) ho
      simp (disch := omega) only [bd_s, bv_s, lt_d, jn_d, om_s, om_n, zl0, zl1, zl2, zl3, zl4, zl5, zl6, zl7, zl8, zl9, zl10, zl11, zl12, zl13, zl16, zl23, zl24, zl26, zl31, zl32, zl35, zl36, zl40, zl42, zl45, zl48, zl57, zl58, zl59, zl60, zl61, zl62, zl63, zl64, zl65, zl78, zl90, zl94, zl97, zl98, zl114, zl122, zl126, zl244, zl290, zl291, zl326, zl335, zl361, zl2527, zl2888, neg1, le_T, le_F, lt_T, lt_F, eq_T, eq_F, m1_ne, m1_ne', m1_lt, m1_le, lt_m1, le_m1, cl_n, ib_T, nI_add, pk_mul, sub_n, add_m1, sub_m1, m1_1, m1_1', pw_d, st_e, st_n, vu_e, vu_n, up_e, up_n, if_true, if_false, true_or, or_true, false_or, or_false, eq_self, reduceCtorEq, not_true_eq_false, not_false_eq_true, cx_src ok R (ok_hc ok hk) ho, e2]
  refine lp_run (bcn g) (fun n k => f_X8_originsAgree_L2 n V (nI k)) _ ?_ ?_ (n := FU) (k := 0) (by omega) (by unfold FU; omega)
  · intro n
    rw [f_X8_originsAgree_L2.eq_2]
    simp (disch := omega) only [bd_s, bv_s, lt_d, jn_d, om_s, om_n, zl0, zl1, zl2, zl3, zl4, zl5, zl6, zl7, zl8, zl9, zl10, zl11, zl12, zl13, zl16, zl23, zl24, zl26, zl31, zl32, zl35, zl36, zl40, zl42, zl45, zl48, zl57, zl58, zl59, zl60, zl61, zl62, zl63, zl64, zl65, zl78, zl90, zl94, zl97, zl98, zl114, zl122, zl126, zl244, zl290, zl291, zl326, zl335, zl361, zl2527, zl2888, neg1, le_T, le_F, lt_T, lt_F, eq_T, eq_F, m1_ne, m1_ne', m1_lt, m1_le, lt_m1, le_m1, cl_n, ib_T, nI_add, pk_mul, sub_n, add_m1, sub_m1, m1_1, m1_1', pw_d, st_e, st_n, vu_e, vu_n, up_e, up_n, if_true, if_false, true_or, or_true, false_or, or_false, eq_self, reduceCtorEq, not_true_eq_false, not_false_eq_true, rl_b R, ok_bcn ok] <;> rfl
  · intro n k hk
    have il := B k hk
    rw [f_X8_originsAgree_L2.eq_2]
    simp (disch := omega) only [bd_s, bv_s, lt_d, jn_d, om_s, om_n, zl0, zl1, zl2, zl3, zl4, zl5, zl6, zl7, zl8, zl9, zl10, zl11, zl12, zl13, zl16, zl23, zl24, zl26, zl31, zl32, zl35, zl36, zl40, zl42, zl45, zl48, zl57, zl58, zl59, zl60, zl61, zl62, zl63, zl64, zl65, zl78, zl90, zl94, zl97, zl98, zl114, zl122, zl126, zl244, zl290, zl291, zl326, zl335, zl361, zl2527, zl2888, neg1, le_T, le_F, lt_T, lt_F, eq_T, eq_F, m1_ne, m1_ne', m1_lt, m1_le, lt_m1, le_m1, cl_n, ib_T, nI_add, pk_mul, sub_n, add_m1, sub_m1, m1_1, m1_1', pw_d, st_e, st_n, vu_e, vu_n, up_e, up_n, if_true, if_false, true_or, or_true, false_or, or_false, eq_self, reduceCtorEq, not_true_eq_false, not_false_eq_true, rl_b R, ok_bcn ok, cx_hd ok R hk, il]
theorem usd_and (ok : OKg g) (R : RelS V g) : usd g &&& V 1 0 = nI 0 := by
  apply b_ext; intro i hi
  rw [b_and, bt_0]
  cases q : bt (usd g) i
  · rfl
  · obtain ⟨h1, h2⟩ := usd_arc ok q
    cases q2 : bt (V 1 0) i
    · rfl
    · exact absurd ((rl_a R h2).mp q2) h1
theorem st_isConsistent (I : Inv V) : StepD V (f_X9_isConsistent V) (fun W => f_X10_isConsistent W) := by
  obtain ⟨ok, R⟩ := I.1
  refine q_D (r := nI 1) I ?_ (ex_sc ?_)
  · unfold f_X9_isConsistent
    rw [cx_agA ok R, bd_s, if_neg (by decide), cx_agO ok R, bd_s, if_neg (by decide), cx_used ok R, bd_s, cx_bc (fun i h _ => usd_hi ok i h), bd_s, cx_ubm ok R, bd_s, if_pos rfl, cx_used ok R, bd_s, usd_and ok R, if_pos (by decide)]; rfl
  · unfold f_X10_isConsistent
    rw [lt_U]; rfl
end QK
