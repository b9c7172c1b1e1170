/-! PURE, 40: common ancestors, distances, origins, authors -/
theorem Int_0 : (nI 0) = 0 := rfl
section QG
variable {V : Mem} {g : Arr}
def psg (g : Arr) (r : Nat) : Int32 := (if g (2 + 12 * r) = m1 then nI 0 else pw (p1 g r)) ||| (if g (2 + 12 * r + 1) = m1 then nI 0 else pw (p2 g r))
theorem psg_bt (ok : OKg g) {r : Nat} (hr : r < cnt g) (q : Nat) : bt (psg g r) q = true ↔ (g (2 + 12 * r) ≠ m1 ∧ q = p1 g r) ∨ (g (2 + 12 * r + 1) ≠ m1 ∧ q = p2 g r) := by
  have hc := ok_c24 ok
  unfold psg
  rw [b_or, Bool.or_eq_true]
  have f1 : p1 g r < 32 ∨ g (2 + 12 * r) = m1 := by
    rcases ok_f ok hr with z | z
    · exact .inr z.2
    · exact .inl (by omega)
  have f2 : p2 g r < 32 ∨ g (2 + 12 * r + 1) = m1 := by
    rcases ok_s ok hr with z | z
    · exact .inr z
    · exact .inl (by omega)
  by_cases e1 : g (2 + 12 * r) = m1 <;> by_cases e2 : g (2 + 12 * r + 1) = m1
  · simp [e1, e2, bt_0]
  · simp [e1, e2, bt_0, bt_pw (f2.resolve_right e2)]
  · simp [e1, e2, bt_0, bt_pw (f1.resolve_right e1)]
  · simp [e1, e2, bt_pw (f1.resolve_right e1), bt_pw (f2.resolve_right e2)]
theorem psg_lt (ok : OKg g) {r q : Nat} (hr : r < cnt g) (h : bt (psg g r) q = true) : q < r ∧ anc g r q := by
  rcases (psg_bt ok hr q).mp h with ⟨e, rfl⟩ | ⟨e, rfl⟩
  · rcases ok_f ok hr with z | z
    · exact absurd z.2 e
    · exact ⟨z.2.2, (anc_iff ok hr).mpr (.inr (.inl ⟨e, anc_self ok (by omega)⟩))⟩
  · rcases ok_s ok hr with z | z
    · exact absurd z e
    · exact ⟨z.2, (anc_iff ok hr).mpr (.inr (.inr ⟨e, anc_self ok (by omega)⟩))⟩
theorem anc_ps (ok : OKg g) {r a : Nat} (hr : r < cnt g) (h : anc g r a) (hne : a ≠ r) : ∃ q, bt (psg g r) q = true ∧ anc g q a := by
  rcases (anc_iff ok hr).mp h with e | ⟨e, h⟩ | ⟨e, h⟩
  · exact absurd e hne
  · exact ⟨_, (psg_bt ok hr _).mpr (.inl ⟨e, rfl⟩), h⟩
  · exact ⟨_, (psg_bt ok hr _).mpr (.inr ⟨e, rfl⟩), h⟩
theorem cx_ps {r : Nat} (ok : OKg g) (R : RelS V g) (hr : r < cnt g) : f_X6_parentSet V (nI r) = some (psg g r, V) := by
  have hc := ok_c24 ok
  unfold f_X6_parentSet psg
  rcases ok_f ok hr with ⟨z1, z2⟩ | ⟨z1, z2, z3⟩ <;> rcases ok_s ok hr with y | ⟨y1, y2⟩
  · simp (disch := omega) only [bd_s, bv_s, lt_d, jn_d, om_s, om_n, zl0, zl1, zl2, zl3, zl4, zl5, zl6, zl7, zl8, zl9, zl10, zl11, zl12, zl13, zl16, zl23, zl24, zl26, zl31, zl32, zl35, zl36, zl40, zl42, zl45, zl48, zl57, zl58, zl59, zl60, zl61, zl62, zl63, zl64, zl65, zl78, zl90, zl94, zl97, zl98, zl114, zl122, zl126, zl244, zl290, zl291, zl326, zl335, zl361, zl2527, zl2888, neg1, le_T, le_F, lt_T, lt_F, eq_T, eq_F, m1_ne, m1_ne', m1_lt, m1_le, lt_m1, le_m1, cl_n, ib_T, nI_add, pk_mul, sub_n, add_m1, sub_m1, m1_1, m1_1', pw_d, st_e, st_n, vu_e, vu_n, up_e, up_n, if_true, if_false, true_or, or_true, false_or, or_false, eq_self, reduceCtorEq, not_true_eq_false, not_false_eq_true, cx_fp ok R hr, cx_sp ok R hr, z2, y, sx_setOf_m]
  · omega
  · simp (disch := omega) only [bd_s, bv_s, lt_d, jn_d, om_s, om_n, zl0, zl1, zl2, zl3, zl4, zl5, zl6, zl7, zl8, zl9, zl10, zl11, zl12, zl13, zl16, zl23, zl24, zl26, zl31, zl32, zl35, zl36, zl40, zl42, zl45, zl48, zl57, zl58, zl59, zl60, zl61, zl62, zl63, zl64, zl65, zl78, zl90, zl94, zl97, zl98, zl114, zl122, zl126, zl244, zl290, zl291, zl326, zl335, zl361, zl2527, zl2888, neg1, le_T, le_F, lt_T, lt_F, eq_T, eq_F, m1_ne, m1_ne', m1_lt, m1_le, lt_m1, le_m1, cl_n, ib_T, nI_add, pk_mul, sub_n, add_m1, sub_m1, m1_1, m1_1', pw_d, st_e, st_n, vu_e, vu_n, up_e, up_n, if_true, if_false, true_or, or_true, false_or, or_false, eq_self, reduceCtorEq, not_true_eq_false, not_false_eq_true, cx_fp ok R hr, cx_sp ok R hr, z2, y, sx_setOf_m, sx_setOf]
  · simp (disch := omega) only [bd_s, bv_s, lt_d, jn_d, om_s, om_n, zl0, zl1, zl2, zl3, zl4, zl5, zl6, zl7, zl8, zl9, zl10, zl11, zl12, zl13, zl16, zl23, zl24, zl26, zl31, zl32, zl35, zl36, zl40, zl42, zl45, zl48, zl57, zl58, zl59, zl60, zl61, zl62, zl63, zl64, zl65, zl78, zl90, zl94, zl97, zl98, zl114, zl122, zl126, zl244, zl290, zl291, zl326, zl335, zl361, zl2527, zl2888, neg1, le_T, le_F, lt_T, lt_F, eq_T, eq_F, m1_ne, m1_ne', m1_lt, m1_le, lt_m1, le_m1, cl_n, ib_T, nI_add, pk_mul, sub_n, add_m1, sub_m1, m1_1, m1_1', pw_d, st_e, st_n, vu_e, vu_n, up_e, up_n, if_true, if_false, true_or, or_true, false_or, or_false, eq_self, reduceCtorEq, not_true_eq_false, not_false_eq_true, cx_fp ok R hr, cx_sp ok R hr, z2, y1, sx_setOf]
theorem bf {x : Bool} (h : ¬ x = true) : x = false := by cases x <;> simp_all
theorem cx_lc {a b : Nat} (ok : OKg g) (R : RelS V g) (ha : a < cnt g) (hb : b < cnt g) : f_X6_latestCommon V (nI a) (nI b) = some (nI (com g a b), V) := by
  have hc := ok_c24 ok
  have em : f_X6_marked V (nI a) 0 0 = some (Ag g a, V) := by
    have := cx_mk ok R a ha (nI 0) 0 26 (fun q _ hq => by rw [bt_0] at hq; exact Bool.noConfusion hq) (by omega) (by omega)
    rw [or_0'] at this
    exact this
  unfold f_X6_latestCommon
  rw [em, bd_s, sx_setOf (by omega), bd_s]
  have key : ∀ (r : Nat) (S : Int32), r ≤ b → (∀ q, bt S q = true → anc g b q) → (∀ x, anc g b x → x ≤ r → ∃ s, s ≤ r ∧ bt S s = true ∧ anc g s x) → (∀ q, r < q → anc g b q → bt (Ag g a) q = false) → ∀ n, r < n → f_X6_latestCommon_L17 (Ag g a) n V S (nI r) = some (nI (com g a b), V) := by
    intro r
    induction r with
    | zero =>
      intro S hr i1 i2 i3 n hn
      obtain ⟨n, rfl⟩ : ∃ n', n = n' + 1 := ⟨n - 1, by omega⟩
      rw [f_X6_latestCommon_L17.eq_2]
      have : com g a b = 0 := by
        refine cmn_max (by omega) ?_ (fun q h1 h2 => ?_)
        · rw [b_and]; have h1 := anc_0 ok ha; have h2 := anc_0 ok hb; unfold anc at h1 h2; rw [h1, h2]; rfl
        · rw [b_and]
          cases h3 : bt (Ag g b) q
          · rw [Bool.and_false]
          · rw [i3 q h1 h3]; rfl
      rw [this]
      simp (disch := omega) only [bd_s, bv_s, lt_d, jn_d, om_s, om_n, zl0, zl1, zl2, zl3, zl4, zl5, zl6, zl7, zl8, zl9, zl10, zl11, zl12, zl13, zl16, zl23, zl24, zl26, zl31, zl32, zl35, zl36, zl40, zl42, zl45, zl48, zl57, zl58, zl59, zl60, zl61, zl62, zl63, zl64, zl65, zl78, zl90, zl94, zl97, zl98, zl114, zl122, zl126, zl244, zl290, zl291, zl326, zl335, zl361, zl2527, zl2888, neg1, le_T, le_F, lt_T, lt_F, eq_T, eq_F, m1_ne, m1_ne', m1_lt, m1_le, lt_m1, le_m1, cl_n, ib_T, nI_add, pk_mul, sub_n, add_m1, sub_m1, m1_1, m1_1', pw_d, st_e, st_n, vu_e, vu_n, up_e, up_n, if_true, if_false, true_or, or_true, false_or, or_false, eq_self, reduceCtorEq, not_true_eq_false, not_false_eq_true]
    | succ r ih =>
      intro S hr i1 i2 i3 n hn
      obtain ⟨n, rfl⟩ : ∃ n', n = n' + 1 := ⟨n - 1, by omega⟩
      rw [f_X6_latestCommon_L17.eq_2]
      have ctS := sx_cont (V := V) (x := S) (show r + 1 < 24 by omega)
      have ctM := sx_cont (V := V) (x := Ag g a) (show r + 1 < 24 by omega)
      by_cases q : bt S (r + 1) = true
      · rw [q] at ctS
        by_cases q2 : bt (Ag g a) (r + 1) = true
        · rw [q2] at ctM
          have : com g a b = r + 1 := by
            refine cmn_max (by omega) ?_ (fun q' h1 h2 => ?_)
            · rw [b_and, q2]; have := i1 _ q; unfold anc at this; rw [this]; rfl
            · rw [b_and]
              cases h3 : bt (Ag g b) q'
              · rw [Bool.and_false]
              · rw [i3 q' h1 h3]; rfl
          rw [this]
          simp (disch := omega) only [bd_s, bv_s, lt_d, jn_d, om_s, om_n, zl0, zl1, zl2, zl3, zl4, zl5, zl6, zl7, zl8, zl9, zl10, zl11, zl12, zl13, zl16, zl23, zl24, zl26, zl31, zl32, zl35, zl36, zl40, zl42, zl45, zl48, zl57, zl58, zl59, zl60, zl61, zl62, zl63, zl64, zl65, zl78, zl90, zl94, zl97, zl98, zl114, zl122, zl126, zl244, zl290, zl291, zl326, zl335, zl361, zl2527, zl2888, neg1, le_T, le_F, lt_T, lt_F, eq_T, eq_F, m1_ne, m1_ne', m1_lt, m1_le, lt_m1, le_m1, cl_n, ib_T, nI_add, pk_mul, sub_n, add_m1, sub_m1, m1_1, m1_1', pw_d, st_e, st_n, vu_e, vu_n, up_e, up_n, if_true, if_false, true_or, or_true, false_or, or_false, eq_self, reduceCtorEq, not_true_eq_false, not_false_eq_true, ctS, ctM]
        · rw [bf q2] at ctM
          have := ih (S ||| psg g (r + 1)) (by omega) (fun q' h => by
              rw [b_or, Bool.or_eq_true] at h
              rcases h with h | h
              · exact i1 _ h
              · exact anc_tr ok hb (i1 _ q) (psg_lt ok (by omega) h).2) (fun x hx hxr => by
              obtain ⟨s, s1, s2, s3⟩ := i2 x hx (by omega)
              by_cases e : s = r + 1
              · subst e
                obtain ⟨p, h1, h2⟩ := anc_ps ok (by omega) s3 (by omega)
                exact ⟨p, by have := (psg_lt ok (by omega) h1).1; omega, by rw [b_or, h1, Bool.or_true], h2⟩
              · exact ⟨s, by omega, by rw [b_or, s2, Bool.true_or], s3⟩) (fun q' h1 h2 => by
              by_cases e : q' = r + 1
              · subst e; exact bf q2
              · exact i3 q' (by omega) h2) n (by omega)
          simp (disch := omega) only [bd_s, bv_s, lt_d, jn_d, om_s, om_n, zl0, zl1, zl2, zl3, zl4, zl5, zl6, zl7, zl8, zl9, zl10, zl11, zl12, zl13, zl16, zl23, zl24, zl26, zl31, zl32, zl35, zl36, zl40, zl42, zl45, zl48, zl57, zl58, zl59, zl60, zl61, zl62, zl63, zl64, zl65, zl78, zl90, zl94, zl97, zl98, zl114, zl122, zl126, zl244, zl290, zl291, zl326, zl335, zl361, zl2527, zl2888, neg1, le_T, le_F, lt_T, lt_F, eq_T, eq_F, m1_ne, m1_ne', m1_lt, m1_le, lt_m1, le_m1, cl_n, ib_T, nI_add, pk_mul, sub_n, add_m1, sub_m1, m1_1, m1_1', pw_d, st_e, st_n, vu_e, vu_n, up_e, up_n, if_true, if_false, true_or, or_true, false_or, or_false, eq_self, reduceCtorEq, not_true_eq_false, not_false_eq_true, ctS, ctM, Bool.false_eq_true, cx_ps ok R (show r + 1 < cnt g by omega), Nat.add_sub_cancel]
          exact this
      · rw [bf q] at ctS
        have := ih S (by omega) i1 (fun x hx hxr => by
            obtain ⟨s, s1, s2, s3⟩ := i2 x hx (by omega)
            by_cases e : s = r + 1
            · subst e; exact absurd s2 q
            · exact ⟨s, by omega, s2, s3⟩) (fun q' h1 h2 => by
            by_cases e : q' = r + 1
            · subst e
              obtain ⟨s, s1, s2, s3⟩ := i2 _ h2 (Nat.le_refl _)
              have hs := anc_le ok (by omega) s3
              have : s = r + 1 := by omega
              subst this
              exact absurd s2 q
            · exact i3 q' (by omega) h2) n (by omega)
        simp (disch := omega) only [bd_s, bv_s, lt_d, jn_d, om_s, om_n, zl0, zl1, zl2, zl3, zl4, zl5, zl6, zl7, zl8, zl9, zl10, zl11, zl12, zl13, zl16, zl23, zl24, zl26, zl31, zl32, zl35, zl36, zl40, zl42, zl45, zl48, zl57, zl58, zl59, zl60, zl61, zl62, zl63, zl64, zl65, zl78, zl90, zl94, zl97, zl98, zl114, zl122, zl126, zl244, zl290, zl291, zl326, zl335, zl361, zl2527, zl2888, neg1, le_T, le_F, lt_T, lt_F, eq_T, eq_F, m1_ne, m1_ne', m1_lt, m1_le, lt_m1, le_m1, cl_n, ib_T, nI_add, pk_mul, sub_n, add_m1, sub_m1, m1_1, m1_1', pw_d, st_e, st_n, vu_e, vu_n, up_e, up_n, if_true, if_false, true_or, or_true, false_or, or_false, eq_self, reduceCtorEq, not_true_eq_false, not_false_eq_true, ctS, Bool.false_eq_true, Nat.add_sub_cancel]
        exact this
  refine key b (pw b) (Nat.le_refl _) (fun q h => ?_) (fun x hx hxb => ⟨b, Nat.le_refl _, by rw [bt_pw (by omega)]; exact decide_eq_true rfl, hx⟩) (fun q h1 h2 => ?_) FU (by unfold FU; omega)
  · rw [bt_pw (by omega)] at h
    rw [of_decide_eq_true h]; exact anc_self ok hb
  · have := anc_le ok hb h2; omega
theorem st_commonAncestor (I : Inv V) (a d : Int32) : StepR V (f_L_commonAncestor V a d) (fun W => f_X10_commonAncestor W a d) := by
  obtain ⟨ok, R⟩ := I.1
  rcases two_or ok a d with ⟨r, s, hr, hs, rfl, rfl⟩ | h
  · refine q_T (r := nI (com (V 254) r s)) I ?_ (fun W hW => ?_)
    · unfold f_L_commonAncestor f_X9_commonAncestor
      rw [cx_rqR ok R hr, bw_0, cx_rqR ok R hs, bw_0, cx_lc ok R hr hs, bd_s, bh_0]; rfl
    · obtain ⟨h, k, e⟩ := (sm_com (V := U0 W) (a := r) (b := s) (mq_ok ok hW) (by rw [U0_254, hW]; exact hr) (by rw [U0_254, hW]; exact hs)).at
      refine ⟨h, k, ?_⟩
      have e : f_X10_common (U0 W) (nI r) (nI s) = some (nI (com (U0 W 254) r s), scr (U0 W) h k) := e
      rw [U0_254, hW] at e
      show f_X10_commonAncestor W (nI r) (nI s) = _
      unfold f_X10_commonAncestor
      rw [mq_asks ok hW hr hs, bd_s, if_neg (by decide), e, bd_s]
  · refine q_F (code := 1) I (by omega) (by omega) ?_ (fun W hW => ex_sc2 (r := m1) ?_)
    · unfold f_L_commonAncestor f_X9_commonAncestor
      rw [cq_two ok R h, bh_n]; rfl
    · unfold f_X10_commonAncestor
      rw [mq_asks_B ok hW h, bd_s, if_pos (by decide)]; rfl
theorem st_commonAncestorBySets (I : Inv V) (a d : Int32) : StepR V (f_L_commonAncestorBySets V a d) (fun W => f_X10_commonAncestorBySets W a d) := by
  obtain ⟨ok, R⟩ := I.1
  rcases two_or ok a d with ⟨r, s, hr, hs, rfl, rfl⟩ | h
  · refine q_T (r := nI (com (V 254) r s)) I ?_ (fun W hW => ?_)
    · unfold f_L_commonAncestorBySets f_X9_commonAncestorBySets
      rw [cx_rqR ok R hr, bw_0, cx_rqR ok R hs, bw_0, cx_cs ok R hr hs, bd_s, bh_0]; rfl
    · obtain ⟨h, k, e⟩ := (sm_com (V := U0 W) (a := r) (b := s) (mq_ok ok hW) (by rw [U0_254, hW]; exact hr) (by rw [U0_254, hW]; exact hs)).at
      refine ⟨h, k, ?_⟩
      have e : f_X10_common (U0 W) (nI r) (nI s) = some (nI (com (U0 W 254) r s), scr (U0 W) h k) := e
      rw [U0_254, hW] at e
      show f_X10_commonAncestorBySets W (nI r) (nI s) = _
      unfold f_X10_commonAncestorBySets f_X10_commonAncestor
      rw [mq_asks ok hW hr hs, bd_s, if_neg (by decide), e, bd_s, bd_s]
  · refine q_F (code := 1) I (by omega) (by omega) ?_ (fun W hW => ex_sc2 (r := m1) ?_)
    · unfold f_L_commonAncestorBySets f_X9_commonAncestorBySets
      rw [cq_two ok R h, bh_n]; rfl
    · unfold f_X10_commonAncestorBySets f_X10_commonAncestor
      rw [mq_asks_B ok hW h, bd_s, if_pos (by decide)]; rfl
/-! differences -/
def dfn (g : Arr) (r s : Nat) : Nat := fb_ct (fun f => decide (g (2 + 12 * r + 4 + f) ≠ g (2 + 12 * s + 4 + f))) 8
theorem st_differences (I : Inv V) (a d : Int32) : StepR V (f_L_differences V a d) (fun W => f_X10_differences W a d) := by
  obtain ⟨ok, R⟩ := I.1
  have hc := ok_c24 ok
  rcases two_or ok a d with ⟨r, s, hr, hs, rfl, rfl⟩ | h
  · refine q_T (r := nI (dfn (V 254) r s)) I ?_ (fun W hW => ex_sc ?_)
    · have e : f_X6_differingFields V (nI r) (nI s) = some (nI (dfn (V 254) r s), V) := by
        unfold f_X6_differingFields dfn
        refine lp_run 8 (fun n k => f_X6_differingFields_L5 (nI r) (nI s) n V (nI (fb_ct (fun f => decide (V 254 (2 + 12 * r + 4 + f) ≠ V 254 (2 + 12 * s + 4 + f))) k)) (nI k)) _ ?_ ?_ (n := FU) (k := 0) (by omega) (by decide)
        · intro n
          rw [f_X6_differingFields_L5.eq_2]
          simp (disch := omega) only [bd_s, bv_s, lt_d, jn_d, om_s, om_n, zl0, zl1, zl2, zl3, zl4, zl5, zl6, zl7, zl8, zl9, zl10, zl11, zl12, zl13, zl16, zl23, zl24, zl26, zl31, zl32, zl35, zl36, zl40, zl42, zl45, zl48, zl57, zl58, zl59, zl60, zl61, zl62, zl63, zl64, zl65, zl78, zl90, zl94, zl97, zl98, zl114, zl122, zl126, zl244, zl290, zl291, zl326, zl335, zl361, zl2527, zl2888, neg1, le_T, le_F, lt_T, lt_F, eq_T, eq_F, m1_ne, m1_ne', m1_lt, m1_le, lt_m1, le_m1, cl_n, ib_T, nI_add, pk_mul, sub_n, add_m1, sub_m1, m1_1, m1_1', pw_d, st_e, st_n, vu_e, vu_n, up_e, up_n, if_true, if_false, true_or, or_true, false_or, or_false, eq_self, reduceCtorEq, not_true_eq_false, not_false_eq_true]
        · intro n k hk
          rw [f_X6_differingFields_L5.eq_2, fb_ct_succ]
          by_cases q : V 254 (2 + 12 * r + 4 + k) = V 254 (2 + 12 * s + 4 + k)
          · simp (disch := omega) only [bd_s, bv_s, lt_d, jn_d, om_s, om_n, zl0, zl1, zl2, zl3, zl4, zl5, zl6, zl7, zl8, zl9, zl10, zl11, zl12, zl13, zl16, zl23, zl24, zl26, zl31, zl32, zl35, zl36, zl40, zl42, zl45, zl48, zl57, zl58, zl59, zl60, zl61, zl62, zl63, zl64, zl65, zl78, zl90, zl94, zl97, zl98, zl114, zl122, zl126, zl244, zl290, zl291, zl326, zl335, zl361, zl2527, zl2888, neg1, le_T, le_F, lt_T, lt_F, eq_T, eq_F, m1_ne, m1_ne', m1_lt, m1_le, lt_m1, le_m1, cl_n, ib_T, nI_add, pk_mul, sub_n, add_m1, sub_m1, m1_1, m1_1', pw_d, st_e, st_n, vu_e, vu_n, up_e, up_n, if_true, if_false, true_or, or_true, false_or, or_false, eq_self, reduceCtorEq, not_true_eq_false, not_false_eq_true, cx_le ok R hr hk, cx_le ok R hs hk, q, ne_eq, decide_false, Bool.false_eq_true, Nat.add_zero]
          · simp (disch := omega) only [bd_s, bv_s, lt_d, jn_d, om_s, om_n, zl0, zl1, zl2, zl3, zl4, zl5, zl6, zl7, zl8, zl9, zl10, zl11, zl12, zl13, zl16, zl23, zl24, zl26, zl31, zl32, zl35, zl36, zl40, zl42, zl45, zl48, zl57, zl58, zl59, zl60, zl61, zl62, zl63, zl64, zl65, zl78, zl90, zl94, zl97, zl98, zl114, zl122, zl126, zl244, zl290, zl291, zl326, zl335, zl361, zl2527, zl2888, neg1, le_T, le_F, lt_T, lt_F, eq_T, eq_F, m1_ne, m1_ne', m1_lt, m1_le, lt_m1, le_m1, cl_n, ib_T, nI_add, pk_mul, sub_n, add_m1, sub_m1, m1_1, m1_1', pw_d, st_e, st_n, vu_e, vu_n, up_e, up_n, if_true, if_false, true_or, or_true, false_or, or_false, eq_self, reduceCtorEq, not_true_eq_false, not_false_eq_true, cx_le ok R hr hk, cx_le ok R hs hk, q, ne_eq, decide_true]
      unfold f_L_differences f_X9_differences
      rw [cx_rqR ok R hr, bw_0, cx_rqR ok R hs, bw_0, e, bd_s, bh_0]; rfl
    · show f_X10_differences W (nI r) (nI s) = _
      unfold f_X10_differences dfn
      rw [mq_asks ok hW hr hs, bd_s, if_neg (by decide)]
      refine lp_run 8 (fun n k => f_X10_differences_L16 (nI r) (nI s) n (U0 W) (nI (fb_ct (fun f => decide (V 254 (2 + 12 * r + 4 + f) ≠ V 254 (2 + 12 * s + 4 + f))) k)) (nI k)) _ ?_ ?_ (n := FU) (k := 0) (by omega) (by decide)
      · intro n
        rw [f_X10_differences_L16.eq_2]
        simp (disch := omega) only [bd_s, bv_s, lt_d, jn_d, om_s, om_n, zl0, zl1, zl2, zl3, zl4, zl5, zl6, zl7, zl8, zl9, zl10, zl11, zl12, zl13, zl16, zl23, zl24, zl26, zl31, zl32, zl35, zl36, zl40, zl42, zl45, zl48, zl57, zl58, zl59, zl60, zl61, zl62, zl63, zl64, zl65, zl78, zl90, zl94, zl97, zl98, zl114, zl122, zl126, zl244, zl290, zl291, zl326, zl335, zl361, zl2527, zl2888, neg1, le_T, le_F, lt_T, lt_F, eq_T, eq_F, m1_ne, m1_ne', m1_lt, m1_le, lt_m1, le_m1, cl_n, ib_T, nI_add, pk_mul, sub_n, add_m1, sub_m1, m1_1, m1_1', pw_d, st_e, st_n, vu_e, vu_n, up_e, up_n, if_true, if_false, true_or, or_true, false_or, or_false, eq_self, reduceCtorEq, not_true_eq_false, not_false_eq_true]
      · intro n k hk
        have l1 := sm_letter (V := U0 W) (show r < 24 by omega) hk
        have l2 := sm_letter (V := U0 W) (show s < 24 by omega) hk
        rw [U0_254, hW] at l1 l2
        rw [f_X10_differences_L16.eq_2, fb_ct_succ]
        by_cases q : V 254 (2 + 12 * r + 4 + k) = V 254 (2 + 12 * s + 4 + k)
        · simp (disch := omega) only [bd_s, bv_s, lt_d, jn_d, om_s, om_n, zl0, zl1, zl2, zl3, zl4, zl5, zl6, zl7, zl8, zl9, zl10, zl11, zl12, zl13, zl16, zl23, zl24, zl26, zl31, zl32, zl35, zl36, zl40, zl42, zl45, zl48, zl57, zl58, zl59, zl60, zl61, zl62, zl63, zl64, zl65, zl78, zl90, zl94, zl97, zl98, zl114, zl122, zl126, zl244, zl290, zl291, zl326, zl335, zl361, zl2527, zl2888, neg1, le_T, le_F, lt_T, lt_F, eq_T, eq_F, m1_ne, m1_ne', m1_lt, m1_le, lt_m1, le_m1, cl_n, ib_T, nI_add, pk_mul, sub_n, add_m1, sub_m1, m1_1, m1_1', pw_d, st_e, st_n, vu_e, vu_n, up_e, up_n, if_true, if_false, true_or, or_true, false_or, or_false, eq_self, reduceCtorEq, not_true_eq_false, not_false_eq_true, l1, l2, q, ne_eq, decide_false, Bool.false_eq_true, Nat.add_zero]
        · simp (disch := omega) only [bd_s, bv_s, lt_d, jn_d, om_s, om_n, zl0, zl1, zl2, zl3, zl4, zl5, zl6, zl7, zl8, zl9, zl10, zl11, zl12, zl13, zl16, zl23, zl24, zl26, zl31, zl32, zl35, zl36, zl40, zl42, zl45, zl48, zl57, zl58, zl59, zl60, zl61, zl62, zl63, zl64, zl65, zl78, zl90, zl94, zl97, zl98, zl114, zl122, zl126, zl244, zl290, zl291, zl326, zl335, zl361, zl2527, zl2888, neg1, le_T, le_F, lt_T, lt_F, eq_T, eq_F, m1_ne, m1_ne', m1_lt, m1_le, lt_m1, le_m1, cl_n, ib_T, nI_add, pk_mul, sub_n, add_m1, sub_m1, m1_1, m1_1', pw_d, st_e, st_n, vu_e, vu_n, up_e, up_n, if_true, if_false, true_or, or_true, false_or, or_false, eq_self, reduceCtorEq, not_true_eq_false, not_false_eq_true, l1, l2, q, ne_eq, decide_true]
  · refine q_F (code := 1) I (by omega) (by omega) ?_ (fun W hW => ex_sc2 (r := m1) ?_)
    · unfold f_L_differences f_X9_differences
      rw [cq_two ok R h, bh_n]; rfl
    · unfold f_X10_differences
      rw [mq_asks_B ok hW h, bd_s, if_pos (by decide)]; rfl
/-! origins -/
def org (g : Arr) (f : Nat) : Nat → Nat → Nat
  | 0, r => r
  | n + 1, r => if 0 < r ∧ g (2 + 12 * p1 g r + 4 + f) = g (2 + 12 * r + 4 + f) then org g f n (p1 g r) else r
theorem cx_inh {r f : Nat} (ok : OKg g) (R : RelS V g) (hr : r < cnt g) (hf : f < 8) : f_X6_inherits V (nI r) (nI f) = some (if 0 < r ∧ g (2 + 12 * p1 g r + 4 + f) = g (2 + 12 * r + 4 + f) then nI 1 else nI 0, V) := by
  have hc := ok_c24 ok
  unfold f_X6_inherits
  rcases ok_f ok hr with ⟨z1, z2⟩ | ⟨z1, z2, z3⟩
  · rw [if_neg (by omega)]
    simp (disch := omega) only [bd_s, bv_s, lt_d, jn_d, om_s, om_n, zl0, zl1, zl2, zl3, zl4, zl5, zl6, zl7, zl8, zl9, zl10, zl11, zl12, zl13, zl16, zl23, zl24, zl26, zl31, zl32, zl35, zl36, zl40, zl42, zl45, zl48, zl57, zl58, zl59, zl60, zl61, zl62, zl63, zl64, zl65, zl78, zl90, zl94, zl97, zl98, zl114, zl122, zl126, zl244, zl290, zl291, zl326, zl335, zl361, zl2527, zl2888, neg1, le_T, le_F, lt_T, lt_F, eq_T, eq_F, m1_ne, m1_ne', m1_lt, m1_le, lt_m1, le_m1, cl_n, ib_T, nI_add, pk_mul, sub_n, add_m1, sub_m1, m1_1, m1_1', pw_d, st_e, st_n, vu_e, vu_n, up_e, up_n, if_true, if_false, true_or, or_true, false_or, or_false, eq_self, reduceCtorEq, not_true_eq_false, not_false_eq_true, cx_fp ok R hr, z2]
  · by_cases q : g (2 + 12 * p1 g r + 4 + f) = g (2 + 12 * r + 4 + f)
    · rw [if_pos ⟨z1, q⟩]
      simp (disch := omega) only [bd_s, bv_s, lt_d, jn_d, om_s, om_n, zl0, zl1, zl2, zl3, zl4, zl5, zl6, zl7, zl8, zl9, zl10, zl11, zl12, zl13, zl16, zl23, zl24, zl26, zl31, zl32, zl35, zl36, zl40, zl42, zl45, zl48, zl57, zl58, zl59, zl60, zl61, zl62, zl63, zl64, zl65, zl78, zl90, zl94, zl97, zl98, zl114, zl122, zl126, zl244, zl290, zl291, zl326, zl335, zl361, zl2527, zl2888, neg1, le_T, le_F, lt_T, lt_F, eq_T, eq_F, m1_ne, m1_ne', m1_lt, m1_le, lt_m1, le_m1, cl_n, ib_T, nI_add, pk_mul, sub_n, add_m1, sub_m1, m1_1, m1_1', pw_d, st_e, st_n, vu_e, vu_n, up_e, up_n, if_true, if_false, true_or, or_true, false_or, or_false, eq_self, reduceCtorEq, not_true_eq_false, not_false_eq_true, cx_fp ok R hr, z2, cx_le ok R (show p1 g r < cnt g by omega) hf, cx_le ok R hr hf, q]
    · rw [if_neg (fun z => q z.2)]
      simp (disch := omega) only [bd_s, bv_s, lt_d, jn_d, om_s, om_n, zl0, zl1, zl2, zl3, zl4, zl5, zl6, zl7, zl8, zl9, zl10, zl11, zl12, zl13, zl16, zl23, zl24, zl26, zl31, zl32, zl35, zl36, zl40, zl42, zl45, zl48, zl57, zl58, zl59, zl60, zl61, zl62, zl63, zl64, zl65, zl78, zl90, zl94, zl97, zl98, zl114, zl122, zl126, zl244, zl290, zl291, zl326, zl335, zl361, zl2527, zl2888, neg1, le_T, le_F, lt_T, lt_F, eq_T, eq_F, m1_ne, m1_ne', m1_lt, m1_le, lt_m1, le_m1, cl_n, ib_T, nI_add, pk_mul, sub_n, add_m1, sub_m1, m1_1, m1_1', pw_d, st_e, st_n, vu_e, vu_n, up_e, up_n, if_true, if_false, true_or, or_true, false_or, or_false, eq_self, reduceCtorEq, not_true_eq_false, not_false_eq_true, cx_fp ok R hr, z2, cx_le ok R (show p1 g r < cnt g by omega) hf, cx_le ok R hr hf, q]
theorem org_fix (g : Arr) (ok : OKg g) (f : Nat) : ∀ (n m r : Nat), r < cnt g → r ≤ n → r ≤ m → org g f n r = org g f m r := by
  intro n
  induction n with
  | zero =>
    intro m r hr h1 h2
    have : r = 0 := by omega
    subst this
    cases m with
    | zero => rfl
    | succ m => rw [org, org, if_neg (by omega)]
  | succ n ih =>
    intro m r hr h1 h2
    cases m with
    | zero =>
      have : r = 0 := by omega
      subst this
      rw [org, org, if_neg (by omega)]
    | succ m =>
      rw [org, org]
      by_cases q : 0 < r ∧ g (2 + 12 * p1 g r + 4 + f) = g (2 + 12 * r + 4 + f)
      · have hp := ok_p1l ok hr q.1
        rw [if_pos q, if_pos q, ih m (p1 g r) (by omega) (by omega) (by omega)]
      · rw [if_neg q, if_neg q]
theorem cx_src {r f : Nat} (ok : OKg g) (R : RelS V g) (hr : r < cnt g) (hf : f < 8) : f_X6_sourceOf V (nI r) (nI f) = some (nI (org g f 24 r), V) := by
  have hc := ok_c24 ok
  unfold f_X6_sourceOf
  have key : ∀ (m : Nat) (r t n : Nat), t + m = 24 → r < cnt g → m < n → f_X6_sourceOf_L5 (nI f) n V (nI r) (nI t) = some (nI (org g f m r), V) := by
    intro m
    induction m with
    | zero =>
      intro r t n ht hr hn
      obtain ⟨n, rfl⟩ : ∃ n', n = n' + 1 := ⟨n - 1, by omega⟩
      rw [f_X6_sourceOf_L5.eq_2, org]
      simp (disch := omega) only [bd_s, bv_s, lt_d, jn_d, om_s, om_n, zl0, zl1, zl2, zl3, zl4, zl5, zl6, zl7, zl8, zl9, zl10, zl11, zl12, zl13, zl16, zl23, zl24, zl26, zl31, zl32, zl35, zl36, zl40, zl42, zl45, zl48, zl57, zl58, zl59, zl60, zl61, zl62, zl63, zl64, zl65, zl78, zl90, zl94, zl97, zl98, zl114, zl122, zl126, zl244, zl290, zl291, zl326, zl335, zl361, zl2527, zl2888, neg1, le_T, le_F, lt_T, lt_F, eq_T, eq_F, m1_ne, m1_ne', m1_lt, m1_le, lt_m1, le_m1, cl_n, ib_T, nI_add, pk_mul, sub_n, add_m1, sub_m1, m1_1, m1_1', pw_d, st_e, st_n, vu_e, vu_n, up_e, up_n, if_true, if_false, true_or, or_true, false_or, or_false, eq_self, reduceCtorEq, not_true_eq_false, not_false_eq_true]
    | succ m ih =>
      intro r t n ht hr hn
      obtain ⟨n, rfl⟩ : ∃ n', n = n' + 1 := ⟨n - 1, by omega⟩
      rw [f_X6_sourceOf_L5.eq_2, org]
      have ei := cx_inh ok R hr hf
      by_cases q : 0 < r ∧ g (2 + 12 * p1 g r + 4 + f) = g (2 + 12 * r + 4 + f)
      · have hp := ok_p1l ok hr q.1
        rw [if_pos q] at ei ⊢
        have := ih (p1 g r) (t + 1) n (by omega) (by omega) (by omega)
        simp (disch := omega) only [bd_s, bv_s, lt_d, jn_d, om_s, om_n, zl0, zl1, zl2, zl3, zl4, zl5, zl6, zl7, zl8, zl9, zl10, zl11, zl12, zl13, zl16, zl23, zl24, zl26, zl31, zl32, zl35, zl36, zl40, zl42, zl45, zl48, zl57, zl58, zl59, zl60, zl61, zl62, zl63, zl64, zl65, zl78, zl90, zl94, zl97, zl98, zl114, zl122, zl126, zl244, zl290, zl291, zl326, zl335, zl361, zl2527, zl2888, neg1, le_T, le_F, lt_T, lt_F, eq_T, eq_F, m1_ne, m1_ne', m1_lt, m1_le, lt_m1, le_m1, cl_n, ib_T, nI_add, pk_mul, sub_n, add_m1, sub_m1, m1_1, m1_1', pw_d, st_e, st_n, vu_e, vu_n, up_e, up_n, if_true, if_false, true_or, or_true, false_or, or_false, eq_self, reduceCtorEq, not_true_eq_false, not_false_eq_true, ei, cx_fp ok R hr, ok_p1 ok hr q.1]
        exact this
      · rw [if_neg q] at ei ⊢
        simp (disch := omega) only [bd_s, bv_s, lt_d, jn_d, om_s, om_n, zl0, zl1, zl2, zl3, zl4, zl5, zl6, zl7, zl8, zl9, zl10, zl11, zl12, zl13, zl16, zl23, zl24, zl26, zl31, zl32, zl35, zl36, zl40, zl42, zl45, zl48, zl57, zl58, zl59, zl60, zl61, zl62, zl63, zl64, zl65, zl78, zl90, zl94, zl97, zl98, zl114, zl122, zl126, zl244, zl290, zl291, zl326, zl335, zl361, zl2527, zl2888, neg1, le_T, le_F, lt_T, lt_F, eq_T, eq_F, m1_ne, m1_ne', m1_lt, m1_le, lt_m1, le_m1, cl_n, ib_T, nI_add, pk_mul, sub_n, add_m1, sub_m1, m1_1, m1_1', pw_d, st_e, st_n, vu_e, vu_n, up_e, up_n, if_true, if_false, true_or, or_true, false_or, or_false, eq_self, reduceCtorEq, not_true_eq_false, not_false_eq_true, ei]
  exact key 24 r 0 FU (by omega) hr (by decide)
theorem cx_srr {r f : Nat} (ok : OKg g) (R : RelS V g) (hr : r < cnt g) (hf : f < 8) : f_X6_sourceByRecursion V (nI r) (nI f) 0 = some (nI (org g f 24 r), V) := by
  have hc := ok_c24 ok
  unfold f_X6_sourceByRecursion
  have key : ∀ (m : Nat) (r t n : Nat), t + m = 24 → r < cnt g → m < n → f_X6_sourceByRecursion_R n V (nI r) (nI f) (nI t) = some (nI (org g f m r), V) := by
    intro m
    induction m with
    | zero =>
      intro r t n ht hr hn
      obtain ⟨n, rfl⟩ : ∃ n', n = n' + 1 := ⟨n - 1, by omega⟩
      rw [f_X6_sourceByRecursion_R.eq_2, org]
      simp (disch := omega) only [bd_s, bv_s, lt_d, jn_d, om_s, om_n, zl0, zl1, zl2, zl3, zl4, zl5, zl6, zl7, zl8, zl9, zl10, zl11, zl12, zl13, zl16, zl23, zl24, zl26, zl31, zl32, zl35, zl36, zl40, zl42, zl45, zl48, zl57, zl58, zl59, zl60, zl61, zl62, zl63, zl64, zl65, zl78, zl90, zl94, zl97, zl98, zl114, zl122, zl126, zl244, zl290, zl291, zl326, zl335, zl361, zl2527, zl2888, neg1, le_T, le_F, lt_T, lt_F, eq_T, eq_F, m1_ne, m1_ne', m1_lt, m1_le, lt_m1, le_m1, cl_n, ib_T, nI_add, pk_mul, sub_n, add_m1, sub_m1, m1_1, m1_1', pw_d, st_e, st_n, vu_e, vu_n, up_e, up_n, if_true, if_false, true_or, or_true, false_or, or_false, eq_self, reduceCtorEq, not_true_eq_false, not_false_eq_true]
    | succ m ih =>
      intro r t n ht hr hn
      obtain ⟨n, rfl⟩ : ∃ n', n = n' + 1 := ⟨n - 1, by omega⟩
      rw [f_X6_sourceByRecursion_R.eq_2, org]
      have ei := cx_inh ok R hr hf
      by_cases q : 0 < r ∧ g (2 + 12 * p1 g r + 4 + f) = g (2 + 12 * r + 4 + f)
      · have hp := ok_p1l ok hr q.1
        rw [if_pos q] at ei ⊢
        have := ih (p1 g r) (t + 1) n (by omega) (by omega) (by omega)
        simp (disch := omega) only [bd_s, bv_s, lt_d, jn_d, om_s, om_n, zl0, zl1, zl2, zl3, zl4, zl5, zl6, zl7, zl8, zl9, zl10, zl11, zl12, zl13, zl16, zl23, zl24, zl26, zl31, zl32, zl35, zl36, zl40, zl42, zl45, zl48, zl57, zl58, zl59, zl60, zl61, zl62, zl63, zl64, zl65, zl78, zl90, zl94, zl97, zl98, zl114, zl122, zl126, zl244, zl290, zl291, zl326, zl335, zl361, zl2527, zl2888, neg1, le_T, le_F, lt_T, lt_F, eq_T, eq_F, m1_ne, m1_ne', m1_lt, m1_le, lt_m1, le_m1, cl_n, ib_T, nI_add, pk_mul, sub_n, add_m1, sub_m1, m1_1, m1_1', pw_d, st_e, st_n, vu_e, vu_n, up_e, up_n, if_true, if_false, true_or, or_true, false_or, or_false, eq_self, reduceCtorEq, not_true_eq_false, not_false_eq_true, ei, cx_fp ok R hr, ok_p1 ok hr q.1, this]
      · rw [if_neg q] at ei ⊢
        simp (disch := omega) only [bd_s, bv_s, lt_d, jn_d, om_s, om_n, zl0, zl1, zl2, zl3, zl4, zl5, zl6, zl7, zl8, zl9, zl10, zl11, zl12, zl13, zl16, zl23, zl24, zl26, zl31, zl32, zl35, zl36, zl40, zl42, zl45, zl48, zl57, zl58, zl59, zl60, zl61, zl62, zl63, zl64, zl65, zl78, zl90, zl94, zl97, zl98, zl114, zl122, zl126, zl244, zl290, zl291, zl326, zl335, zl361, zl2527, zl2888, neg1, le_T, le_F, lt_T, lt_F, eq_T, eq_F, m1_ne, m1_ne', m1_lt, m1_le, lt_m1, le_m1, cl_n, ib_T, nI_add, pk_mul, sub_n, add_m1, sub_m1, m1_1, m1_1', pw_d, st_e, st_n, vu_e, vu_n, up_e, up_n, if_true, if_false, true_or, or_true, false_or, or_false, eq_self, reduceCtorEq, not_true_eq_false, not_false_eq_true, ei]
  exact key 24 r 0 26 (by omega) hr (by decide)
theorem mm_org {U : Mem} {r f : Nat} (ok : OKg (U 254)) (hr : r < cnt (U 254)) (hf : f < 8) : f_X10_originOf_L34 (nI f) FU U (nI r) = some (nI (org (U 254) f 24 r), U) := by
  have hc := ok_c24 ok
  have key : ∀ (m : Nat) (r n : Nat), r ≤ m → r < cnt (U 254) → m < n → f_X10_originOf_L34 (nI f) n U (nI r) = some (nI (org (U 254) f m r), U) := by
    intro m
    induction m with
    | zero =>
      intro r n h0 hr hn
      obtain ⟨n, rfl⟩ : ∃ n', n = n' + 1 := ⟨n - 1, by omega⟩
      have : r = 0 := by omega
      subst this
      rw [f_X10_originOf_L34.eq_2, org]
      simp (disch := omega) only [bd_s, bv_s, lt_d, jn_d, om_s, om_n, zl0, zl1, zl2, zl3, zl4, zl5, zl6, zl7, zl8, zl9, zl10, zl11, zl12, zl13, zl16, zl23, zl24, zl26, zl31, zl32, zl35, zl36, zl40, zl42, zl45, zl48, zl57, zl58, zl59, zl60, zl61, zl62, zl63, zl64, zl65, zl78, zl90, zl94, zl97, zl98, zl114, zl122, zl126, zl244, zl290, zl291, zl326, zl335, zl361, zl2527, zl2888, neg1, le_T, le_F, lt_T, lt_F, eq_T, eq_F, m1_ne, m1_ne', m1_lt, m1_le, lt_m1, le_m1, cl_n, ib_T, nI_add, pk_mul, sub_n, add_m1, sub_m1, m1_1, m1_1', pw_d, st_e, st_n, vu_e, vu_n, up_e, up_n, if_true, if_false, true_or, or_true, false_or, or_false, eq_self, reduceCtorEq, not_true_eq_false, not_false_eq_true]
    | succ m ih =>
      intro r n h0 hr hn
      obtain ⟨n, rfl⟩ : ∃ n', n = n' + 1 := ⟨n - 1, by omega⟩
      rcases Nat.eq_zero_or_pos r with z | z
      · subst z
        have eo : org (U 254) f (m + 1) 0 = 0 := by rw [org, if_neg (by omega)]
        rw [f_X10_originOf_L34.eq_2, eo]
        simp (disch := omega) only [bd_s, bv_s, lt_d, jn_d, om_s, om_n, zl0, zl1, zl2, zl3, zl4, zl5, zl6, zl7, zl8, zl9, zl10, zl11, zl12, zl13, zl16, zl23, zl24, zl26, zl31, zl32, zl35, zl36, zl40, zl42, zl45, zl48, zl57, zl58, zl59, zl60, zl61, zl62, zl63, zl64, zl65, zl78, zl90, zl94, zl97, zl98, zl114, zl122, zl126, zl244, zl290, zl291, zl326, zl335, zl361, zl2527, zl2888, neg1, le_T, le_F, lt_T, lt_F, eq_T, eq_F, m1_ne, m1_ne', m1_lt, m1_le, lt_m1, le_m1, cl_n, ib_T, nI_add, pk_mul, sub_n, add_m1, sub_m1, m1_1, m1_1', pw_d, st_e, st_n, vu_e, vu_n, up_e, up_n, if_true, if_false, true_or, or_true, false_or, or_false, eq_self, reduceCtorEq, not_true_eq_false, not_false_eq_true]
      · have hp := ok_p1l ok hr z
        by_cases q : U 254 (2 + 12 * p1 (U 254) r + 4 + f) = U 254 (2 + 12 * r + 4 + f)
        · have eo : org (U 254) f (m + 1) r = org (U 254) f m (p1 (U 254) r) := by rw [org, if_pos ⟨z, q⟩]
          rw [f_X10_originOf_L34.eq_2, eo]
          have := ih (p1 (U 254) r) n (by omega) (by omega) (by omega)
          simp (disch := omega) only [bd_s, bv_s, lt_d, jn_d, om_s, om_n, zl0, zl1, zl2, zl3, zl4, zl5, zl6, zl7, zl8, zl9, zl10, zl11, zl12, zl13, zl16, zl23, zl24, zl26, zl31, zl32, zl35, zl36, zl40, zl42, zl45, zl48, zl57, zl58, zl59, zl60, zl61, zl62, zl63, zl64, zl65, zl78, zl90, zl94, zl97, zl98, zl114, zl122, zl126, zl244, zl290, zl291, zl326, zl335, zl361, zl2527, zl2888, neg1, le_T, le_F, lt_T, lt_F, eq_T, eq_F, m1_ne, m1_ne', m1_lt, m1_le, lt_m1, le_m1, cl_n, ib_T, nI_add, pk_mul, sub_n, add_m1, sub_m1, m1_1, m1_1', pw_d, st_e, st_n, vu_e, vu_n, up_e, up_n, if_true, if_false, true_or, or_true, false_or, or_false, eq_self, reduceCtorEq, not_true_eq_false, not_false_eq_true, sm_revAt, ok_p1 ok hr z, sm_letter (V := U) (show p1 (U 254) r < 24 by omega) hf, sm_letter (V := U) (show r < 24 by omega) hf, q]
          exact this
        · have eo : org (U 254) f (m + 1) r = r := by rw [org, if_neg (fun y => q y.2)]
          rw [f_X10_originOf_L34.eq_2, eo]
          simp (disch := omega) only [bd_s, bv_s, lt_d, jn_d, om_s, om_n, zl0, zl1, zl2, zl3, zl4, zl5, zl6, zl7, zl8, zl9, zl10, zl11, zl12, zl13, zl16, zl23, zl24, zl26, zl31, zl32, zl35, zl36, zl40, zl42, zl45, zl48, zl57, zl58, zl59, zl60, zl61, zl62, zl63, zl64, zl65, zl78, zl90, zl94, zl97, zl98, zl114, zl122, zl126, zl244, zl290, zl291, zl326, zl335, zl361, zl2527, zl2888, neg1, le_T, le_F, lt_T, lt_F, eq_T, eq_F, m1_ne, m1_ne', m1_lt, m1_le, lt_m1, le_m1, cl_n, ib_T, nI_add, pk_mul, sub_n, add_m1, sub_m1, m1_1, m1_1', pw_d, st_e, st_n, vu_e, vu_n, up_e, up_n, if_true, if_false, true_or, or_true, false_or, or_false, eq_self, reduceCtorEq, not_true_eq_false, not_false_eq_true, sm_revAt, ok_p1 ok hr z, sm_letter (V := U) (show p1 (U 254) r < 24 by omega) hf, sm_letter (V := U) (show r < 24 by omega) hf, q]
  exact key 24 r FU (by omega) hr (by decide)
theorem st_org (I : Inv V) (a d : Int32) {cl : Option (Int32 × Mem)} {fx : Option (Nat × Int32 × Mem)} (hcl : cl = bh fx (fun q V => if q = 3 then some (1, V) else if q = 1 then some (2, V) else none) fun r V1 => lt (stv V1 265 0 r) fun V2 => some (0, V2))
    (h1 : ∀ r f, r < cnt (V 254) → f < 8 → a = nI r → d = nI f → fx = some (0, nI (org (V 254) f 24 r), V)) (h2 : Bad a (cnt (V 254)) → fx = some (3, 0, V)) (h3 : ∀ r, r < cnt (V 254) → a = nI r → Bad d 8 → fx = some (1, 0, V)) : StepR V cl (fun W => f_X10_originOf W a d) := by
  obtain ⟨ok, R⟩ := I.1
  have hc := ok_c24 ok
  rcases rev_or ok a with ⟨r, hr, rfl⟩ | hB
  · rcases bad_or d (show 8 < 2 ^ 31 by omega) with ⟨f, hf, rfl⟩ | hF
    · refine q_T (r := nI (org (V 254) f 24 r)) I ?_ (fun W hW => ex_sc ?_)
      · rw [hcl, h1 r f hr hf rfl rfl, bh_0]; rfl
      · show f_X10_originOf W (nI r) (nI f) = _
        unfold f_X10_originOf
        rw [lt_U, mq_rev ok hW hr, bd_s, if_neg (by decide), sm_isFld_T hf, bd_s, if_neg (by decide), mm_org (mq_ok ok hW) (by rw [U0_254, hW]; exact hr) hf, U0_254, hW]
    · refine q_F (code := 2) I (by omega) (by omega) ?_ (fun W hW => ex_sc2 (r := m1) ?_)
      · rw [hcl, h3 r hr rfl hF, bh_n]; rfl
      · show f_X10_originOf W (nI r) d = _
        unfold f_X10_originOf
        rw [lt_U, mq_rev ok hW hr, bd_s, if_neg (by decide), sm_isFld_F hF, bd_s, if_pos (by decide), sm_th, bd_s, U0_th]; rfl
  · refine q_F (code := 1) I (by omega) (by omega) ?_ (fun W hW => ex_sc2 (r := m1) ?_)
    · rw [hcl, h2 hB, bh_n]; rfl
    · unfold f_X10_originOf
      rw [lt_U, mq_rev_B ok hW hB, bd_s, if_pos (by decide), sm_th, bd_s, U0_th]; rfl
theorem st_originOf (I : Inv V) (a d : Int32) : StepR V (f_L_originOf V a d) (fun W => f_X10_originOf W a d) := by
  obtain ⟨ok, R⟩ := I.1
  refine st_org I a d (fx := f_X9_originOf V a d) rfl (fun r f hr hf e1 e2 => ?_) (fun hB => ?_) (fun r hr e1 hF => ?_)
  · subst e1 e2
    unfold f_X9_originOf
    rw [cx_rqR ok R hr, bw_0, cx_rqF hf, bw_0, cx_src ok R hr hf, bd_s]
  · unfold f_X9_originOf
    rw [cx_rqR_B ok R hB, bw_n]
  · subst e1
    unfold f_X9_originOf
    rw [cx_rqR ok R hr, bw_0, cx_rqF_B hF, bw_n]
theorem st_originByRecursion (I : Inv V) (a d : Int32) : StepR V (f_L_originByRecursion V a d) (fun W => f_X10_originByRecursion W a d) := by
  obtain ⟨ok, R⟩ := I.1
  have md : (fun W => f_X10_originByRecursion W a d) = fun W => f_X10_originOf W a d := by
    funext W
    unfold f_X10_originByRecursion
    cases f_X10_originOf W a d with
    | none => rfl
    | some y => rfl
  rw [md]
  refine st_org I a d (fx := f_X9_originByRecursion V a d) rfl (fun r f hr hf e1 e2 => ?_) (fun hB => ?_) (fun r hr e1 hF => ?_)
  · subst e1 e2
    unfold f_X9_originByRecursion
    rw [cx_rqR ok R hr, bw_0, cx_rqF hf, bw_0, cx_srr ok R hr hf, bd_s]
  · unfold f_X9_originByRecursion
    rw [cx_rqR_B ok R hB, bw_n]
  · subst e1
    unfold f_X9_originByRecursion
    rw [cx_rqR ok R hr, bw_0, cx_rqF_B hF, bw_n]
end QG
