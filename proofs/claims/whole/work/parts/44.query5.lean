/-! PURE, 44: tags, what is in use, shares, the check -/
section QJ
variable {V : Mem} {g : Arr}
theorem st_tagCount (I : Inv V) : StepD V (f_X9_tagCount V) (fun W => f_X10_tagCount W) := by
  obtain ⟨ok, R⟩ := I.1
  refine q_D (r := nI (tgn (V 254))) I ?_ (ex_sc ?_)
  · unfold f_X9_tagCount
    rw [cx_tags (fun t h => ok_tag ok h) (ok_c24 ok) (fun t h => rl_t R h), bd_s]
  · unfold f_X10_tagCount
    have ok2 := mq_ok (W := V) ok rfl
    rw [lt_U, mm_tags (V := U0 V) (fun t h => ok_tag ok2 h) (ok_c24 ok2), bd_s, U0_254]
theorem st_taggedRevision (I : Inv V) (a : Int32) : StepR V (f_L_taggedRevision V a) (fun W => f_X10_taggedRevision W a) := by
  obtain ⟨ok, R⟩ := I.1
  have hc := ok_c24 ok
  rcases cap_or a with ⟨t, ht, rfl⟩ | hB
  · have ein := fun (W : Mem) => sm_in_T (U0 W) (A := (nI (65 + t)).toInt64) (B := 65) (C := 90) rfl w65 w90 (nI_le (show 65 ≤ 65 + t by omega) (by omega)) (nI_le (show 65 + t ≤ 90 by omega) (by omega))
    by_cases q : V 254 (335 + t) = m1
    · refine q_F (code := 1) I (by omega) (by omega) ?_ (fun W hW => ex_sc2 (r := m1) ?_)
      · unfold f_L_taggedRevision f_X9_taggedRevision
        rw [cx_tw R ht, bd_s, q, rq_pres_m, bx_n, bh_n]; rfl
      · unfold f_X10_taggedRevision
        rw [lt_U, ein W, bd_s]
        simp (disch := omega) only [bd_s, bv_s, lt_d, jn_d, om_s, om_n, zl0, zl1, zl2, zl3, zl4, zl5, zl6, zl7, zl8, zl9, zl10, zl11, zl12, zl13, zl16, zl23, zl24, zl26, zl31, zl32, zl35, zl36, zl40, zl42, zl45, zl48, zl57, zl58, zl59, zl60, zl61, zl62, zl63, zl64, zl65, zl78, zl90, zl94, zl97, zl98, zl114, zl122, zl126, zl244, zl290, zl291, zl326, zl335, zl361, zl2527, zl2888, neg1, le_T, le_F, lt_T, lt_F, eq_T, eq_F, m1_ne, m1_ne', m1_lt, m1_le, lt_m1, le_m1, cl_n, ib_T, nI_add, pk_mul, sub_n, add_m1, sub_m1, m1_1, m1_1', pw_d, st_e, st_n, vu_e, vu_n, up_e, up_n, if_true, if_false, true_or, or_true, false_or, or_false, eq_self, reduceCtorEq, not_true_eq_false, not_false_eq_true, U0_254, hW, q, x65, sm_th]
        rw [U0_th]
    · refine q_T (r := V 254 (335 + t)) I ?_ (fun W hW => ex_sc ?_)
      · unfold f_L_taggedRevision f_X9_taggedRevision
        rw [cx_tw R ht, bd_s, rq_pres _ q, bx_0, bh_0]; rfl
      · show f_X10_taggedRevision W (nI (65 + t)) = _
        unfold f_X10_taggedRevision
        rw [lt_U, ein W, bd_s]
        simp (disch := omega) only [bd_s, bv_s, lt_d, jn_d, om_s, om_n, zl0, zl1, zl2, zl3, zl4, zl5, zl6, zl7, zl8, zl9, zl10, zl11, zl12, zl13, zl16, zl23, zl24, zl26, zl31, zl32, zl35, zl36, zl40, zl42, zl45, zl48, zl57, zl58, zl59, zl60, zl61, zl62, zl63, zl64, zl65, zl78, zl90, zl94, zl97, zl98, zl114, zl122, zl126, zl244, zl290, zl291, zl326, zl335, zl361, zl2527, zl2888, neg1, le_T, le_F, lt_T, lt_F, eq_T, eq_F, m1_ne, m1_ne', m1_lt, m1_le, lt_m1, le_m1, cl_n, ib_T, nI_add, pk_mul, sub_n, add_m1, sub_m1, m1_1, m1_1', pw_d, st_e, st_n, vu_e, vu_n, up_e, up_n, if_true, if_false, true_or, or_true, false_or, or_false, eq_self, reduceCtorEq, not_true_eq_false, not_false_eq_true, U0_254, hW, q, x65]
  · refine q_F (code := 1) I (by omega) (by omega) ?_ (fun W hW => ex_sc2 (r := m1) ?_)
    · unfold f_L_taggedRevision f_X9_taggedRevision
      rw [cx_tw_B hB, bd_s, rq_pres_m, bx_n, bh_n]; rfl
    · unfold f_X10_taggedRevision
      rw [lt_U, sm_in_F (U0 W) (A := a.toInt64) (B := 65) (C := 90) rfl w65 w90 hB, bd_s, jn_d, if_pos (by decide)]
      show bd (f_X10_throwing (U0 W) 1) _ = _
      rw [sm_th, bd_s, U0_th]; rfl
/-- the first tag of a revision, looked for in the last m of the 26 -/
def tgf (g : Arr) (a : Int32) : Nat → Int32
  | 0 => m1
  | m + 1 => if g (335 + (26 - (m + 1))) = a then nI (65 + (26 - (m + 1))) else tgf g a m
theorem tgf_or (g : Arr) (a : Int32) : ∀ m, tgf g a m = m1 ∨ ∃ t, t < 26 ∧ tgf g a m = nI (65 + t)
  | 0 => .inl rfl
  | m + 1 => by
    unfold tgf
    by_cases q : g (335 + (26 - (m + 1))) = a
    · rw [if_pos q]; exact .inr ⟨26 - (m + 1), by omega, rfl⟩
    · rw [if_neg q]; exact tgf_or g a m
theorem cx_ft {a : Int32} (R : RelS V g) : f_X8_firstTagOf V a = some (tgf g a 26, V) := by
  unfold f_X8_firstTagOf
  have key : ∀ m n, m ≤ 26 → m < n → f_X8_firstTagOf_L3 a n V (nI (65 + (26 - m))) = some (tgf g a m, V) := by
    intro m
    induction m with
    | zero =>
      intro n _ hn
      obtain ⟨n, rfl⟩ : ∃ n', n = n' + 1 := ⟨n - 1, by omega⟩
      rw [f_X8_firstTagOf_L3.eq_2]
      simp (disch := omega) only [bd_s, bv_s, lt_d, jn_d, om_s, om_n, zl0, zl1, zl2, zl3, zl4, zl5, zl6, zl7, zl8, zl9, zl10, zl11, zl12, zl13, zl16, zl23, zl24, zl26, zl31, zl32, zl35, zl36, zl40, zl42, zl45, zl48, zl57, zl58, zl59, zl60, zl61, zl62, zl63, zl64, zl65, zl78, zl90, zl94, zl97, zl98, zl114, zl122, zl126, zl244, zl290, zl291, zl326, zl335, zl361, zl2527, zl2888, neg1, le_T, le_F, lt_T, lt_F, eq_T, eq_F, m1_ne, m1_ne', m1_lt, m1_le, lt_m1, le_m1, cl_n, ib_T, nI_add, pk_mul, sub_n, add_m1, sub_m1, m1_1, m1_1', pw_d, st_e, st_n, vu_e, vu_n, up_e, up_n, if_true, if_false, true_or, or_true, false_or, or_false, eq_self, reduceCtorEq, not_true_eq_false, not_false_eq_true, tgf] <;> rfl
    | succ m ih =>
      intro n hm hn
      obtain ⟨n, rfl⟩ : ∃ n', n = n' + 1 := ⟨n - 1, by omega⟩
      have := ih n (by omega) (by omega)
      rw [show 65 + (26 - m) = 65 + (26 - (m + 1)) + 1 by omega] at this
      rw [f_X8_firstTagOf_L3.eq_2, tgf]
      by_cases q : g (335 + (26 - (m + 1))) = a
      · simp (disch := omega) only [bd_s, bv_s, lt_d, jn_d, om_s, om_n, zl0, zl1, zl2, zl3, zl4, zl5, zl6, zl7, zl8, zl9, zl10, zl11, zl12, zl13, zl16, zl23, zl24, zl26, zl31, zl32, zl35, zl36, zl40, zl42, zl45, zl48, zl57, zl58, zl59, zl60, zl61, zl62, zl63, zl64, zl65, zl78, zl90, zl94, zl97, zl98, zl114, zl122, zl126, zl244, zl290, zl291, zl326, zl335, zl361, zl2527, zl2888, neg1, le_T, le_F, lt_T, lt_F, eq_T, eq_F, m1_ne, m1_ne', m1_lt, m1_le, lt_m1, le_m1, cl_n, ib_T, nI_add, pk_mul, sub_n, add_m1, sub_m1, m1_1, m1_1', pw_d, st_e, st_n, vu_e, vu_n, up_e, up_n, if_true, if_false, true_or, or_true, false_or, or_false, eq_self, reduceCtorEq, not_true_eq_false, not_false_eq_true, cx_tw R (show 26 - (m + 1) < 26 by omega), q]
      · simp (disch := omega) only [bd_s, bv_s, lt_d, jn_d, om_s, om_n, zl0, zl1, zl2, zl3, zl4, zl5, zl6, zl7, zl8, zl9, zl10, zl11, zl12, zl13, zl16, zl23, zl24, zl26, zl31, zl32, zl35, zl36, zl40, zl42, zl45, zl48, zl57, zl58, zl59, zl60, zl61, zl62, zl63, zl64, zl65, zl78, zl90, zl94, zl97, zl98, zl114, zl122, zl126, zl244, zl290, zl291, zl326, zl335, zl361, zl2527, zl2888, neg1, le_T, le_F, lt_T, lt_F, eq_T, eq_F, m1_ne, m1_ne', m1_lt, m1_le, lt_m1, le_m1, cl_n, ib_T, nI_add, pk_mul, sub_n, add_m1, sub_m1, m1_1, m1_1', pw_d, st_e, st_n, vu_e, vu_n, up_e, up_n, if_true, if_false, true_or, or_true, false_or, or_false, eq_self, reduceCtorEq, not_true_eq_false, not_false_eq_true, cx_tw R (show 26 - (m + 1) < 26 by omega), q]
        exact this
  exact key 26 FU (by omega) (by decide)
theorem mm_ft {U : Mem} {r : Nat} {jj : Mem → Option (Int32 × Mem)} (ok : OKg (U 254)) (hr : r < cnt (U 254)) : f_X10_tagOf_L7 (nI r) jj FU U 0 = if tgf (U 254) (nI r) 26 = m1 then jj U else some (((tgf (U 254) (nI r) 26).toUInt32 % 65536).toInt32, U) := by
  have hrev := sm_isRev_T (V := U) (n := cnt (U 254)) (ok_cnt ok) (ok_c24 ok) hr
  have key : ∀ m n, m ≤ 26 → m < n → f_X10_tagOf_L7 (nI r) jj n U (nI (26 - m)) = if tgf (U 254) (nI r) m = m1 then jj U else some (((tgf (U 254) (nI r) m).toUInt32 % 65536).toInt32, U) := by
    intro m
    induction m with
    | zero =>
      intro n _ hn
      obtain ⟨n, rfl⟩ : ∃ n', n = n' + 1 := ⟨n - 1, by omega⟩
      rw [f_X10_tagOf_L7.eq_2]
      simp (disch := omega) only [bd_s, bv_s, lt_d, jn_d, om_s, om_n, zl0, zl1, zl2, zl3, zl4, zl5, zl6, zl7, zl8, zl9, zl10, zl11, zl12, zl13, zl16, zl23, zl24, zl26, zl31, zl32, zl35, zl36, zl40, zl42, zl45, zl48, zl57, zl58, zl59, zl60, zl61, zl62, zl63, zl64, zl65, zl78, zl90, zl94, zl97, zl98, zl114, zl122, zl126, zl244, zl290, zl291, zl326, zl335, zl361, zl2527, zl2888, neg1, le_T, le_F, lt_T, lt_F, eq_T, eq_F, m1_ne, m1_ne', m1_lt, m1_le, lt_m1, le_m1, cl_n, ib_T, nI_add, pk_mul, sub_n, add_m1, sub_m1, m1_1, m1_1', pw_d, st_e, st_n, vu_e, vu_n, up_e, up_n, if_true, if_false, true_or, or_true, false_or, or_false, eq_self, reduceCtorEq, not_true_eq_false, not_false_eq_true, tgf] <;> rfl
    | succ m ih =>
      intro n hm hn
      obtain ⟨n, rfl⟩ : ∃ n', n = n' + 1 := ⟨n - 1, by omega⟩
      have := ih n (by omega) (by omega)
      rw [show 26 - m = 26 - (m + 1) + 1 by omega] at this
      rw [f_X10_tagOf_L7.eq_2]
      by_cases q : U 254 (335 + (26 - (m + 1))) = nI r
      · rw [show tgf (U 254) (nI r) (m + 1) = nI (65 + (26 - (m + 1))) by rw [tgf, if_pos q], if_neg (nI_m1 (by omega))]
        simp (disch := omega) only [bd_s, bv_s, lt_d, jn_d, om_s, om_n, zl0, zl1, zl2, zl3, zl4, zl5, zl6, zl7, zl8, zl9, zl10, zl11, zl12, zl13, zl16, zl23, zl24, zl26, zl31, zl32, zl35, zl36, zl40, zl42, zl45, zl48, zl57, zl58, zl59, zl60, zl61, zl62, zl63, zl64, zl65, zl78, zl90, zl94, zl97, zl98, zl114, zl122, zl126, zl244, zl290, zl291, zl326, zl335, zl361, zl2527, zl2888, neg1, le_T, le_F, lt_T, lt_F, eq_T, eq_F, m1_ne, m1_ne', m1_lt, m1_le, lt_m1, le_m1, cl_n, ib_T, nI_add, pk_mul, sub_n, add_m1, sub_m1, m1_1, m1_1', pw_d, st_e, st_n, vu_e, vu_n, up_e, up_n, if_true, if_false, true_or, or_true, false_or, or_false, eq_self, reduceCtorEq, not_true_eq_false, not_false_eq_true, hrev, q]
      · rw [show tgf (U 254) (nI r) (m + 1) = tgf (U 254) (nI r) m by rw [tgf, if_neg q]]
        simp (disch := omega) only [bd_s, bv_s, lt_d, jn_d, om_s, om_n, zl0, zl1, zl2, zl3, zl4, zl5, zl6, zl7, zl8, zl9, zl10, zl11, zl12, zl13, zl16, zl23, zl24, zl26, zl31, zl32, zl35, zl36, zl40, zl42, zl45, zl48, zl57, zl58, zl59, zl60, zl61, zl62, zl63, zl64, zl65, zl78, zl90, zl94, zl97, zl98, zl114, zl122, zl126, zl244, zl290, zl291, zl326, zl335, zl361, zl2527, zl2888, neg1, le_T, le_F, lt_T, lt_F, eq_T, eq_F, m1_ne, m1_ne', m1_lt, m1_le, lt_m1, le_m1, cl_n, ib_T, nI_add, pk_mul, sub_n, add_m1, sub_m1, m1_1, m1_1', pw_d, st_e, st_n, vu_e, vu_n, up_e, up_n, if_true, if_false, true_or, or_true, false_or, or_false, eq_self, reduceCtorEq, not_true_eq_false, not_false_eq_true, hrev, q]
        exact this
  exact key 26 FU (by omega) (by decide)
theorem st_tagOf (I : Inv V) (a : Int32) : StepR V (f_L_tagOf V a) (fun W => f_X10_tagOf W a) := by
  obtain ⟨ok, R⟩ := I.1
  have hc := ok_c24 ok
  rcases rev_or ok a with ⟨r, hr, rfl⟩ | hB
  · have md : ∀ W, W 254 = V 254 → f_X10_tagOf W (nI r) = if tgf (V 254) (nI r) 26 = m1 then bd (f_X10_throwing (U0 W) 1) (fun r49 V49 => some (((r49.toUInt32 % 65536).toInt32), V49)) else some (((tgf (V 254) (nI r) 26).toUInt32 % 65536).toInt32, U0 W) := fun W hW => by
      unfold f_X10_tagOf
      rw [lt_U, jn_d, mm_ft (mq_ok ok hW) (by rw [U0_254, hW]; exact hr), U0_254, hW]
    by_cases q : tgf (V 254) (nI r) 26 = m1
    · refine q_F (code := 1) I (by omega) (by omega) ?_ (fun W hW => ex_sc2 (r := (m1.toUInt32 % 65536).toInt32) ?_)
      · unfold f_L_tagOf f_X9_tagOf
        rw [cx_rqR ok R hr, bw_0, cx_ft R, bd_s, q, rq_pres_m, bx_n, bh_n]; rfl
      · rw [md W hW, if_pos q, sm_th, bd_s, U0_th]; rfl
    · refine q_T (r := ((tgf (V 254) (nI r) 26).toUInt32 % 65536).toInt32) I ?_ (fun W hW => ex_sc ?_)
      · unfold f_L_tagOf f_X9_tagOf
        rw [cx_rqR ok R hr, bw_0, cx_ft R, bd_s, rq_pres _ q, bx_0, bh_0]; rfl
      · show f_X10_tagOf W (nI r) = _
        rw [md W hW, if_neg q]
  · refine q_F (code := 1) I (by omega) (by omega) ?_ (fun W hW => ex_sc2 (r := (m1.toUInt32 % 65536).toInt32) ?_)
    · unfold f_L_tagOf f_X9_tagOf
      rw [cx_rqR_B ok R hB, bw_n, bh_n]; rfl
    · unfold f_X10_tagOf
      rw [lt_U, jn_d, show FU = 3999 + 1 by decide, f_X10_tagOf_L7.eq_2, if_neg (by decide), mq_rev_B ok hW hB, bd_s, if_pos (by decide)]
      show bd (f_X10_throwing (U0 W) 1) _ = _
      rw [sm_th, bd_s, U0_th]; rfl
/-! in use -/
theorem md_used {W : Mem} (ok : OKg (V 254)) (hW : W 254 = V 254) : ∃ h k, f_X10_usedCount W = some (nI (pcn (usd (V 254))), scr (U0 W) h k) := by
  obtain ⟨h, k, e⟩ := (sm_used (V := U0 W) (mq_ok ok hW)).at
  have e : f_X10_used (U0 W) = some (usd (U0 W 254), scr (U0 W) h k) := e
  rw [U0_254, hW] at e
  refine ⟨h, k, ?_⟩
  unfold f_X10_usedCount
  rw [lt_U, e, bd_s]
  exact mq_cnt (fun x n => f_X10_usedCount_L14 x n) (fun n c i => f_X10_usedCount_L14.eq_2 _ _ _ _ _)
theorem st_usedCount (I : Inv V) : StepD V (f_X9_usedCount V) (fun W => f_X10_usedCount W) := by
  obtain ⟨ok, R⟩ := I.1
  refine q_D (r := nI (pcn (usd (V 254)))) I ?_ (md_used ok rfl)
  unfold f_X9_usedCount
  rw [cx_used ok R, bd_s, cx_bc (fun i h _ => usd_hi ok i h), bd_s]
def mkb (g : Arr) : Nat → Int32
  | 0 => nI 0
  | k + 1 => mkb g k ||| pw (hd g k)
def mkt (g : Arr) : Nat → Int32
  | 0 => mkb g (bcn g)
  | k + 1 => mkt g k ||| (if g (335 + k) = m1 then nI 0 else pw (tg g k))
theorem mkb_bt (ok : OKg g) (q : Nat) : ∀ n, n ≤ bcn g → (bt (mkb g n) q = true ↔ ∃ b, b < n ∧ hd g b = q)
  | 0, _ => by
    unfold mkb; rw [bt_0]
    exact ⟨fun h => Bool.noConfusion h, fun ⟨b, h, _⟩ => absurd h (Nat.not_lt_zero _)⟩
  | n + 1, hn => by
    have ih := mkb_bt ok q n (by omega)
    have h1 := ok_hc ok (show n < bcn g by omega)
    have hc := ok_c24 ok
    unfold mkb
    rw [b_or, Bool.or_eq_true, ih, bt_pw (by omega), decide_eq_true_eq]
    constructor
    · rintro (⟨b, h1, h2⟩ | h)
      · exact ⟨b, by omega, h2⟩
      · exact ⟨n, by omega, h.symm⟩
    · rintro ⟨b, h1, h2⟩
      by_cases e : b = n
      · subst e; exact .inr h2.symm
      · exact .inl ⟨b, by omega, h2⟩
theorem mkt_bt (ok : OKg g) (q : Nat) : ∀ n, n ≤ 26 → (bt (mkt g n) q = true ↔ (∃ b, b < bcn g ∧ hd g b = q) ∨ ∃ t, t < n ∧ g (335 + t) ≠ m1 ∧ tg g t = q)
  | 0, _ => by
    unfold mkt; rw [mkb_bt ok q _ (Nat.le_refl _)]
    exact ⟨fun h => .inl h, fun h => h.resolve_right (fun ⟨t, h, _⟩ => absurd h (Nat.not_lt_zero _))⟩
  | n + 1, hn => by
    have ih := mkt_bt ok q n (by omega)
    have hc := ok_c24 ok
    unfold mkt; rw [b_or, Bool.or_eq_true, ih]
    constructor
    · rintro ((h | ⟨t, h1, h2⟩) | h)
      · exact .inl h
      · exact .inr ⟨t, by omega, h2⟩
      · by_cases e : g (335 + n) = m1
        · rw [if_pos e, bt_0] at h; exact Bool.noConfusion h
        · have := (ok_tgc ok (show n < 26 by omega) e).2.1
          rw [if_neg e, bt_pw (by omega), decide_eq_true_eq] at h
          exact .inr ⟨n, by omega, e, h.symm⟩
    · rintro (h | ⟨t, h1, h2, h3⟩)
      · exact .inl (.inl h)
      · by_cases e : t = n
        · subst e
          have := (ok_tgc ok (show t < 26 by omega) h2).2.1
          right; rw [if_neg h2, bt_pw (by omega), decide_eq_true_eq]; exact h3.symm
        · exact .inl (.inr ⟨t, by omega, h2, h3⟩)
theorem mkt_usd (ok : OKg g) {q : Nat} : bt (usd g) q = true ↔ ∃ s, bt (mkt g 26) s = true ∧ anc g s q := by
  rw [usd_bt]
  constructor
  · rintro (⟨b, h1, h2⟩ | ⟨t, h1, h2, h3⟩)
    · exact ⟨_, (mkt_bt ok _ 26 (Nat.le_refl _)).mpr (.inl ⟨b, h1, rfl⟩), h2⟩
    · exact ⟨_, (mkt_bt ok _ 26 (Nat.le_refl _)).mpr (.inr ⟨t, h1, h2, rfl⟩), h3⟩
  · rintro ⟨s, h, ha⟩
    rcases (mkt_bt ok _ 26 (Nat.le_refl _)).mp h with ⟨b, h1, h2⟩ | ⟨t, h1, h2, h3⟩
    · subst h2; exact .inl ⟨b, h1, ha⟩
    · subst h3; exact .inr ⟨t, h1, h2, ha⟩
theorem mkt_self (ok : OKg g) {s : Nat} (h : bt (mkt g 26) s = true) : s < cnt g ∧ anc g s s := by
  rcases (mkt_bt ok _ 26 (Nat.le_refl _)).mp h with ⟨b, h1, h2⟩ | ⟨t, h1, h2, h3⟩
  · subst h2; have := ok_hc ok h1; exact ⟨this, anc_self ok this⟩
  · subst h3; have := (ok_tgc ok h1 h2).2.1; exact ⟨this, anc_self ok this⟩
theorem cx_wpm (ok : OKg g) (R : RelS V g) : f_X6_withParentsMarked V (mkt g 26) = some (usd g, V) := by
  have hc := ok_c24 ok
  have h1 := ok_c1 ok
  unfold f_X6_withParentsMarked
  have key : ∀ (r : Nat) (S : Int32), r < cnt g → (∀ q, bt S q = true → bt (usd g) q = true) → (∀ x, bt (usd g) x = true → r < x → bt S x = true) → (∀ x, bt (usd g) x = true → x ≤ r → ∃ s, s ≤ r ∧ bt S s = true ∧ anc g s x) → ∀ n, r < n → f_X6_withParentsMarked_L9 n V S (nI r) = some (usd g, V) := by
    intro r
    induction r with
    | zero =>
      intro S hr i1 i2 i3 n hn
      obtain ⟨n, rfl⟩ : ∃ n', n = n' + 1 := ⟨n - 1, by omega⟩
      rw [f_X6_withParentsMarked_L9.eq_2]
      have : S = usd g := by
        apply b_ext; intro i hi
        cases q : bt (usd g) i
        · cases q2 : bt S i
          · rfl
          · rw [i1 i q2] at q; exact q
        · rcases Nat.eq_zero_or_pos i with z | z
          · subst z
            obtain ⟨s, s1, s2, s3⟩ := i3 0 q (Nat.le_refl _)
            have : s = 0 := by omega
            subst this; exact s2
          · exact i2 i q z
      rw [this]
      simp (disch := omega) only [bd_s, bv_s, lt_d, jn_d, om_s, om_n, zl0, zl1, zl2, zl3, zl4, zl5, zl6, zl7, zl8, zl9, zl10, zl11, zl12, zl13, zl16, zl23, zl24, zl26, zl31, zl32, zl35, zl36, zl40, zl42, zl45, zl48, zl57, zl58, zl59, zl60, zl61, zl62, zl63, zl64, zl65, zl78, zl90, zl94, zl97, zl98, zl114, zl122, zl126, zl244, zl290, zl291, zl326, zl335, zl361, zl2527, zl2888, neg1, le_T, le_F, lt_T, lt_F, eq_T, eq_F, m1_ne, m1_ne', m1_lt, m1_le, lt_m1, le_m1, cl_n, ib_T, nI_add, pk_mul, sub_n, add_m1, sub_m1, m1_1, m1_1', pw_d, st_e, st_n, vu_e, vu_n, up_e, up_n, if_true, if_false, true_or, or_true, false_or, or_false, eq_self, reduceCtorEq, not_true_eq_false, not_false_eq_true]
    | succ r ih =>
      intro S hr i1 i2 i3 n hn
      obtain ⟨n, rfl⟩ : ∃ n', n = n' + 1 := ⟨n - 1, by omega⟩
      rw [f_X6_withParentsMarked_L9.eq_2]
      have ctS := sx_cont (V := V) (x := S) (show r + 1 < 24 by omega)
      have top : bt (usd g) (r + 1) = true → bt S (r + 1) = true := fun h => by
        obtain ⟨s, s1, s2, s3⟩ := i3 _ h (Nat.le_refl _)
        have := anc_le ok (show s < cnt g by omega) s3
        have : s = r + 1 := by omega
        subst this; exact s2
      by_cases q : bt S (r + 1) = true
      · rw [q] at ctS
        have := ih (S ||| psg g (r + 1)) (by omega) (fun q' h => by
            rw [b_or, Bool.or_eq_true] at h
            rcases h with h | h
            · exact i1 _ h
            · exact usd_tr ok (i1 _ q) (psg_lt ok hr h).2) (fun x hx hxr => by
            rw [b_or, Bool.or_eq_true]; left
            by_cases e : x = r + 1
            · subst e; exact q
            · exact i2 x hx (by omega)) (fun x hx hxr => by
            obtain ⟨s, s1, s2, s3⟩ := i3 x hx (by omega)
            by_cases e : s = r + 1
            · subst e
              obtain ⟨p, h1, h2⟩ := anc_ps ok (by omega) s3 (by omega)
              exact ⟨p, by have := (psg_lt ok (by omega) h1).1; omega, by rw [b_or, h1, Bool.or_true], h2⟩
            · exact ⟨s, by omega, by rw [b_or, s2, Bool.true_or], s3⟩) n (by omega)
        simp (disch := omega) only [bd_s, bv_s, lt_d, jn_d, om_s, om_n, zl0, zl1, zl2, zl3, zl4, zl5, zl6, zl7, zl8, zl9, zl10, zl11, zl12, zl13, zl16, zl23, zl24, zl26, zl31, zl32, zl35, zl36, zl40, zl42, zl45, zl48, zl57, zl58, zl59, zl60, zl61, zl62, zl63, zl64, zl65, zl78, zl90, zl94, zl97, zl98, zl114, zl122, zl126, zl244, zl290, zl291, zl326, zl335, zl361, zl2527, zl2888, neg1, le_T, le_F, lt_T, lt_F, eq_T, eq_F, m1_ne, m1_ne', m1_lt, m1_le, lt_m1, le_m1, cl_n, ib_T, nI_add, pk_mul, sub_n, add_m1, sub_m1, m1_1, m1_1', pw_d, st_e, st_n, vu_e, vu_n, up_e, up_n, if_true, if_false, true_or, or_true, false_or, or_false, eq_self, reduceCtorEq, not_true_eq_false, not_false_eq_true, ctS, cx_ps ok R hr, Nat.add_sub_cancel]
        exact this
      · rw [bf q] at ctS
        have := ih S (by omega) i1 (fun x hx hxr => by
            by_cases e : x = r + 1
            · subst e; exact top hx
            · exact i2 x hx (by omega)) (fun x hx hxr => by
            obtain ⟨s, s1, s2, s3⟩ := i3 x hx (by omega)
            by_cases e : s = r + 1
            · subst e; exact absurd s2 q
            · exact ⟨s, by omega, s2, s3⟩) n (by omega)
        simp (disch := omega) only [bd_s, bv_s, lt_d, jn_d, om_s, om_n, zl0, zl1, zl2, zl3, zl4, zl5, zl6, zl7, zl8, zl9, zl10, zl11, zl12, zl13, zl16, zl23, zl24, zl26, zl31, zl32, zl35, zl36, zl40, zl42, zl45, zl48, zl57, zl58, zl59, zl60, zl61, zl62, zl63, zl64, zl65, zl78, zl90, zl94, zl97, zl98, zl114, zl122, zl126, zl244, zl290, zl291, zl326, zl335, zl361, zl2527, zl2888, neg1, le_T, le_F, lt_T, lt_F, eq_T, eq_F, m1_ne, m1_ne', m1_lt, m1_le, lt_m1, le_m1, cl_n, ib_T, nI_add, pk_mul, sub_n, add_m1, sub_m1, m1_1, m1_1', pw_d, st_e, st_n, vu_e, vu_n, up_e, up_n, if_true, if_false, true_or, or_true, false_or, or_false, eq_self, reduceCtorEq, not_true_eq_false, not_false_eq_true, ctS, Bool.false_eq_true, Nat.add_sub_cancel]
        exact this
  have := key (cnt g - 1) (mkt g 26) (by omega) (fun q h => (mkt_usd ok).mpr ⟨q, h, (mkt_self ok h).2⟩) (fun x hx hxr => by have := (usd_arc ok hx).2; omega) (fun x hx hxr => by
    obtain ⟨s, s1, s2⟩ := (mkt_usd ok).mp hx
    exact ⟨s, by have := (mkt_self ok s1).1; omega, s1, s2⟩) FU (by unfold FU; omega)
  rw [rl_n R, ok_cnt ok, show nI (cnt g) - 1 = nI (cnt g - 1) from sub_n (a := cnt g) (b := 1) h1]
  exact this
theorem cx_ubm (ok : OKg g) (R : RelS V g) : f_X8_countUsedByMarks V = some (nI (pcn (usd g)), V) := by
  have h5 := ok_b5 ok
  have hc := ok_c24 ok
  unfold f_X8_countUsedByMarks
  have T : ∀ (j : Mem → Int32 → Option (Int32 × Mem)), f_X8_countUsedByMarks_L32 j FU V (mkt g 0) (nI 65) = j V (mkt g 26) := by
    intro j
    refine lp_run 26 (fun n k => f_X8_countUsedByMarks_L32 j n V (mkt g k) (nI (65 + k))) _ ?_ ?_ (n := FU) (k := 0) (by omega) (by decide)
    · intro n
      rw [f_X8_countUsedByMarks_L32.eq_2]
      simp (disch := omega) only [bd_s, bv_s, lt_d, jn_d, om_s, om_n, zl0, zl1, zl2, zl3, zl4, zl5, zl6, zl7, zl8, zl9, zl10, zl11, zl12, zl13, zl16, zl23, zl24, zl26, zl31, zl32, zl35, zl36, zl40, zl42, zl45, zl48, zl57, zl58, zl59, zl60, zl61, zl62, zl63, zl64, zl65, zl78, zl90, zl94, zl97, zl98, zl114, zl122, zl126, zl244, zl290, zl291, zl326, zl335, zl361, zl2527, zl2888, neg1, le_T, le_F, lt_T, lt_F, eq_T, eq_F, m1_ne, m1_ne', m1_lt, m1_le, lt_m1, le_m1, cl_n, ib_T, nI_add, pk_mul, sub_n, add_m1, sub_m1, m1_1, m1_1', pw_d, st_e, st_n, vu_e, vu_n, up_e, up_n, if_true, if_false, true_or, or_true, false_or, or_false, eq_self, reduceCtorEq, not_true_eq_false, not_false_eq_true] <;> rfl
    · intro n k hk
      rw [f_X8_countUsedByMarks_L32.eq_2, mkt]
      rcases ok_tag ok hk with q | ⟨q, q2, q3⟩
      · simp (disch := omega) only [bd_s, bv_s, lt_d, jn_d, om_s, om_n, zl0, zl1, zl2, zl3, zl4, zl5, zl6, zl7, zl8, zl9, zl10, zl11, zl12, zl13, zl16, zl23, zl24, zl26, zl31, zl32, zl35, zl36, zl40, zl42, zl45, zl48, zl57, zl58, zl59, zl60, zl61, zl62, zl63, zl64, zl65, zl78, zl90, zl94, zl97, zl98, zl114, zl122, zl126, zl244, zl290, zl291, zl326, zl335, zl361, zl2527, zl2888, neg1, le_T, le_F, lt_T, lt_F, eq_T, eq_F, m1_ne, m1_ne', m1_lt, m1_le, lt_m1, le_m1, cl_n, ib_T, nI_add, pk_mul, sub_n, add_m1, sub_m1, m1_1, m1_1', pw_d, st_e, st_n, vu_e, vu_n, up_e, up_n, if_true, if_false, true_or, or_true, false_or, or_false, eq_self, reduceCtorEq, not_true_eq_false, not_false_eq_true, cx_tw R hk, q, sx_setOf_m, Nat.add_assoc]
      · simp (disch := omega) only [bd_s, bv_s, lt_d, jn_d, om_s, om_n, zl0, zl1, zl2, zl3, zl4, zl5, zl6, zl7, zl8, zl9, zl10, zl11, zl12, zl13, zl16, zl23, zl24, zl26, zl31, zl32, zl35, zl36, zl40, zl42, zl45, zl48, zl57, zl58, zl59, zl60, zl61, zl62, zl63, zl64, zl65, zl78, zl90, zl94, zl97, zl98, zl114, zl122, zl126, zl244, zl290, zl291, zl326, zl335, zl361, zl2527, zl2888, neg1, le_T, le_F, lt_T, lt_F, eq_T, eq_F, m1_ne, m1_ne', m1_lt, m1_le, lt_m1, le_m1, cl_n, ib_T, nI_add, pk_mul, sub_n, add_m1, sub_m1, m1_1, m1_1', pw_d, st_e, st_n, vu_e, vu_n, up_e, up_n, if_true, if_false, true_or, or_true, false_or, or_false, eq_self, reduceCtorEq, not_true_eq_false, not_false_eq_true, cx_tw R hk, q, sx_setOf (V := V) (show tg g k < 24 by omega), Nat.add_assoc]
  have B : ∀ (j : Mem → Int32 → Option (Int32 × Mem)), f_X8_countUsedByMarks_L4 j FU V (nI 0) (nI 0) = j V (mkb g (bcn g)) := by
    intro j
    refine lp_run (bcn g) (fun n k => f_X8_countUsedByMarks_L4 j n V (mkb g k) (nI k)) _ ?_ ?_ (n := FU) (k := 0) (by omega) (by unfold FU; omega)
    · intro n
      rw [f_X8_countUsedByMarks_L4.eq_2]
      simp (disch := omega) only [bd_s, bv_s, lt_d, jn_d, om_s, om_n, zl0, zl1, zl2, zl3, zl4, zl5, zl6, zl7, zl8, zl9, zl10, zl11, zl12, zl13, zl16, zl23, zl24, zl26, zl31, zl32, zl35, zl36, zl40, zl42, zl45, zl48, zl57, zl58, zl59, zl60, zl61, zl62, zl63, zl64, zl65, zl78, zl90, zl94, zl97, zl98, zl114, zl122, zl126, zl244, zl290, zl291, zl326, zl335, zl361, zl2527, zl2888, neg1, le_T, le_F, lt_T, lt_F, eq_T, eq_F, m1_ne, m1_ne', m1_lt, m1_le, lt_m1, le_m1, cl_n, ib_T, nI_add, pk_mul, sub_n, add_m1, sub_m1, m1_1, m1_1', pw_d, st_e, st_n, vu_e, vu_n, up_e, up_n, if_true, if_false, true_or, or_true, false_or, or_false, eq_self, reduceCtorEq, not_true_eq_false, not_false_eq_true, rl_b R, ok_bcn ok]
    · intro n k hk
      rw [f_X8_countUsedByMarks_L4.eq_2, mkb]
      simp (disch := omega) only [bd_s, bv_s, lt_d, jn_d, om_s, om_n, zl0, zl1, zl2, zl3, zl4, zl5, zl6, zl7, zl8, zl9, zl10, zl11, zl12, zl13, zl16, zl23, zl24, zl26, zl31, zl32, zl35, zl36, zl40, zl42, zl45, zl48, zl57, zl58, zl59, zl60, zl61, zl62, zl63, zl64, zl65, zl78, zl90, zl94, zl97, zl98, zl114, zl122, zl126, zl244, zl290, zl291, zl326, zl335, zl361, zl2527, zl2888, neg1, le_T, le_F, lt_T, lt_F, eq_T, eq_F, m1_ne, m1_ne', m1_lt, m1_le, lt_m1, le_m1, cl_n, ib_T, nI_add, pk_mul, sub_n, add_m1, sub_m1, m1_1, m1_1', pw_d, st_e, st_n, vu_e, vu_n, up_e, up_n, if_true, if_false, true_or, or_true, false_or, or_false, eq_self, reduceCtorEq, not_true_eq_false, not_false_eq_true, rl_b R, ok_bcn ok, cx_hd ok R hk, sx_setOf (V := V) (show hd g k < 24 by have := ok_hc ok hk; omega)]
  simp (disch := omega) only [bd_s, bv_s, lt_d, jn_d, om_s, om_n, zl0, zl1, zl2, zl3, zl4, zl5, zl6, zl7, zl8, zl9, zl10, zl11, zl12, zl13, zl16, zl23, zl24, zl26, zl31, zl32, zl35, zl36, zl40, zl42, zl45, zl48, zl57, zl58, zl59, zl60, zl61, zl62, zl63, zl64, zl65, zl78, zl90, zl94, zl97, zl98, zl114, zl122, zl126, zl244, zl290, zl291, zl326, zl335, zl361, zl2527, zl2888, neg1, le_T, le_F, lt_T, lt_F, eq_T, eq_F, m1_ne, m1_ne', m1_lt, m1_le, lt_m1, le_m1, cl_n, ib_T, nI_add, pk_mul, sub_n, add_m1, sub_m1, m1_1, m1_1', pw_d, st_e, st_n, vu_e, vu_n, up_e, up_n, if_true, if_false, true_or, or_true, false_or, or_false, eq_self, reduceCtorEq, not_true_eq_false, not_false_eq_true, B]
  refine (T _).trans ?_
  rw [cx_wpm ok R, bd_s, cx_bc (fun i h _ => usd_hi ok i h), bd_s]
theorem st_usedCountByMarks (I : Inv V) : StepD V (f_X9_usedCountByMarks V) (fun W => f_X10_usedCountByMarks W) := by
  obtain ⟨ok, R⟩ := I.1
  refine q_D (r := nI (pcn (usd (V 254)))) I ?_ ?_
  · unfold f_X9_usedCountByMarks
    rw [cx_ubm ok R, bd_s]
  · obtain ⟨h, k, e⟩ := md_used (W := V) ok rfl
    refine ⟨h, k, ?_⟩
    unfold f_X10_usedCountByMarks
    rw [e, bd_s]
end QJ
