/-! PURE, 50: branches and merges written; the line read; signs appended -/
section QP
variable {V : Mem} {g : Arr}
def fb1 (g : Arr) (b : Nat) : List Nat := [] ++ [98] ++ dgs b ++ [58] ++ dgs (hd g b) ++ [32]
def fb2 (g : Arr) (b : Nat) : List Nat := apl (bv8 g b) (fb1 g b) 8
def fmg (g : Arr) (b o : Nat) : List Nat := apl (ms8 g b o) [] 8
theorem cx_fb {b : Nat} (ok : OKg g) (R : RelS V g) (hb : b < bcn g) (hL : LineI V) : ∃ V2, f_X9_formatBranch V (nI b) = some (0, nI (fb2 g b).length, V2) ∧ TxR V V2 (fb2 g b) 40 := by
  have hc := ok_c24 ok
  have h5 := ok_b5 ok
  have hh := ok_hc ok hb
  obtain ⟨V0, e0, T0⟩ := tr_0 hL
  obtain ⟨V1, e1, T1⟩ := tr_ch (x := 98) (c := 98) T0 (by omega) (by omega) rfl
  obtain ⟨V2, e2, T2⟩ := tr_in (n := b) T1 (by omega) (by omega)
  obtain ⟨V3, e3, T3⟩ := tr_ch (x := 58) (c := 58) T2 (by omega) (by omega) rfl
  obtain ⟨V4, e4, T4⟩ := tr_in (n := hd g b) T3 (by omega) (by omega)
  obtain ⟨V5, e5, T5⟩ := tr_ch (x := 32) (c := 32) T4 (by omega) (by omega) rfl
  obtain ⟨a0, c0, A0⟩ := tr_br (x := 0) (f := 0) ok R T5 (by omega) hb (by omega) rfl
  obtain ⟨a1, c1, A1⟩ := tr_br (x := 1) (f := 1) ok R A0 (by omega) hb (by omega) rfl
  obtain ⟨a2, c2, A2⟩ := tr_br (x := 2) (f := 2) ok R A1 (by omega) hb (by omega) rfl
  obtain ⟨a3, c3, A3⟩ := tr_br (x := 3) (f := 3) ok R A2 (by omega) hb (by omega) rfl
  obtain ⟨a4, c4, A4⟩ := tr_br (x := 4) (f := 4) ok R A3 (by omega) hb (by omega) rfl
  obtain ⟨a5, c5, A5⟩ := tr_br (x := 5) (f := 5) ok R A4 (by omega) hb (by omega) rfl
  obtain ⟨a6, c6, A6⟩ := tr_br (x := 6) (f := 6) ok R A5 (by omega) hb (by omega) rfl
  obtain ⟨a7, c7, A7⟩ := tr_br (x := 7) (f := 7) ok R A6 (by omega) hb (by omega) rfl
  refine ⟨a7, ?_, A7.up (by omega)⟩
  unfold f_X9_formatBranch
  rw [cx_rqB ok R hb, bw_0, e0, e1, e2, e3, cx_hd ok (T3.rel R) hb, bd_s, e4, e5, c0, c1, c2, c3, c4, c5, c6, c7, tx_ln A7.1, bd_s]; rfl
theorem mm_fb {W : Mem} {b : Nat} (ok : OKg (V 254)) (hW : W 254 = V 254) (hb : b < bcn (V 254)) : ∃ W', f_X10_formatBranch W (nI b) = some (nI (fb2 (V 254) b).length, W') ∧ LnR (U0 W) W' (fb2 (V 254) b) 40 := by
  have hc := ok_c24 ok
  have h5 := ok_b5 ok
  have hh := ok_hc ok hb
  have hg : U0 W 254 = V 254 := by rw [U0_254, hW]
  generalize V 254 = g at *
  obtain ⟨V1, e1, T1⟩ := mr_ch (x := 98) (c := 98) (mr_0 (W0 := U0 W)) (by omega) rfl
  obtain ⟨V2, e2, T2⟩ := mr_in (n := b) T1 (by omega) (by omega)
  obtain ⟨V3, e3, T3⟩ := mr_ch (x := 58) (c := 58) T2 (by omega) rfl
  obtain ⟨V4, e4, T4⟩ := mr_in (n := hd g b) T3 (by omega) (by omega)
  obtain ⟨V5, e5, T5⟩ := mr_ch (x := 32) (c := 32) T4 (by omega) rfl
  have L : ∀ (j : Mem → Option (Int32 × Mem)) {z : Int32} {ll : List Nat}, (∀ W1, LnR (U0 W) W1 (fb2 g b) 15 → ∃ W', j W1 = some (z, W') ∧ LnR (U0 W) W' ll 40) → ∃ W', f_X10_formatBranch_L58 (nI b) j FU V5 0 = some (z, W') ∧ LnR (U0 W) W' ll 40 := fun j z ll H => by
    obtain ⟨W1, E, T4⟩ := mr_lp (f := bv8 g b) (fun n W k => f_X10_formatBranch_L58 (nI b) j n W k) j (fun n W => by
      show f_X10_formatBranch_L58 _ _ _ _ _ = _
      rw [f_X10_formatBranch_L58.eq_2]
      simp (disch := omega) only [bd_s, bv_s, lt_d, jn_d, om_s, om_n, zl0, zl1, zl2, zl3, zl4, zl5, zl6, zl7, zl8, zl9, zl10, zl11, zl12, zl13, zl16, zl23, zl24, zl26, zl31, zl32, zl35, zl36, zl40, zl42, zl45, zl48, zl57, zl58, zl59, zl60, zl61, zl62, zl63, zl64, zl65, zl78, zl90, zl94, zl97, zl98, zl114, zl122, zl126, zl244, zl290, zl291, zl326, zl335, zl361, zl2527, zl2888, neg1, le_T, le_F, lt_T, lt_F, eq_T, eq_F, m1_ne, m1_ne', m1_lt, m1_le, lt_m1, le_m1, cl_n, ib_T, nI_add, pk_mul, sub_n, add_m1, sub_m1, m1_1, m1_1', pw_d, st_e, st_n, vu_e, vu_n, up_e, up_n, if_true, if_false, true_or, or_true, false_or, or_false, eq_self, reduceCtorEq, not_true_eq_false, not_false_eq_true]) (fun n W k hk T => by
      obtain ⟨z1, z2, z3⟩ := bv8_eq ok hb hk
      obtain ⟨W1, e, T1⟩ := mr_ch (x := nI (bv8 g b k)) (c := bv8 g b k) T (by omega) rfl
      have hgW : W 254 = g := T.g4.trans hg
      refine ⟨W1, ?_, T1⟩
      show f_X10_formatBranch_L58 _ _ _ _ _ = f_X10_formatBranch_L58 _ _ _ _ _
      rw [f_X10_formatBranch_L58.eq_2]
      rw [if_neg (show ¬ (8 : Int32) ≤ nI k from nI_ge (a := k) (b := 8) hk (by omega)), sm_work (by omega) hk, bd_s, sm_isEd (by rw [hgW]; exact ok) (by rw [hgW]; exact hb) hk, bd_s, jn_d, hgW]
      cases q : edt g b k
      · rw [q] at z3
        rw [if_pos (show (if false = true then nI 1 else nI 0) = 0 by decide)]
        show bv (f_X10_sign W (g (290 + 9 * b + 1 + k) - nI 0)) _ = _
        rw [show g (290 + 9 * b + 1 + k) - nI 0 = nI (bv8 g b k) from z3, e, show nI k + 1 = nI (k + 1) from nI_1 _]
      · rw [q] at z3
        rw [if_neg (show ¬ (if true = true then nI 1 else nI 0) = 0 by decide)]
        show bv (f_X10_sign W (g (290 + 9 * b + 1 + k) - nI 32)) _ = _
        rw [show g (290 + 9 * b + 1 + k) - nI 32 = nI (bv8 g b k) from z3, e, show nI k + 1 = nI (k + 1) from nI_1 _]) T5
    obtain ⟨W', e', T'⟩ := H W1 (T4.up (by omega))
    exact ⟨W', E.trans e', T'⟩
  unfold f_X10_formatBranch
  rw [lt_U, sm_isBra_T (V := U0 W) (n := bcn g) (by rw [hg]; exact ok_bcn ok) h5 hb, bd_s, if_neg (by decide), lt_d, e1, e2, e3, sm_headOf (by omega), bd_s, T3.g4, hg, ok_hd ok hb, e4, e5, jn_d]
  refine L _ (fun X TX => ?_)
  exact ⟨X, congrArg (fun x => some (x, X)) TX.1, TX.up (by omega)⟩
theorem st_formatBranch (I : Inv V) (a : Int32) : StepR V (f_L_formatBranch V a) (fun W => f_X10_formatBranch W a) := by
  obtain ⟨ok, R⟩ := I.1
  rcases bra_or ok a with ⟨b, hb, rfl⟩ | hB
  · obtain ⟨V2, e, T⟩ := cx_fb ok R hb I.2.2.2.2.1
    refine q_L I ?_ T (fun W hW => mm_fb ok hW hb)
    unfold f_L_formatBranch
    rw [e, bh_0]; rfl
  · refine q_F (code := 1) I (by omega) (by omega) ?_ (fun W hW => ex_sc2 (r := m1) ?_)
    · unfold f_L_formatBranch f_X9_formatBranch
      rw [cx_rqB_B ok R hB, bw_n, bh_n]; rfl
    · unfold f_X10_formatBranch
      rw [lt_U, mq_bra_B ok hW hB, bd_s, if_pos (by decide), sm_th, bd_s, U0_th]; rfl
theorem cx_fm {b o : Nat} (ok : OKg g) (R : RelS V g) (hb : b < bcn g) (ho : o < bcn g) (hne : b ≠ o) (hL : LineI V) : ∃ V2, f_X9_formatMerge V (nI b) (nI o) = some (0, nI (fmg g b o).length, V2) ∧ TxR V V2 (fmg g b o) 40 := by
  obtain ⟨V0, e0, T0⟩ := tr_0 hL
  obtain ⟨a0, c0, A0⟩ := tr_me (x := 0) (f := 0) ok R T0 (by omega) hb ho (by omega) rfl
  obtain ⟨a1, c1, A1⟩ := tr_me (x := 1) (f := 1) ok R A0 (by omega) hb ho (by omega) rfl
  obtain ⟨a2, c2, A2⟩ := tr_me (x := 2) (f := 2) ok R A1 (by omega) hb ho (by omega) rfl
  obtain ⟨a3, c3, A3⟩ := tr_me (x := 3) (f := 3) ok R A2 (by omega) hb ho (by omega) rfl
  obtain ⟨a4, c4, A4⟩ := tr_me (x := 4) (f := 4) ok R A3 (by omega) hb ho (by omega) rfl
  obtain ⟨a5, c5, A5⟩ := tr_me (x := 5) (f := 5) ok R A4 (by omega) hb ho (by omega) rfl
  obtain ⟨a6, c6, A6⟩ := tr_me (x := 6) (f := 6) ok R A5 (by omega) hb ho (by omega) rfl
  obtain ⟨a7, c7, A7⟩ := tr_me (x := 7) (f := 7) ok R A6 (by omega) hb ho (by omega) rfl
  refine ⟨a7, ?_, A7.up (by omega)⟩
  unfold f_X9_formatMerge
  rw [cx_rqP ok R hb ho hne, bw_0, e0, c0, c1, c2, c3, c4, c5, c6, c7, tx_ln A7.1, bd_s]; rfl
theorem mm_fm {W : Mem} {b o : Nat} (ok : OKg (V 254)) (hW : W 254 = V 254) (hb : b < bcn (V 254)) (ho : o < bcn (V 254)) (hne : b ≠ o) : ∃ W', f_X10_formatMerge W (nI b) (nI o) = some (nI (fmg (V 254) b o).length, W') ∧ LnR (U0 W) W' (fmg (V 254) b o) 40 := by
  have am := mq_am ok hW hb ho hne
  have hg : U0 W 254 = V 254 := by rw [U0_254, hW]
  generalize V 254 = g at *
  have T0 := mr_0 (W0 := U0 W)
  have L : ∀ (j : Mem → Option (Int32 × Mem)) {z : Int32} {ll : List Nat}, (∀ W1, LnR (U0 W) W1 (fmg g b o) 8 → ∃ W', j W1 = some (z, W') ∧ LnR (U0 W) W' ll 40) → ∃ W', f_X10_formatMerge_L18 (nI b) (nI o) j FU (stv (U0 W) 253 6 0) 0 = some (z, W') ∧ LnR (U0 W) W' ll 40 := fun j z ll H => by
    obtain ⟨W1, E, T4⟩ := mr_lp (f := ms8 g b o) (fun n W k => f_X10_formatMerge_L18 (nI b) (nI o) j n W k) j (fun n W => by
      show f_X10_formatMerge_L18 _ _ _ _ _ _ = _
      rw [f_X10_formatMerge_L18.eq_2]
      simp (disch := omega) only [bd_s, bv_s, lt_d, jn_d, om_s, om_n, zl0, zl1, zl2, zl3, zl4, zl5, zl6, zl7, zl8, zl9, zl10, zl11, zl12, zl13, zl16, zl23, zl24, zl26, zl31, zl32, zl35, zl36, zl40, zl42, zl45, zl48, zl57, zl58, zl59, zl60, zl61, zl62, zl63, zl64, zl65, zl78, zl90, zl94, zl97, zl98, zl114, zl122, zl126, zl244, zl290, zl291, zl326, zl335, zl361, zl2527, zl2888, neg1, le_T, le_F, lt_T, lt_F, eq_T, eq_F, m1_ne, m1_ne', m1_lt, m1_le, lt_m1, le_m1, cl_n, ib_T, nI_add, pk_mul, sub_n, add_m1, sub_m1, m1_1, m1_1', pw_d, st_e, st_n, vu_e, vu_n, up_e, up_n, if_true, if_false, true_or, or_true, false_or, or_false, eq_self, reduceCtorEq, not_true_eq_false, not_false_eq_true]) (fun n W k hk T => by
      obtain ⟨z1, z2⟩ := ms8_lt ok hb ho hk
      have hgW : W 254 = g := T.g4.trans hg
      obtain ⟨h, h2, em⟩ := (sm_merged (V := W) (b := b) (o := o) (f := k) (by rw [hgW]; exact ok) (by rw [hgW]; exact hb) (by rw [hgW]; exact ho) hk).at
      have em : f_X10_merged W (nI b) (nI o) (nI k) = some (mgl (W 254) b o k, scr W h h2) := em
      rw [hgW] at em
      obtain ⟨W1, e, T1⟩ := mr_ch (x := nI (ms8 g b o k)) (c := ms8 g b o k) (T.scr (h := h) (h2 := h2)) (by omega) rfl
      refine ⟨W1, ?_, T1⟩
      show f_X10_formatMerge_L18 _ _ _ _ _ _ = f_X10_formatMerge_L18 _ _ _ _ _ _
      rw [f_X10_formatMerge_L18.eq_2]
      rw [if_neg (show ¬ (8 : Int32) ≤ nI k from nI_ge (a := k) (b := 8) hk (by omega)), em, bd_s, jn_d]
      by_cases q : mgl g b o k = nI 0
      · rw [if_pos q] at z2
        rw [if_pos (show mgl g b o k = 0 from q)]
        show bv (f_X10_sign (scr W h h2) (nI 63)) _ = _
        rw [z2, e, show nI k + 1 = nI (k + 1) from nI_1 _]
      · rw [if_neg q] at z2
        rw [if_neg (show ¬ mgl g b o k = 0 from q)]
        show bv (f_X10_sign (scr W h h2) (mgl g b o k)) _ = _
        rw [z2, e, show nI k + 1 = nI (k + 1) from nI_1 _]) T0
    obtain ⟨W', e', T'⟩ := H W1 (T4.up (by omega))
    exact ⟨W', E.trans e', T'⟩
  unfold f_X10_formatMerge
  rw [am, bd_s, if_neg (by decide), lt_d, jn_d]
  refine L _ (fun X TX => ?_)
  exact ⟨X, congrArg (fun x => some (x, X)) TX.1, TX.up (by omega)⟩
theorem st_formatMerge (I : Inv V) (a d : Int32) : StepR V (f_L_formatMerge V a d) (fun W => f_X10_formatMerge W a d) := by
  obtain ⟨ok, R⟩ := I.1
  rcases pair_or ok a d with ⟨b, o, hb, ho, hne, rfl, rfl⟩ | ⟨b, hb, rfl, rfl⟩ | h
  · obtain ⟨V2, e, T⟩ := cx_fm ok R hb ho hne I.2.2.2.2.1
    refine q_L I ?_ T (fun W hW => mm_fm ok hW hb ho hne)
    unfold f_L_formatMerge
    rw [e, bh_0]; rfl
  · refine q_F (code := 2) I (by omega) (by omega) ?_ (fun W hW => ex_sc2 (r := m1) ?_)
    · unfold f_L_formatMerge f_X9_formatMerge
      rw [cx_rqP_2 ok R hb, bw_n, bh_n]; rfl
    · unfold f_X10_formatMerge
      rw [mq_am_2 ok hW hb, bd_s, if_pos (by decide)]; rfl
  · refine q_F (code := 1) I (by omega) (by omega) ?_ (fun W hW => ex_sc2 (r := m1) ?_)
    · unfold f_L_formatMerge f_X9_formatMerge
      rw [cx_rqP_1 ok R h, bw_n, bh_n]; rfl
    · unfold f_X10_formatMerge
      rw [mq_am_1 ok hW h, bd_s, if_pos (by decide)]; rfl
/-! reading the line -/
theorem bad_lt {a : Int32} {n : Nat} (hn : n < 2 ^ 30) (h : Bad a n) : a < nI 0 ∨ nI n - 1 < a := by
  rcases Nat.eq_zero_or_pos n with z | z
  · subst z
    have e : (nI 0 - 1).toInt = -1 := by decide
    have e0 : (nI 0).toInt = 0 := by decide
    rw [fa_lt', fa_lt', e, e0]; omega
  · rw [show nI n - 1 = nI (n - 1) from sub_n (a := n) (b := 1) z]
    exact bad_in z (by omega) h
theorem st_lineChar (I : Inv V) (a : Int32) : StepR V (f_L_lineChar V a) (fun W => f_X10_lineChar W a) := by
  obtain ⟨n, h1, h2, h3, h4⟩ := I.2.2.2.2.1
  obtain ⟨l, l1, T, L⟩ := tx_of h2 h3
  have n40 := h3.1
  have u6 : ∀ W : Mem, W 253 = V 253 → U0 W 253 6 = nI n := fun W hW => by unfold U0; rw [st_e, up_n (by omega), hW]; exact h1
  rcases bad_or a (show n < 2 ^ 31 by omega) with ⟨j, hj, rfl⟩ | hB
  · obtain ⟨z1, z2⟩ := tx_at (j := j) T (by omega)
    refine q_Te (r := nI (lg l j)) I ?_ (fun W hW => ?_)
    · unfold f_L_lineChar f_X9_lineChar
      rw [jn_d, if_neg (show ¬ nI j < 0 from nI_pos (by omega)), tx_ln T, bd_s, if_pos (by rw [l1]; exact nI_lt hj (by omega)), z1, bd_s, if_pos (cw_n z2), bh_0]; rfl
    · have e : U0 W 261 j = nI (lg l j) := by
        rw [U0_n (by omega), hW 261 (by omega), ← h4 j hj]; exact L j hj
      unfold f_X10_lineChar
      rw [lt_U, u6 W (hW 253 (by omega)), sm_in_T (U0 W) (A := (nI j).toInt64) (B := 0) (C := (nI n - 1).toInt64) (a := nI j) (b := nI 0) (c := nI n - 1) rfl w0 rfl (nI_le (Nat.zero_le _) (by omega)) (by rw [show nI n - 1 = nI (n - 1) from sub_n (a := n) (b := 1) (by omega)]; exact nI_le (by omega) (by omega)), bd_s, if_neg (by decide), if_pos (by rw [ib_T (by omega) (by omega)]; trivial), cl_n (by omega), e, cw_n z2]
  · refine q_Fe (b := (m1.toUInt32 % 65536).toInt32) (code := 1) I (by omega) (by omega) ?_ ?_
    · have ec : f_X9_lineChar V a = some (1, 0, V) := by
        unfold f_X9_lineChar
        rw [jn_d]
        by_cases q : a < 0
        · rw [if_pos q]
        · rw [if_neg q, tx_ln T, bd_s, l1, if_neg (by have := h3.1; have z := hB.resolve_left q; rw [Int32.lt_iff_toInt_lt]; rw [Int32.le_iff_toInt_le] at z; omega)]
      unfold f_L_lineChar
      rw [ec, bh_n]; rfl
    · show f_X10_lineChar V a = _
      unfold f_X10_lineChar
      rw [lt_U, u6 V rfl, sm_in_F (U0 V) (A := a.toInt64) (B := 0) (C := (nI n - 1).toInt64) (a := a) (b := nI 0) (c := nI n - 1) rfl w0 rfl (bad_lt (by omega) hB), bd_s, if_pos (by decide), sm_th, bd_s, U0_th]; rfl
/-! signs appended -/
theorem sign_or (y : Int32) : (∃ c, 32 ≤ c ∧ c ≤ 126 ∧ y = nI c) ∨ (y < nI 32 ∨ nI 126 < y) := by
  rcases i_cases y 127 (by omega) with ⟨k, hk, rfl⟩ | ⟨h, _⟩ | ⟨h, _⟩
  · rcases Nat.lt_or_ge k 32 with q | q
    · exact .inr (.inl (nI_lt q (by omega)))
    · exact .inl ⟨k, q, by omega, rfl⟩
  · right; left
    have e0 : (nI 0).toInt = 0 := by decide
    have e32 : (nI 32).toInt = 32 := by decide
    rw [fa_lt'] at h ⊢; omega
  · right; right
    have e0 : (nI 127).toInt = 127 := by decide
    have e32 : (nI 126).toInt = 126 := by decide
    rw [Int32.le_iff_toInt_le] at h
    rw [fa_lt']; omega
theorem w32' : (32 : Int64) = (nI 32).toInt64 := by decide
theorem w126' : (126 : Int64) = (nI 126).toInt64 := by decide
theorem st_append (I : Inv V) (a : Int32) : StepR V (f_L_append V a) (fun W => f_X10_append W a) := by
  have I0 := I
  obtain ⟨⟨ok, R⟩, hi, sv, er, li, ip, co⟩ := I
  obtain ⟨n, h1, h2, h3, h4⟩ := ip
  obtain ⟨l, l1, T, L⟩ := tx_of h2 h3
  have n60 := h3.1
  rcases sign_or a with ⟨c, c1, c2, rfl⟩ | hB
  · have g1 : ¬ nI c < (32 : Int32) := by rw [show (32 : Int32) = nI 32 from rfl, lt_F (by omega) (by omega)]; exact id
    have g2 : nI c ≤ (126 : Int32) := nI_le (a := c) (b := 126) c2 (by omega)
    have ein := fun (W : Mem) => sm_in_T (U0 W) (A := (nI c).toInt64) (B := 32) (C := 126) (a := nI c) (b := nI 32) (c := nI 126) rfl w32' w126' (nI_le c1 (by omega)) (nI_le c2 (by omega))
    rcases Nat.lt_or_ge n 60 with q | q
    · obtain ⟨V1, e1, T1, F⟩ := tx_ch T (by omega) (by omega) (show c < 128 by omega)
      generalize hW : stv V1 265 0 (nI (n + 1)) = W
      have w : ∀ d, d ≠ 249 → d ≠ 250 → d ≠ 265 → W d = V d := fun d a b e => by rw [← hW, st_n e]; exact F d a b
      have w1 : ∀ d, d ≠ 265 → W d = V1 d := fun d e => by rw [← hW, st_n e]
      have u5 : U0 W 253 5 = nI n := by unfold U0; rw [st_e, up_n (by omega), w 253 (by omega) (by omega) (by omega)]; exact h1
      generalize hX : stv (stv (U0 W) 258 n (nI c)) 253 5 (nI (n + 1)) = X
      have y : ∀ d, d ≠ 253 → d ≠ 258 → X d = W d := fun d a b => by rw [← hX, st_n a, st_n b, U0_n a]
      have z : ∀ d, d ≠ 253 → d ≠ 258 → d ≠ 249 → d ≠ 250 → d ≠ 265 → X d = V d := fun d a b e f g => (y d a b).trans (w d e f g)
      have y253 : ∀ j, j ≠ 5 → j ≠ 4 → X 253 j = V 253 j := fun j a b => by rw [← hX, st_e, up_n a, st_n (by omega)]; unfold U0; rw [st_e, up_n b, w 253 (by omega) (by omega) (by omega)]
      refine ⟨nI 0, W, nI (n + 1), X, ?_, ?_, ?_, fun _ => ?_, ⟨?_, ?_⟩, ?_, ?_, ?_, ?_, ?_, ?_⟩
      · unfold f_L_append f_X9_append
        rw [jn_d, if_neg g1, if_pos g2, tx_ln T, bd_s, l1, if_pos (show nI n < (60 : Int32) from nI_lt (b := 60) q (by omega)), e1, bv_s, tx_ln T1, bd_s, len1, l1, bh_0, hW.symm]; rfl
      · show f_X10_append W (nI c) = _
        unfold f_X10_append
        rw [lt_U, ein W, bd_s, if_neg (by decide), u5, if_neg (show ¬ nI n = (60 : Int32) by rw [zl60, eq_F (by omega) (by omega) (by omega)]; exact id), if_pos (by rw [ib_T (by omega) (by omega)]; trivial), cl_n (by omega), lt_d, st_n (by omega), u5, show nI n + 1 = nI (n + 1) from nI_1 _, lt_d, hX, show X 253 5 = nI (n + 1) by rw [← hX, st_e, up_e]]
      · rw [← hX, st_e, up_n (by omega), st_n (by omega), U0_4]
      · rw [y 265 (by omega) (by omega), ← hW, st_e, up_e]
      · rw [z 254 (by omega) (by omega) (by omega) (by omega) (by omega)]; exact ok
      · rw [z 254 (by omega) (by omega) (by omega) (by omega) (by omega)]
        exact Rel_lo (fun c hc => z c (by omega) (by omega) (by omega) (by omega) (by omega)) R
      · exact hi.of (z 220 (by omega) (by omega) (by omega) (by omega) (by omega)) (y253 1 (by omega) (by omega)) (z 257 (by omega) (by omega) (by omega) (by omega) (by omega)) (fun c a b => z c (by omega) (by omega) (by omega) (by omega) (by omega))
      · exact sv.of (by rw [z 248 (by omega) (by omega) (by omega) (by omega) (by omega)]) (y253 0 (by omega) (by omega)) (z 256 (by omega) (by omega) (by omega) (by omega) (by omega)) (fun c a b => z c (by omega) (by omega) (by omega) (by omega) (by omega))
      · exact er.of (z 248 (by omega) (by omega) (by omega) (by omega) (by omega)) (y253 2 (by omega) (by omega)) (y253 3 (by omega) (by omega))
      · exact li.of (y253 6 (by omega) (by omega)) (z 251 (by omega) (by omega) (by omega) (by omega) (by omega)) (z 252 (by omega) (by omega) (by omega) (by omega) (by omega)) (z 261 (by omega) (by omega) (by omega) (by omega) (by omega))
      · obtain ⟨b1, b2⟩ := tx_B T1
        rw [len1, l1] at b1 b2
        have x1 : X 249 = V1 249 := (y 249 (by omega) (by omega)).trans (w1 249 (by omega))
        have x2 : X 250 = V1 250 := (y 250 (by omega) (by omega)).trans (w1 250 (by omega))
        refine ⟨n + 1, by rw [← hX, st_e, up_e], by rw [x1, T1.1, len1, l1], ?_, fun j hj => ?_⟩
        · obtain ⟨d1, cap, d2, d3, d4, d5⟩ := b1
          exact ⟨d1, cap, d2, d3, by rw [x2]; exact d4, fun j hj => by rw [x2]; exact d5 j hj⟩
        · rw [x2, b2 j hj, ← hX, st_n (by omega), st_e]
          by_cases q2 : j = n
          · subst q2; rw [up_e, lg_r (by omega), show j - l.length = 0 by omega]; rfl
          · rw [up_n q2, U0_n (by omega), w 258 (by omega) (by omega) (by omega), ← h4 j (by omega), lg_l (by omega)]
            exact (L j (by omega)).symm
      · exact co.of (z 262 (by omega) (by omega) (by omega) (by omega) (by omega)) (z 263 (by omega) (by omega) (by omega) (by omega) (by omega))
    · have e60 : n = 60 := by omega
      subst e60
      refine q_Fe (b := m1) (code := 2) I0 (by omega) (by omega) ?_ ?_
      · unfold f_L_append f_X9_append
        rw [jn_d, if_neg g1, if_pos g2, tx_ln T, bd_s, l1, if_neg (by decide), bh_n]; rfl
      · show f_X10_append V (nI c) = _
        unfold f_X10_append
        rw [lt_U, ein V, bd_s, if_neg (by decide), if_pos (show U0 V 253 5 = 60 by unfold U0; rw [st_e, up_n (by omega)]; exact h1), sm_th, bd_s, U0_th]; rfl
  · refine q_Fe (b := m1) (code := 1) I0 (by omega) (by omega) ?_ ?_
    · have ec : f_X9_append V a = some (2, 0, V) := by
        unfold f_X9_append
        rw [jn_d]
        by_cases q : a < 32
        · rw [if_pos q]
        · rw [if_neg q, if_neg (show ¬ a ≤ 126 from fun z => by
            have z2 : nI 126 < a := hB.resolve_left q
            have z : a ≤ nI 126 := z
            rw [Int32.lt_iff_toInt_lt] at z2
            rw [Int32.le_iff_toInt_le] at z
            omega)]
      unfold f_L_append
      rw [ec, bh_n]; rfl
    · show f_X10_append V a = _
      unfold f_X10_append
      rw [lt_U, sm_in_F (U0 V) (A := a.toInt64) (B := 32) (C := 126) (a := a) (b := nI 32) (c := nI 126) rfl w32' w126' hB, bd_s, if_pos (by decide), sm_th, bd_s, U0_th]; rfl
end QP
