/-! PURE, 49: the line is written, read; signs are appended -/
section QO
variable {V : Mem} {g : Arr}
def fl1 (g : Arr) (r : Nat) : List Nat := apl (lv g r) ([] ++ [114] ++ dgs r ++ [32]) 8 ++ tws 13 ++ dgs (aut g r)
def fl2 (g : Arr) (r : Nat) : List Nat := if g (2 + 12 * r) = m1 then fl1 g r else fl1 g r ++ tws 14 ++ dgs (p1 g r)
def fl3 (g : Arr) (r : Nat) : List Nat := if g (2 + 12 * r + 1) = m1 then fl2 g r else fl2 g r ++ tws 15 ++ dgs (p2 g r)
def fl4 (g : Arr) (r : Nat) : List Nat := if g (2 + 12 * r + 3) = nI 1 then fl3 g r ++ tws 16 else fl3 g r
theorem cx_fr {r : Nat} (ok : OKg g) (R : RelS V g) (hr : r < cnt g) (hL : LineI V) : ∃ V2, f_X9_formatRevision V (nI r) = some (0, nI (fl4 g r).length, V2) ∧ TxR V V2 (fl4 g r) 40 := by
  have hc := ok_c24 ok
  obtain ⟨V0, e0, T0⟩ := tr_0 hL
  obtain ⟨V1, e1, T1⟩ := tr_ch (x := 114) (c := 114) T0 (by omega) (by omega) rfl
  obtain ⟨V2, e2, T2⟩ := tr_in (n := r) T1 (by omega) (by omega)
  obtain ⟨V3, e3, T3⟩ := tr_ch (x := 32) (c := 32) T2 (by omega) (by omega) rfl
  obtain ⟨a0, c0, A0⟩ := tr_le (x := 0) (f := 0) ok R T3 (by omega) hr (by omega) rfl
  obtain ⟨a1, c1, A1⟩ := tr_le (x := 1) (f := 1) ok R A0 (by omega) hr (by omega) rfl
  obtain ⟨a2, c2, A2⟩ := tr_le (x := 2) (f := 2) ok R A1 (by omega) hr (by omega) rfl
  obtain ⟨a3, c3, A3⟩ := tr_le (x := 3) (f := 3) ok R A2 (by omega) hr (by omega) rfl
  obtain ⟨a4, c4, A4⟩ := tr_le (x := 4) (f := 4) ok R A3 (by omega) hr (by omega) rfl
  obtain ⟨a5, c5, A5⟩ := tr_le (x := 5) (f := 5) ok R A4 (by omega) hr (by omega) rfl
  obtain ⟨a6, c6, A6⟩ := tr_le (x := 6) (f := 6) ok R A5 (by omega) hr (by omega) rfl
  obtain ⟨a7, c7, A7⟩ := tr_le (x := 7) (f := 7) ok R A6 (by omega) hr (by omega) rfl
  obtain ⟨V4, e4, T4⟩ := tr_st (w := 13) A7 (by omega) (by omega) (by omega)
  obtain ⟨V5, e5, T5⟩ := tr_in (n := aut g r) T4 (by omega) (by have := ok_aul ok hr; omega)
  have T5 : TxR V V5 (fl1 g r) 17 := T5.up (by omega)
  have P1 : ∃ V6, (∀ {β : Type} (K : Mem → Option β), bv (f_X9_appendParent V5 14 (g (2 + 12 * r))) K = K V6) ∧ TxR V V6 (fl2 g r) 21 := by
    unfold fl2
    rcases ok_f ok hr with ⟨z1, z2⟩ | ⟨z1, z2, z3⟩
    · rw [if_pos z2]
      refine ⟨V5, fun K => ?_, T5.up (by omega)⟩
      unfold f_X9_appendParent
      rw [z2, if_pos (by decide), bv_s]
    · rw [if_neg (by rw [z2]; exact nI_m1 (by omega))]
      obtain ⟨V6, e6, T6⟩ := tr_st (w := 14) T5 (by omega) (by omega) (by omega)
      obtain ⟨V7, e7, T7⟩ := tr_in (n := p1 g r) T6 (by omega) (by omega)
      refine ⟨V7, fun K => ?_, T7⟩
      unfold f_X9_appendParent
      rw [z2, if_neg (show ¬ nI (p1 g r) = -1 from nI_m1 (by omega)), e6, e7, bv_s]
  obtain ⟨V6, e6, T6⟩ := P1
  have P2 : ∃ V7, (∀ {β : Type} (K : Mem → Option β), bv (f_X9_appendParent V6 15 (g (2 + 12 * r + 1))) K = K V7) ∧ TxR V V7 (fl3 g r) 25 := by
    unfold fl3
    rcases ok_s ok hr with z2 | ⟨z2, z3⟩
    · rw [if_pos z2]
      refine ⟨V6, fun K => ?_, T6.up (by omega)⟩
      unfold f_X9_appendParent
      rw [z2, if_pos (by decide), bv_s]
    · rw [if_neg (by rw [z2]; exact nI_m1 (by omega))]
      obtain ⟨V7, e7, T7⟩ := tr_st (w := 15) T6 (by omega) (by omega) (by omega)
      obtain ⟨V8, e8, T8⟩ := tr_in (n := p2 g r) T7 (by omega) (by omega)
      refine ⟨V8, fun K => ?_, T8⟩
      unfold f_X9_appendParent
      rw [z2, if_neg (show ¬ nI (p2 g r) = -1 from nI_m1 (by omega)), e7, e8, bv_s]
  obtain ⟨V7, e7, T7⟩ := P2
  unfold f_X9_formatRevision
  rw [cx_rqR ok R hr, bw_0, e0, e1, e2, e3, c0, c1, c2, c3, c4, c5, c6, c7, e4, cx_wr ok (T4.rel R) hr, bd_s, ok_au ok hr, e5, cx_fp ok (T5.rel R) hr, bd_s, e6, cx_sp ok (T6.rel R) hr, bd_s, e7, cx_inA ok hr, bd_s, jn_d]
  have ar := rl_a (T7.rel R) hr
  unfold fl4
  unfold arc at ar
  by_cases q : g (2 + 12 * r + 3) = nI 1
  · obtain ⟨V8, e8, T8⟩ := tr_st (w := 16) T7 (by omega) (by omega) (by omega)
    refine ⟨V8, ?_, by rw [if_pos q]; exact T8.up (by omega)⟩
    rw [ar.mpr q, if_pos rfl, if_neg (by decide), e8, if_pos q]
    show bd (f_J4_length_8abf5 V8 251) _ = _
    rw [tx_ln T8.1, bd_s]
  · refine ⟨V7, ?_, by rw [if_neg q]; exact T7.up (by omega)⟩
    rw [bf (fun h => q (ar.mp h)), if_pos (show (if false = true then nI 1 else nI 0) = 0 by decide), if_neg q]
    show bd (f_J4_length_8abf5 V7 251) _ = _
    rw [tx_ln T7.1, bd_s]
theorem mm_fr {W : Mem} {r : Nat} (ok : OKg (V 254)) (hW : W 254 = V 254) (hr : r < cnt (V 254)) : ∃ W', f_X10_formatRevision W (nI r) = some (nI (fl4 (V 254) r).length, W') ∧ LnR (U0 W) W' (fl4 (V 254) r) 40 := by
  have hc := ok_c24 ok
  have hg : U0 W 254 = V 254 := by rw [U0_254, hW]
  generalize V 254 = g at *
  obtain ⟨V1, e1, T1⟩ := mr_ch (x := 114) (c := 114) (mr_0 (W0 := U0 W)) (by omega) rfl
  obtain ⟨V2, e2, T2⟩ := mr_in (n := r) T1 (by omega) (by omega)
  obtain ⟨V3, e3, T3⟩ := mr_ch (x := 32) (c := 32) T2 (by omega) rfl
  have L : ∀ (j : Mem → Option (Int32 × Mem)) {z : Int32} {ll : List Nat}, (∀ W1, LnR (U0 W) W1 (apl (lv g r) ([] ++ [114] ++ dgs r ++ [32]) 8) 12 → ∃ W', j W1 = some (z, W') ∧ LnR (U0 W) W' ll 40) → ∃ W', f_X10_formatRevision_L48 (nI r) (nI 2 + nI 12 * nI r) j FU V3 0 = some (z, W') ∧ LnR (U0 W) W' ll 40 := fun j z ll H => by
    obtain ⟨W1, E, T4⟩ := mr_lp (f := lv g r) (fun n W k => f_X10_formatRevision_L48 (nI r) (nI 2 + nI 12 * nI r) j n W k) j (fun n W => by
      show f_X10_formatRevision_L48 _ _ _ _ _ _ = _
      rw [f_X10_formatRevision_L48.eq_2]
      simp (disch := omega) only [bd_s, bv_s, lt_d, jn_d, om_s, om_n, zl0, zl1, zl2, zl3, zl4, zl5, zl6, zl7, zl8, zl9, zl10, zl11, zl12, zl13, zl16, zl23, zl24, zl26, zl31, zl32, zl35, zl36, zl40, zl42, zl45, zl48, zl57, zl58, zl59, zl60, zl61, zl62, zl63, zl64, zl65, zl78, zl90, zl94, zl97, zl98, zl114, zl122, zl126, zl244, zl290, zl291, zl326, zl335, zl361, zl2527, zl2888, neg1, le_T, le_F, lt_T, lt_F, eq_T, eq_F, m1_ne, m1_ne', m1_lt, m1_le, lt_m1, le_m1, cl_n, ib_T, nI_add, pk_mul, sub_n, add_m1, sub_m1, m1_1, m1_1', pw_d, st_e, st_n, vu_e, vu_n, up_e, up_n, if_true, if_false, true_or, or_true, false_or, or_false, eq_self, reduceCtorEq, not_true_eq_false, not_false_eq_true]) (fun n W k hk T => by
      obtain ⟨z1, z2, z3⟩ := lv_eq ok hr hk
      obtain ⟨W1, e, T1⟩ := mr_ch (x := nI (lv g r k)) (c := lv g r k) T (by omega) rfl
      refine ⟨W1, ?_, T1⟩
      show f_X10_formatRevision_L48 _ _ _ _ _ _ = f_X10_formatRevision_L48 _ _ _ _ _ _
      rw [f_X10_formatRevision_L48.eq_2]
      rw [if_neg (show ¬ (8 : Int32) ≤ nI k from nI_ge (a := k) (b := 8) hk (by omega)), sm_letter (by omega) hk, bd_s, T.g4, hg, z1, e, show nI k + 1 = nI (k + 1) from nI_1 _]) T3
    obtain ⟨W', e', T'⟩ := H W1 T4
    exact ⟨W', E.trans e', T'⟩
  have er : nI 2 + nI 12 * nI r = nI (2 + 12 * r) := by rw [pk_mul, nI_add]
  have ea1 : nI (2 + 12 * r) + 1 = nI (2 + 12 * r + 1) := nI_add _ 1
  have ea2 : nI (2 + 12 * r) + 2 = nI (2 + 12 * r + 2) := nI_add _ 2
  have ea3 : nI (2 + 12 * r) + 3 = nI (2 + 12 * r + 3) := nI_add _ 3
  have eb : ∀ k, k < 4 → ib (nI (2 + 12 * r + k)) 361 = true := fun k hk => by rw [ib_T (by omega) (by omega)]; trivial
  have eb0 : ib (nI (2 + 12 * r)) 361 = true := eb 0 (by omega)
  have ec : ∀ k, k < 4 → (nI (2 + 12 * r + k)).toNatClampNeg = 2 + 12 * r + k := fun k hk => cl_n (by omega)
  have ec0 : (nI (2 + 12 * r)).toNatClampNeg = 2 + 12 * r := cl_n (by omega)
  unfold f_X10_formatRevision
  rw [lt_U, sm_isRev_T (V := U0 W) (n := cnt g) (by rw [hg]; exact ok_cnt ok) hc hr, bd_s, if_neg (by decide), sm_revAt, bd_s, lt_d, e1, e2, e3, jn_d]
  refine L _ (fun V4 T4 => ?_)
  obtain ⟨V5, e5, T5⟩ := mr_2 (x := 32) (y := 64) (c := 32) (d := 64) T4 (by omega) rfl rfl
  obtain ⟨V6, e6, T6⟩ := mr_in (n := aut g r) T5 (by omega) (by have := ok_aul ok hr; omega)
  have T6 : LnR (U0 W) V6 (fl1 g r) 17 := T6.up (by omega)
  show ∃ W', (bv (f_X10_sign V4 32) fun V73 => bv (f_X10_sign V73 64) _) = _ ∧ _
  rw [er, e5, ea2, if_pos (eb 2 (by omega)), ec 2 (by omega), T5.g4, hg, ok_au ok hr, e6, if_pos eb0, jn_d, ea1, ea3, ec 1 (by omega), ec 3 (by omega), ec0, T6.g4, hg]
  have P3 : ∀ V156, LnR (U0 W) V156 (fl3 g r) 25 → ∃ W', (if ib (nI (2 + 12 * r + 3)) 361 = true then jn (α := Mem → Option (Int32 × Mem)) (fun j180 => if (V156 254 (2 + 12 * r + 3)) = 1 then bv (f_X10_sign V156 32) fun V171 => bv (f_X10_sign V171 33) fun V177 => j180 V177 else j180 V156) (fun (V180 : Mem) => some ((V180 253 6), V180)) else none) = some (nI (fl4 g r).length, W') ∧ LnR (U0 W) W' (fl4 g r) 40 := fun X TX => by
    rw [if_pos (eb 3 (by omega)), jn_d, TX.g4, hg]
    unfold fl4
    by_cases q : g (2 + 12 * r + 3) = nI 1
    · obtain ⟨V8, e8, T8⟩ := mr_2 (x := 32) (y := 33) (c := 32) (d := 33) TX (by omega) rfl rfl
      rw [if_pos (show g (2 + 12 * r + 3) = 1 from q), e8, if_pos q]
      exact ⟨V8, congrArg (fun x => some (x, V8)) T8.1, T8.up (by omega)⟩
    · rw [if_neg (show ¬ g (2 + 12 * r + 3) = 1 from q), if_neg q]
      exact ⟨X, congrArg (fun x => some (x, X)) TX.1, TX.up (by omega)⟩
  have P2 : ∀ V126, LnR (U0 W) V126 (fl2 g r) 21 → ∃ W', (if ib (nI (2 + 12 * r + 1)) 361 = true then jn (α := Mem → Option (Int32 × Mem)) (fun j156 => if (V126 254 (2 + 12 * r + 1)) = (-1) then j156 V126 else bv (f_X10_sign V126 43) fun V141 => if ib (nI (2 + 12 * r + 1)) 361 = true then bv (f_X10_writesNumber V141 (V141 254 (2 + 12 * r + 1))) fun V153 => j156 V153 else none) (fun (V156 : Mem) => if ib (nI (2 + 12 * r + 3)) 361 = true then jn (α := Mem → Option (Int32 × Mem)) (fun j180 => if (V156 254 (2 + 12 * r + 3)) = 1 then bv (f_X10_sign V156 32) fun V171 => bv (f_X10_sign V171 33) fun V177 => j180 V177 else j180 V156) (fun (V180 : Mem) => some ((V180 253 6), V180)) else none) else none) = some (nI (fl4 g r).length, W') ∧ LnR (U0 W) W' (fl4 g r) 40 := fun X TX => by
    rw [if_pos (eb 1 (by omega)), jn_d, TX.g4, hg]
    rcases ok_s ok hr with z2 | ⟨z2, z3⟩
    · rw [if_pos (show g (2 + 12 * r + 1) = -1 from z2)]
      exact P3 X (by unfold fl3; rw [if_pos z2]; exact TX.up (by omega))
    · obtain ⟨V7, e7, T7⟩ := mr_ch (x := 43) (c := 43) TX (by omega) rfl
      obtain ⟨V8, e8, T8⟩ := mr_in (n := p2 g r) T7 (by omega) (by omega)
      rw [if_neg (show ¬ g (2 + 12 * r + 1) = -1 by rw [z2]; exact nI_m1 (by omega)), e7, if_pos (eb 1 (by omega)), T7.g4, hg, z2, e8]
      exact P3 V8 (by unfold fl3; rw [if_neg (by rw [z2]; exact nI_m1 (by omega))]; exact T8.up (by omega))
  rcases ok_f ok hr with ⟨z1, z2⟩ | ⟨z1, z2, z3⟩
  · rw [if_pos (show g (2 + 12 * r) = -1 from z2)]
    exact P2 V6 (by unfold fl2; rw [if_pos z2]; exact T6.up (by omega))
  · obtain ⟨V7, e7, T7⟩ := mr_2 (x := 32) (y := 60) (c := 32) (d := 60) T6 (by omega) rfl rfl
    obtain ⟨V8, e8, T8⟩ := mr_in (n := p1 g r) T7 (by omega) (by omega)
    rw [if_neg (show ¬ g (2 + 12 * r) = -1 by rw [z2]; exact nI_m1 (by omega)), e7, if_pos eb0, T7.g4, hg, z2, e8]
    exact P2 V8 (by unfold fl2; rw [if_neg (by rw [z2]; exact nI_m1 (by omega))]; exact T8)
theorem st_formatRevision (I : Inv V) (a : Int32) : StepR V (f_L_formatRevision V a) (fun W => f_X10_formatRevision W a) := by
  obtain ⟨ok, R⟩ := I.1
  rcases rev_or ok a with ⟨r, hr, rfl⟩ | hB
  · obtain ⟨V2, e, T⟩ := cx_fr ok R hr I.2.2.2.2.1
    refine q_L I ?_ T (fun W hW => mm_fr ok hW hr)
    unfold f_L_formatRevision
    rw [e, bh_0]; rfl
  · refine q_F (code := 1) I (by omega) (by omega) ?_ (fun W hW => ex_sc2 (r := m1) ?_)
    · unfold f_L_formatRevision f_X9_formatRevision
      rw [cx_rqR_B ok R hB, bw_n, bh_n]; rfl
    · unfold f_X10_formatRevision
      rw [lt_U, mq_rev_B ok hW hB, bd_s, if_pos (by decide), sm_th, bd_s, U0_th]; rfl
end QO
