/-! PURE, 35: marks, what is in use, archive, in the class -/
section CU
variable {V : Mem} {g : Arr}
/-- a set that holds the ancestors of what it holds, up to r -/
def clB (g : Arr) (x : Int32) (r : Nat) : Prop := ∀ q, q ≤ r → bt x q = true → ∀ a, anc g q a → bt x a = true
theorem or_as (a b c : Int32) : (a ||| b) ||| c = a ||| (b ||| c) := Int32.or_assoc a b c
theorem sub_or {x y : Int32} (h : ∀ i, bt y i = true → bt x i = true) : x ||| y = x := by
  apply b_ext; intro i hi; rw [b_or]
  cases q : bt y i
  · rw [Bool.or_false]
  · rw [h i q]; rfl
theorem mk_m {x : Int32} {d n : Nat} {D : Int32} : f_X6_marked_R (n + 1) V m1 x D = some (x, V) := by
  rw [f_X6_marked_R.eq_2]
  have e : f_X6_has V m1 = some (nI 0, V) := by
    unfold f_X6_has
    rw [if_pos (by decide)]; rfl
  rw [e, bd_s, if_pos (by decide)]
theorem cx_mk (ok : OKg g) (R : RelS V g) : ∀ (r : Nat), r < cnt g → ∀ (x : Int32) (d n : Nat), clB g x r → d + r ≤ 23 → r + 2 ≤ n → f_X6_marked_R n V (nI r) x (nI d) = some (x ||| Ag g r, V) := by
  have hc := ok_c24 ok
  intro r
  induction r using Nat.strongRecOn with
  | ind r ih =>
    intro hr x d n hx hd hn
    obtain ⟨n, rfl⟩ : ∃ n', n = n' + 1 := ⟨n - 1, by omega⟩
    rw [f_X6_marked_R.eq_2]
    cases q : bt x r
    · have ct := sx_cont (V := V) (x := x) (show r < 24 by omega)
      rw [q] at ct
      -- the first parent
      have c1 : ∀ p, p < r → clB g (x ||| pw r) p := fun p hp q' hq' hb a ha => by
        rw [b_or, bt_pw (by omega), decide_eq_false (by omega), Bool.or_false] at hb
        rw [b_or, hx q' (by omega) hb a ha, Bool.true_or]
      have F : ∃ M, f_X6_marked_R n V (g (2 + 12 * r)) (x ||| pw r) (nI (d + 1)) = some (M, V) ∧ M = ((x ||| pw r) ||| (if g (2 + 12 * r) = m1 then nI 0 else Ag g (p1 g r))) := by
        rcases ok_f ok hr with ⟨z1, z2⟩ | ⟨z1, z2, z3⟩
        · obtain ⟨n, rfl⟩ : ∃ n', n = n' + 1 := ⟨n - 1, by omega⟩
          rw [z2, if_pos rfl, or_0]
          exact ⟨_, mk_m (d := d), rfl⟩
        · rw [z2, if_neg (nI_m1 (by omega))]
          exact ⟨_, ih _ z3 (by omega) _ _ _ (c1 _ z3) (by omega) (by omega), rfl⟩
      obtain ⟨M, eM, hM⟩ := F
      have S : f_X6_marked_R n V (g (2 + 12 * r + 1)) M (nI (d + 1)) = some (M ||| (if g (2 + 12 * r + 1) = m1 then nI 0 else Ag g (p2 g r)), V) := by
        rcases ok_s ok hr with y | ⟨y1, y2⟩
        · obtain ⟨n, rfl⟩ : ∃ n', n = n' + 1 := ⟨n - 1, by omega⟩
          rw [y, if_pos rfl, or_0]
          exact mk_m (d := d)
        · rw [y1, if_neg (nI_m1 (by omega))]
          refine ih _ y2 (by omega) _ _ _ (fun q' hq' hb a ha => ?_) (by omega) (by omega)
          rw [hM, b_or] at hb ⊢
          cases w : bt (x ||| pw r) q'
          · rw [w, Bool.false_or] at hb
            rcases ok_f ok hr with ⟨z1, z2⟩ | ⟨z1, z2, z3⟩
            · rw [if_pos z2, bt_0] at hb; exact Bool.noConfusion hb
            · rw [if_neg (by rw [z2]; exact nI_m1 (by omega))] at hb ⊢
              have : bt (Ag g (p1 g r)) a = true := anc_tr ok (show p1 g r < cnt g by omega) hb ha
              rw [this, Bool.or_true]
          · rw [c1 q' (by omega) q' (Nat.le_refl _) w a ha, Bool.true_or]
      have e : x ||| Ag g r = M ||| (if g (2 + 12 * r + 1) = m1 then nI 0 else Ag g (p2 g r)) := by
        rw [Ag_eq ok hr, hM]; simp only [or_as]
      rw [e]
      simp (disch := omega) only [bd_s, bv_s, lt_d, jn_d, om_s, om_n, zl0, zl1, zl2, zl3, zl4, zl5, zl6, zl7, zl8, zl9, zl10, zl11, zl12, zl13, zl16, zl23, zl24, zl26, zl31, zl32, zl35, zl36, zl40, zl42, zl45, zl48, zl57, zl58, zl59, zl60, zl61, zl62, zl63, zl64, zl65, zl78, zl90, zl94, zl97, zl98, zl114, zl122, zl126, zl244, zl290, zl291, zl326, zl335, zl361, zl2527, zl2888, neg1, le_T, le_F, lt_T, lt_F, eq_T, eq_F, m1_ne, m1_ne', m1_lt, m1_le, lt_m1, le_m1, cl_n, ib_T, nI_add, pk_mul, sub_n, add_m1, sub_m1, m1_1, m1_1', pw_d, st_e, st_n, vu_e, vu_n, up_e, up_n, if_true, if_false, true_or, or_true, false_or, or_false, eq_self, reduceCtorEq, not_true_eq_false, not_false_eq_true, cx_has ok R hr, ct, Bool.false_eq_true, cx_fp ok R hr, sx_setOf, eM, cx_sp ok R hr, S]
    · have ct := sx_cont (V := V) (x := x) (show r < 24 by omega)
      rw [q] at ct
      rw [sub_or (fun i hi => hx r (Nat.le_refl _) q i hi)]
      simp (disch := omega) only [bd_s, bv_s, lt_d, jn_d, om_s, om_n, zl0, zl1, zl2, zl3, zl4, zl5, zl6, zl7, zl8, zl9, zl10, zl11, zl12, zl13, zl16, zl23, zl24, zl26, zl31, zl32, zl35, zl36, zl40, zl42, zl45, zl48, zl57, zl58, zl59, zl60, zl61, zl62, zl63, zl64, zl65, zl78, zl90, zl94, zl97, zl98, zl114, zl122, zl126, zl244, zl290, zl291, zl326, zl335, zl361, zl2527, zl2888, neg1, le_T, le_F, lt_T, lt_F, eq_T, eq_F, m1_ne, m1_ne', m1_lt, m1_le, lt_m1, le_m1, cl_n, ib_T, nI_add, pk_mul, sub_n, add_m1, sub_m1, m1_1, m1_1', pw_d, st_e, st_n, vu_e, vu_n, up_e, up_n, if_true, if_false, true_or, or_true, false_or, or_false, eq_self, reduceCtorEq, not_true_eq_false, not_false_eq_true, cx_has ok R hr, ct]
theorem usb_cl (ok : OKg g) {n : Nat} (hn : n ≤ bcn g) (r : Nat) : clB g (usb g n) r := fun q _ hb a ha => by
  obtain ⟨b, h1, h2⟩ := (usb_bt g q n).mp hb
  exact (usb_bt g a n).mpr ⟨b, h1, anc_tr ok (ok_hc ok (show b < bcn g by omega)) h2 ha⟩
theorem ust_cl (ok : OKg g) {n : Nat} (hn : n ≤ 26) (r : Nat) : clB g (ust g n) r := fun q _ hb a ha => by
  rcases (ust_bt g q n).mp hb with ⟨b, h1, h2⟩ | ⟨t, h1, h2, h3⟩
  · exact (ust_bt g a n).mpr (.inl ⟨b, h1, anc_tr ok (ok_hc ok h1) h2 ha⟩)
  · exact (ust_bt g a n).mpr (.inr ⟨t, h1, h2, anc_tr ok (ok_tgc ok (by omega) h2).2.1 h3 ha⟩)
theorem cx_used (ok : OKg g) (R : RelS V g) : f_X8_usedSet V = some (usd g, V) := by
  have h5 := ok_b5 ok
  have hc := ok_c24 ok
  unfold f_X8_usedSet
  have T : f_X8_usedSet_L36 FU V (ust g 0) (nI 65) = some (usd g, V) := by
    refine lp_run 26 (fun n k => f_X8_usedSet_L36 n V (ust g k) (nI (65 + k))) _ ?_ ?_ (n := FU) (k := 0) (by omega) (by decide)
    · intro n
      rw [f_X8_usedSet_L36.eq_2]
      simp (disch := omega) only [bd_s, bv_s, lt_d, jn_d, om_s, om_n, zl0, zl1, zl2, zl3, zl4, zl5, zl6, zl7, zl8, zl9, zl10, zl11, zl12, zl13, zl16, zl23, zl24, zl26, zl31, zl32, zl35, zl36, zl40, zl42, zl45, zl48, zl57, zl58, zl59, zl60, zl61, zl62, zl63, zl64, zl65, zl78, zl90, zl94, zl97, zl98, zl114, zl122, zl126, zl244, zl290, zl291, zl326, zl335, zl361, zl2527, zl2888, neg1, le_T, le_F, lt_T, lt_F, eq_T, eq_F, m1_ne, m1_ne', m1_lt, m1_le, lt_m1, le_m1, cl_n, ib_T, nI_add, pk_mul, sub_n, add_m1, sub_m1, m1_1, m1_1', pw_d, st_e, st_n, vu_e, vu_n, up_e, up_n, if_true, if_false, true_or, or_true, false_or, or_false, eq_self, reduceCtorEq, not_true_eq_false, not_false_eq_true] <;> rfl
    · intro n k hk
      rw [f_X8_usedSet_L36.eq_2, ust]
      have em : f_X6_marked V (g (335 + k)) (ust g k) (nI 0) = some (ust g k ||| (if g (335 + k) = m1 then nI 0 else Ag g (tg g k)), V) := by
        unfold f_X6_marked
        rcases ok_tag ok hk with q | ⟨q, q2, q3⟩
        · rw [q, if_pos rfl, or_0]; exact mk_m (d := 0)
        · rw [q, if_neg (nI_m1 (by omega))]
          exact cx_mk ok R _ q2 _ 0 _ (ust_cl ok (by omega) _) (by omega) (by omega)
      simp (disch := omega) only [bd_s, bv_s, lt_d, jn_d, om_s, om_n, zl0, zl1, zl2, zl3, zl4, zl5, zl6, zl7, zl8, zl9, zl10, zl11, zl12, zl13, zl16, zl23, zl24, zl26, zl31, zl32, zl35, zl36, zl40, zl42, zl45, zl48, zl57, zl58, zl59, zl60, zl61, zl62, zl63, zl64, zl65, zl78, zl90, zl94, zl97, zl98, zl114, zl122, zl126, zl244, zl290, zl291, zl326, zl335, zl361, zl2527, zl2888, neg1, le_T, le_F, lt_T, lt_F, eq_T, eq_F, m1_ne, m1_ne', m1_lt, m1_le, lt_m1, le_m1, cl_n, ib_T, nI_add, pk_mul, sub_n, add_m1, sub_m1, m1_1, m1_1', pw_d, st_e, st_n, vu_e, vu_n, up_e, up_n, if_true, if_false, true_or, or_true, false_or, or_false, eq_self, reduceCtorEq, not_true_eq_false, not_false_eq_true, cx_tw R hk, em, Nat.add_assoc]
  have B : ∀ (j : Mem → Int32 → Option (Int32 × Mem)), f_X8_usedSet_L4 j FU V (nI 0) (nI 0) = j V (usb g (bcn g)) := by
    intro j
    refine lp_run (bcn g) (fun n k => f_X8_usedSet_L4 j n V (usb g k) (nI k)) _ ?_ ?_ (n := FU) (k := 0) (by omega) (by unfold FU; omega)
    · intro n
      rw [f_X8_usedSet_L4.eq_2]
      simp (disch := omega) only [bd_s, bv_s, lt_d, jn_d, om_s, om_n, zl0, zl1, zl2, zl3, zl4, zl5, zl6, zl7, zl8, zl9, zl10, zl11, zl12, zl13, zl16, zl23, zl24, zl26, zl31, zl32, zl35, zl36, zl40, zl42, zl45, zl48, zl57, zl58, zl59, zl60, zl61, zl62, zl63, zl64, zl65, zl78, zl90, zl94, zl97, zl98, zl114, zl122, zl126, zl244, zl290, zl291, zl326, zl335, zl361, zl2527, zl2888, neg1, le_T, le_F, lt_T, lt_F, eq_T, eq_F, m1_ne, m1_ne', m1_lt, m1_le, lt_m1, le_m1, cl_n, ib_T, nI_add, pk_mul, sub_n, add_m1, sub_m1, m1_1, m1_1', pw_d, st_e, st_n, vu_e, vu_n, up_e, up_n, if_true, if_false, true_or, or_true, false_or, or_false, eq_self, reduceCtorEq, not_true_eq_false, not_false_eq_true, rl_b R, ok_bcn ok]
    · intro n k hk
      rw [f_X8_usedSet_L4.eq_2, usb]
      have em : f_X6_marked V (nI (hd g k)) (usb g k) (nI 0) = some (usb g k ||| Ag g (hd g k), V) := by
        unfold f_X6_marked
        exact cx_mk ok R _ (ok_hc ok hk) _ 0 _ (usb_cl ok (by omega) _) (by have := ok_hc ok hk; omega) (by have := ok_hc ok hk; omega)
      simp (disch := omega) only [bd_s, bv_s, lt_d, jn_d, om_s, om_n, zl0, zl1, zl2, zl3, zl4, zl5, zl6, zl7, zl8, zl9, zl10, zl11, zl12, zl13, zl16, zl23, zl24, zl26, zl31, zl32, zl35, zl36, zl40, zl42, zl45, zl48, zl57, zl58, zl59, zl60, zl61, zl62, zl63, zl64, zl65, zl78, zl90, zl94, zl97, zl98, zl114, zl122, zl126, zl244, zl290, zl291, zl326, zl335, zl361, zl2527, zl2888, neg1, le_T, le_F, lt_T, lt_F, eq_T, eq_F, m1_ne, m1_ne', m1_lt, m1_le, lt_m1, le_m1, cl_n, ib_T, nI_add, pk_mul, sub_n, add_m1, sub_m1, m1_1, m1_1', pw_d, st_e, st_n, vu_e, vu_n, up_e, up_n, if_true, if_false, true_or, or_true, false_or, or_false, eq_self, reduceCtorEq, not_true_eq_false, not_false_eq_true, rl_b R, ok_bcn ok, cx_hd ok R hk, em]
  simp (disch := omega) only [bd_s, bv_s, lt_d, jn_d, om_s, om_n, zl0, zl1, zl2, zl3, zl4, zl5, zl6, zl7, zl8, zl9, zl10, zl11, zl12, zl13, zl16, zl23, zl24, zl26, zl31, zl32, zl35, zl36, zl40, zl42, zl45, zl48, zl57, zl58, zl59, zl60, zl61, zl62, zl63, zl64, zl65, zl78, zl90, zl94, zl97, zl98, zl114, zl122, zl126, zl244, zl290, zl291, zl326, zl335, zl361, zl2527, zl2888, neg1, le_T, le_F, lt_T, lt_F, eq_T, eq_F, m1_ne, m1_ne', m1_lt, m1_le, lt_m1, le_m1, cl_n, ib_T, nI_add, pk_mul, sub_n, add_m1, sub_m1, m1_1, m1_1', pw_d, st_e, st_n, vu_e, vu_n, up_e, up_n, if_true, if_false, true_or, or_true, false_or, or_false, eq_self, reduceCtorEq, not_true_eq_false, not_false_eq_true, B]
  exact T
theorem usd_hi (ok : OKg g) : ∀ i, 24 ≤ i → bt (usd g) i = false := fun i hi => by
  cases q : bt (usd g) i
  · rfl
  · have := (usd_arc ok q).2; have := ok_c24 ok; omega
theorem arc_hi (ok : OKg g) (R : RelS V g) : ∀ i, 24 ≤ i → bt (V 1 0) i = false := fun i hi => R.2.2.1 i (by have := ok_c24 ok; omega)
/-- the archived revisions, counted -/
def acn (g : Arr) : Nat := fb_ct (fun r => decide (g (2 + 12 * r + 3) = nI 1)) (cnt g)
theorem acn_pc (ok : OKg g) (R : RelS V g) : pcn (V 1 0) = acn g := by
  have hc := ok_c24 ok
  unfold pcn acn
  have e : ∀ n, n ≤ 24 - cnt g → fb_ct (fun i => bt (V 1 0) i) (cnt g + n) = fb_ct (fun r => decide (g (2 + 12 * r + 3) = nI 1)) (cnt g) := by
    intro n
    induction n with
    | zero =>
      intro _
      refine fb_ct_cong (fun r hr => ?_)
      have := rl_a R hr
      unfold arc at this
      cases z : bt (V 1 0) r
      · exact (decide_eq_false (fun y => by rw [this.mpr y] at z; exact Bool.noConfusion z)).symm
      · exact (decide_eq_true (this.mp z)).symm
    | succ n ih =>
      intro hn
      rw [← Nat.add_assoc, fb_ct_succ, ih (by omega), R.2.2.1 (cnt g + n) (by omega)]
      rfl
  have := e (24 - cnt g) (Nat.le_refl _)
  rwa [show cnt g + (24 - cnt g) = 24 by omega] at this
theorem cx_bcA (ok : OKg g) (R : RelS V g) : f_J6_bitCount_0f7a4 V (V 1 0) = some (nI (acn g), V) := by
  rw [cx_bc (fun i h _ => arc_hi ok R i h), acn_pc ok R]
theorem acn_arg (ok : OKg g) : acn (arg g (usd g) (cnt g)) = acn g + arn g (usd g) (cnt g) := by
  have c0 : cnt (arg g (usd g) (cnt g)) = cnt g := by
    show (arg g (usd g) (cnt g) 0).toNatClampNeg = _
    rw [arg_o (by omega)]; rfl
  unfold acn arn
  rw [c0]
  have : ∀ n, n ≤ cnt g → fb_ct (fun r => decide (arg g (usd g) (cnt g) (2 + 12 * r + 3) = nI 1)) n = fb_ct (fun r => decide (g (2 + 12 * r + 3) = nI 1)) n + fb_ct (fun r => !bt (usd g) r && decide (g (2 + 12 * r + 3) = nI 0)) n := by
    intro n
    induction n with
    | zero => intro _; rfl
    | succ n ih =>
      intro hn
      rw [fb_ct_succ, fb_ct_succ, fb_ct_succ, ih (by omega), arg_3]
      have hn' : n < cnt g := by omega
      have n01 : ¬ nI 0 = nI 1 := by decide
      have n10 : ¬ nI 1 = nI 0 := by decide
      rcases ok_ar ok hn' with z | z <;> cases q : bt (usd g) n <;> simp [z, hn', n01, n10] <;> omega
  exact this _ (Nat.le_refl _)
theorem cx_ar (ok : OKg g) (R : RelS V g) : COk (f_X8_archiveUnused V) V (nI (arn g (usd g) (cnt g))) (arg g (usd g) (cnt g)) := by
  have hc := ok_c24 ok
  -- the set behind n revisions
  let A : Nat → Int32 := fun n => Nat.rec (V 1 0) (fun k x => if bt (usd g) k then x else x ||| pw k) n
  have A0 : A 0 = V 1 0 := rfl
  have As : ∀ n, A (n + 1) = if bt (usd g) n then A n else A n ||| pw n := fun n => rfl
  have Ab : ∀ n q, n ≤ 24 → bt (A n) q = (bt (V 1 0) q || (decide (q < n) && !bt (usd g) q)) := by
    intro n q
    induction n with
    | zero => intro _; rw [A0, decide_eq_false (by omega), Bool.false_and, Bool.or_false]
    | succ n ih =>
      intro hn
      have ih := ih (by omega)
      rw [As]
      cases u : bt (usd g) n
      · rw [if_neg Bool.false_ne_true, b_or, ih, bt_pw (by omega)]
        by_cases e : q = n
        · subst e; rw [u]; simp
        · rw [decide_eq_false e, Bool.or_false]
          congr 2
          exact decide_eq_decide.mpr (by omega)
      · rw [if_pos rfl, ih]
        by_cases e : q = n
        · subst e; rw [u]; simp
        · congr 2
          exact decide_eq_decide.mpr (by omega)
  have eA : stv V 1 0 (A 0) = V := by
    rw [A0, st_vu]; exact vu_id' (by funext j; by_cases e : j = 0 <;> simp [upd, e])
  have R2 : RelS (stv V 1 0 (A (cnt g))) (arg g (usd g) (cnt g)) := by
    refine Rel_ar ok R (fun c hc => st_n hc) (by rw [st_e, up_n (by omega)]) (fun q => ?_)
    rw [st_e, up_e, Ab _ _ hc]
  refine ⟨stv V 1 0 (A (cnt g)), ?_, R2, fun c hc => st_n (by omega)⟩
  have L : ∀ (r7 : Int32) (j : Mem → Option (Int32 × Mem)), f_X8_archiveUnused_L18 r7 (usd g) j FU V (nI 0) = j (stv V 1 0 (A (cnt g))) := by
    intro r7 j
    refine Eq.trans (congrArg (fun W => f_X8_archiveUnused_L18 r7 (usd g) j FU W (nI 0)) eA.symm) ?_
    refine lp_run (cnt g) (fun n k => f_X8_archiveUnused_L18 r7 (usd g) j n (stv V 1 0 (A k)) (nI k)) _ ?_ ?_ (n := FU) (k := 0) (by omega) (by unfold FU; omega)
    · intro n
      rw [f_X8_archiveUnused_L18.eq_2]
      simp (disch := omega) only [bd_s, bv_s, lt_d, jn_d, om_s, om_n, zl0, zl1, zl2, zl3, zl4, zl5, zl6, zl7, zl8, zl9, zl10, zl11, zl12, zl13, zl16, zl23, zl24, zl26, zl31, zl32, zl35, zl36, zl40, zl42, zl45, zl48, zl57, zl58, zl59, zl60, zl61, zl62, zl63, zl64, zl65, zl78, zl90, zl94, zl97, zl98, zl114, zl122, zl126, zl244, zl290, zl291, zl326, zl335, zl361, zl2527, zl2888, neg1, le_T, le_F, lt_T, lt_F, eq_T, eq_F, m1_ne, m1_ne', m1_lt, m1_le, lt_m1, le_m1, cl_n, ib_T, nI_add, pk_mul, sub_n, add_m1, sub_m1, m1_1, m1_1', pw_d, st_e, st_n, vu_e, vu_n, up_e, up_n, if_true, if_false, true_or, or_true, false_or, or_false, eq_self, reduceCtorEq, not_true_eq_false, not_false_eq_true, rl_n R, ok_cnt ok]
    · intro n k hk
      rw [f_X8_archiveUnused_L18.eq_2, As]
      have ss : ∀ x, stv (stv V 1 0 (A k)) 1 0 x = stv V 1 0 x := fun x => by
        rw [st_s2, st_vu]; congr 1; funext j; by_cases e : j = 0 <;> simp [upd, e]
      have ct := sx_cont (V := stv V 1 0 (A k)) (x := usd g) (show k < 24 by omega)
      cases u : bt (usd g) k
      · rw [u] at ct
        simp (disch := omega) only [bd_s, bv_s, lt_d, jn_d, om_s, om_n, zl0, zl1, zl2, zl3, zl4, zl5, zl6, zl7, zl8, zl9, zl10, zl11, zl12, zl13, zl16, zl23, zl24, zl26, zl31, zl32, zl35, zl36, zl40, zl42, zl45, zl48, zl57, zl58, zl59, zl60, zl61, zl62, zl63, zl64, zl65, zl78, zl90, zl94, zl97, zl98, zl114, zl122, zl126, zl244, zl290, zl291, zl326, zl335, zl361, zl2527, zl2888, neg1, le_T, le_F, lt_T, lt_F, eq_T, eq_F, m1_ne, m1_ne', m1_lt, m1_le, lt_m1, le_m1, cl_n, ib_T, nI_add, pk_mul, sub_n, add_m1, sub_m1, m1_1, m1_1', pw_d, st_e, st_n, vu_e, vu_n, up_e, up_n, if_true, if_false, true_or, or_true, false_or, or_false, eq_self, reduceCtorEq, not_true_eq_false, not_false_eq_true, rl_n R, ok_cnt ok, ct, Bool.false_eq_true, sx_setOf, ss]
      · rw [u] at ct
        simp (disch := omega) only [bd_s, bv_s, lt_d, jn_d, om_s, om_n, zl0, zl1, zl2, zl3, zl4, zl5, zl6, zl7, zl8, zl9, zl10, zl11, zl12, zl13, zl16, zl23, zl24, zl26, zl31, zl32, zl35, zl36, zl40, zl42, zl45, zl48, zl57, zl58, zl59, zl60, zl61, zl62, zl63, zl64, zl65, zl78, zl90, zl94, zl97, zl98, zl114, zl122, zl126, zl244, zl290, zl291, zl326, zl335, zl361, zl2527, zl2888, neg1, le_T, le_F, lt_T, lt_F, eq_T, eq_F, m1_ne, m1_ne', m1_lt, m1_le, lt_m1, le_m1, cl_n, ib_T, nI_add, pk_mul, sub_n, add_m1, sub_m1, m1_1, m1_1', pw_d, st_e, st_n, vu_e, vu_n, up_e, up_n, if_true, if_false, true_or, or_true, false_or, or_false, eq_self, reduceCtorEq, not_true_eq_false, not_false_eq_true, rl_n R, ok_cnt ok, ct]
  have ok2 := OK_ar ok
  have b2 := cx_bcA ok2 R2
  unfold f_X8_archiveUnused
  simp (disch := omega) only [bd_s, bv_s, lt_d, jn_d, om_s, om_n, zl0, zl1, zl2, zl3, zl4, zl5, zl6, zl7, zl8, zl9, zl10, zl11, zl12, zl13, zl16, zl23, zl24, zl26, zl31, zl32, zl35, zl36, zl40, zl42, zl45, zl48, zl57, zl58, zl59, zl60, zl61, zl62, zl63, zl64, zl65, zl78, zl90, zl94, zl97, zl98, zl114, zl122, zl126, zl244, zl290, zl291, zl326, zl335, zl361, zl2527, zl2888, neg1, le_T, le_F, lt_T, lt_F, eq_T, eq_F, m1_ne, m1_ne', m1_lt, m1_le, lt_m1, le_m1, cl_n, ib_T, nI_add, pk_mul, sub_n, add_m1, sub_m1, m1_1, m1_1', pw_d, st_e, st_n, vu_e, vu_n, up_e, up_n, if_true, if_false, true_or, or_true, false_or, or_false, eq_self, reduceCtorEq, not_true_eq_false, not_false_eq_true, cx_bcA ok R, cx_used ok R, L]
  rw [st_e, up_e] at b2
  rw [b2, bd_s, acn_arg ok, sub_n (by omega), show acn g + arn g (usd g) (cnt g) - acn g = arn g (usd g) (cnt g) by omega]
end CU
