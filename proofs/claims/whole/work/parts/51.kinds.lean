/-! PURE, 51: one command of a program, both sides -/
def Kd (g : Arr) (rf : Mem → Option (Nat × Mem)) (per it : Mem → Option (Int32 × Mem)) : Prop :=
  (∃ q code, 0 < q ∧ q < 5 ∧ 0 < code ∧ code < 9 ∧ (∀ V, RelS V g → rf V = some (q, V)) ∧ ∀ W : Mem, W 254 = g → MNo (it W) W code) ∨
  ∃ r g', OKg g' ∧ (∀ V, RelS V g → rf V = some (0, V)) ∧ (∀ V, RelS V g → COk (per V) V r g') ∧ ∀ W : Mem, W 254 = g → MOk (it W) W r g'
section KD
variable {g : Arr}
theorem kd_F {rf : Mem → Option (Nat × Mem)} {per it : Mem → Option (Int32 × Mem)} (q code : Nat) (h1 : 0 < q) (h2 : q < 5) (h3 : 0 < code) (h4 : code < 9) (a : ∀ V, RelS V g → rf V = some (q, V)) (b : ∀ W : Mem, W 254 = g → MNo (it W) W code) : Kd g rf per it := .inl ⟨q, code, h1, h2, h3, h4, a, b⟩
theorem kd_T {rf : Mem → Option (Nat × Mem)} {per it : Mem → Option (Int32 × Mem)} {r : Int32} {g' : Arr} (ok' : OKg g') (a : ∀ V, RelS V g → rf V = some (0, V)) (b : ∀ V, RelS V g → COk (per V) V r g') (c : ∀ W : Mem, W 254 = g → MOk (it W) W r g') : Kd g rf per it := .inr ⟨r, g', ok', a, b, c⟩
theorem kd_edit (ok : OKg g) (a d y : Int32) : Kd g (fun V => f_X8_refusalOfEdit V a d y) (fun V => f_X8_putLetter V a d y) (fun W => f_X10_editIt W a d y) := by
  have h5 := ok_b5 ok
  have F1 : Bad a (bcn g) ∨ Bad d 8 → Kd g (fun V => f_X8_refusalOfEdit V a d y) (fun V => f_X8_putLetter V a d y) (fun W => f_X10_editIt W a d y) := fun h =>
    kd_F 1 1 (by omega) (by omega) (by omega) (by omega) (fun V R => cx_rEdit_1 ok R h) (fun W hW => mm_edit_1 (V := W) (by rw [hW]; exact ok) (by rw [hW]; exact h))
  rcases bad_or a (show bcn g < 2 ^ 31 by omega) with ⟨b, hb, rfl⟩ | hB
  · rcases bad_or d (show 8 < 2 ^ 31 by omega) with ⟨f, hf, rfl⟩ | hB
    · rcases let_or y with hy | hy
      · refine kd_T (OK_ed ok hb hf hy).1 (fun V R => cx_rEdit ok R hb hf hy) (fun V R => cx_put ok R hb hf hy) (fun W hW => ?_)
        have := mm_edit (V := W) (b := b) (f := f) (y := y) (by rw [hW]; exact ok) (by rw [hW]; exact hb) hf hy
        rw [hW] at this
        exact MOk.of this
      · exact kd_F 2 2 (by omega) (by omega) (by omega) (by omega) (fun V R => cx_rEdit_2 ok R hb hf hy) (fun W hW => mm_edit_2 (V := W) (by rw [hW]; exact ok) (by rw [hW]; exact hb) hf hy)
    · exact F1 (.inr hB)
  · exact F1 (.inl hB)
theorem kd_revert (ok : OKg g) (a : Int32) : Kd g (fun V => f_X8_refusalOfRevert V a) (fun V => f_X8_dropEdits V a) (fun W => f_X10_revertIt W a) := by
  have h5 := ok_b5 ok
  rcases bad_or a (show bcn g < 2 ^ 31 by omega) with ⟨b, hb, rfl⟩ | hB
  · have hh := ok_hc ok hb
    refine kd_T (OK_bw ok hb hh (ok_bra ok hb).1.2.2 (lrg_let ok hh)).1 (fun V R => cx_rRev ok R hb) (fun V R => cx_drop ok R hb) (fun W hW => ?_)
    have := mm_rev (V := W) (b := b) (by rw [hW]; exact ok) (by rw [hW]; exact hb)
    rw [hW] at this
    exact MOk.of this
  · exact kd_F 1 1 (by omega) (by omega) (by omega) (by omega) (fun V R => cx_rRev_1 ok R hB) (fun W hW => mm_rev_1 (V := W) (by rw [hW]; exact ok) (by rw [hW]; exact hB))
theorem kd_commit (ok : OKg g) (a d : Int32) : Kd g (fun V => f_X8_refusalOfCommit V a d) (fun V => f_X8_commitWorking V a d) (fun W => f_X10_commitIt W a d) := by
  have h5 := ok_b5 ok
  have hc := ok_c24 ok
  rcases bad_or a (show bcn g < 2 ^ 31 by omega) with ⟨b, hb, rfl⟩ | hB
  · rcases bad_or d (show 10 < 2 ^ 31 by omega) with ⟨w, hw, rfl⟩ | hB
    · by_cases q : edn g b = 0 ∨ cnt g = 24
      · exact kd_F 4 3 (by omega) (by omega) (by omega) (by omega) (fun V R => cx_rCom_3 ok R hb hw q) (fun W hW => mm_com_3 (V := W) (by rw [hW]; exact ok) (by rw [hW]; exact hb) hw (by rw [hW]; exact q))
      · have q1 : 0 < edn g b := by
          rcases Nat.eq_zero_or_pos (edn g b) with z | z
          · exact absurd (.inl z) q
          · exact z
        have q2 : cnt g < 24 := by
          rcases Nat.lt_or_ge (cnt g) 24 with z | z
          · exact z
          · exact absurd (.inr (by omega)) q
        have hh := ok_hc ok hb
        refine kd_T (OK_nr ok q2 hb hh (ok_bra ok hb).1.2.2 (.inl rfl) ⟨w, hw, rfl⟩ (fun f hf => ok_wk ok hb hf)) (fun V R => cx_rCom ok R hb hw q1 q2) (fun V R => cx_com ok R hb hw q2) (fun W hW => ?_)
        have := mm_com (V := W) (b := b) (a := w) (by rw [hW]; exact ok) (by rw [hW]; exact hb) hw (by rw [hW]; exact q1) (by rw [hW]; exact q2)
        rw [hW] at this
        exact MOk.of this
    · exact kd_F 2 2 (by omega) (by omega) (by omega) (by omega) (fun V R => cx_rCom_2 ok R hb hB) (fun W hW => mm_com_2 (V := W) (by rw [hW]; exact ok) (by rw [hW]; exact hb) hB)
  · exact kd_F 1 1 (by omega) (by omega) (by omega) (by omega) (fun V R => cx_rCom_1 ok R hB) (fun W hW => mm_com_1 (V := W) (by rw [hW]; exact ok) (by rw [hW]; exact hB))
theorem kd_branch (ok : OKg g) (d : Int32) : Kd g (fun V => f_X8_refusalOfBranching V d) (fun V => f_X8_openBranch V d) (fun W => f_X10_branchIt W d) := by
  have h5 := ok_b5 ok
  rcases opn_or ok d with ⟨r, hr, rfl, ha⟩ | hN
  · rcases Nat.lt_or_ge (bcn g) 5 with q | q
    · refine kd_T (OK_op ok q hr ha) (fun V R => cx_rBra ok R hr ha q) (fun V R => cx_opn ok R hr q) (fun W hW => ?_)
      have := mm_op (V := W) (r := r) (by rw [hW]; exact ok) (by rw [hW]; exact hr) (by rw [hW]; exact ha) (by rw [hW]; exact q)
      rw [hW] at this
      exact MOk.of this
    · have q : bcn g = 5 := by omega
      exact kd_F 4 2 (by omega) (by omega) (by omega) (by omega) (fun V R => cx_rBra_2 ok R hr ha q) (fun W hW => mm_op_2 (V := W) (by rw [hW]; exact ok) (by rw [hW]; exact hr) (by rw [hW]; exact ha) (by rw [hW]; exact q))
  · exact kd_F 3 1 (by omega) (by omega) (by omega) (by omega) (fun V R => cx_rBra_1 ok R hN) (fun W hW => mm_op_1 (V := W) (by rw [hW]; exact ok) (by rw [hW]; exact hN))
theorem kd_close (ok : OKg g) (a : Int32) : Kd g (fun V => f_X8_refusalOfClosing V a) (fun V => f_X8_dropBranch V a) (fun W => f_X10_closeIt W a) := by
  have h5 := ok_b5 ok
  have h1 := ok_b1 ok
  rcases bad_or a (show bcn g < 2 ^ 31 by omega) with ⟨b, hb, rfl⟩ | hB
  · by_cases q : bcn g = 1
    · exact kd_F 4 2 (by omega) (by omega) (by omega) (by omega) (fun V R => cx_rCl_2 ok R hb q) (fun W hW => mm_cl_2 (V := W) (by rw [hW]; exact ok) (by rw [hW]; exact hb) (by rw [hW]; exact q))
    · have q : 1 < bcn g := by omega
      refine kd_T (OK_cl ok hb q) (fun V R => cx_rCl ok R hb q) (fun V R => cx_cls ok R hb q) (fun W hW => ?_)
      have := mm_cl (V := W) (b := b) (by rw [hW]; exact ok) (by rw [hW]; exact hb) (by rw [hW]; exact q)
      rw [hW] at this
      exact MOk.of this
  · exact kd_F 1 1 (by omega) (by omega) (by omega) (by omega) (fun V R => cx_rCl_1 ok R hB) (fun W hW => mm_cl_1 (V := W) (by rw [hW]; exact ok) (by rw [hW]; exact hB))
theorem kd_merge (ok : OKg g) (a d : Int32) : Kd g (fun V => f_X8_refusalOfMerge V a d) (fun V => f_X8_mergeHeads V a d (nI 1)) (fun W => f_X10_mergeIt W a d (nI 0)) := by
  have h5 := ok_b5 ok
  have F1 : Bad a (bcn g) ∨ Bad d (bcn g) → Kd g (fun V => f_X8_refusalOfMerge V a d) (fun V => f_X8_mergeHeads V a d (nI 1)) (fun W => f_X10_mergeIt W a d (nI 0)) := fun h =>
    kd_F 1 1 (by omega) (by omega) (by omega) (by omega) (fun V R => cx_rMrg_1 ok R h) (fun W hW => mm_mrg_1 (V := W) (by rw [hW]; exact ok) (by rw [hW]; exact h))
  rcases bad_or a (show bcn g < 2 ^ 31 by omega) with ⟨b, hb, rfl⟩ | hB
  · rcases bad_or d (show bcn g < 2 ^ 31 by omega) with ⟨o, ho, rfl⟩ | hB
    · by_cases hne : b = o
      · subst hne
        exact kd_F 2 2 (by omega) (by omega) (by omega) (by omega) (fun V R => cx_rMrg_2 ok R hb) (fun W hW => mm_mrg_2 (V := W) (by rw [hW]; exact ok) (by rw [hW]; exact hb))
      · by_cases hm : mayC g b o
        · refine kd_T (OK_mr (kp := true) ok hb ho hm.1.2.2.2) (fun V R => (cx_rMrg ok R hb ho hne).1 hm) (fun V R => cx_mrg (kp := true) ok R hb ho hm.1.2.2.2 (ok_bra ok hb).1.2.2) (fun W hW => ?_)
          have := mm_mrg (V := W) (b := b) (o := o) (kp := true) (keeps := nI 0) (by rw [hW]; exact ok) (by rw [hW]; exact hb) (by rw [hW]; exact ho) hne (by rw [hW]; exact hm.1) (.inr (.inr ⟨rfl, by rw [hW]; exact hm.2⟩))
          rw [hW] at this
          exact this
        · refine kd_F 4 3 (by omega) (by omega) (by omega) (by omega) (fun V R => (cx_rMrg ok R hb ho hne).2 hm) (fun W hW => mm_mrg_3 (V := W) (keeps := nI 0) (by rw [hW]; exact ok) (by rw [hW]; exact hb) (by rw [hW]; exact ho) hne ?_)
          rw [hW]
          by_cases z : mayM g b o
          · refine .inr ⟨rfl, ?_⟩
            rcases Nat.eq_zero_or_pos (fb_ct (cfl g b o) 8) with y | y
            · exact absurd ⟨z, y⟩ hm
            · exact y
          · exact .inl z
    · exact F1 (.inr hB)
  · exact F1 (.inl hB)
theorem kd_keep (ok : OKg g) (a d : Int32) (kp : Bool) : Kd g (fun V => f_X8_refusalOfKeeping V a d) (fun V => f_X8_mergeHeads V a d (kpI kp)) (fun W => f_X10_mergeIt W a d (if kp then nI 1 else nI 2)) := by
  have h5 := ok_b5 ok
  have F1 : Bad a (bcn g) ∨ Bad d (bcn g) → Kd g (fun V => f_X8_refusalOfKeeping V a d) (fun V => f_X8_mergeHeads V a d (kpI kp)) (fun W => f_X10_mergeIt W a d (if kp then nI 1 else nI 2)) := fun h =>
    kd_F 1 1 (by omega) (by omega) (by omega) (by omega) (fun V R => cx_keep_1 ok R h) (fun W hW => mm_mrg_1 (V := W) (by rw [hW]; exact ok) (by rw [hW]; exact h))
  rcases bad_or a (show bcn g < 2 ^ 31 by omega) with ⟨b, hb, rfl⟩ | hB
  · rcases bad_or d (show bcn g < 2 ^ 31 by omega) with ⟨o, ho, rfl⟩ | hB
    · by_cases hne : b = o
      · subst hne
        exact kd_F 2 2 (by omega) (by omega) (by omega) (by omega) (fun V R => cx_keep_2 ok R hb) (fun W hW => mm_mrg_2 (V := W) (by rw [hW]; exact ok) (by rw [hW]; exact hb))
      · by_cases hm : mayM g b o
        · refine kd_T (OK_mr (kp := kp) ok hb ho hm.2.2.2) (fun V R => (cx_keep ok R hb ho hne).1 hm) (fun V R => cx_mrg (kp := kp) ok R hb ho hm.2.2.2 (ok_bra ok hb).1.2.2) (fun W hW => ?_)
          have := mm_mrg (V := W) (b := b) (o := o) (kp := kp) (keeps := if kp then nI 1 else nI 2) (by rw [hW]; exact ok) (by rw [hW]; exact hb) (by rw [hW]; exact ho) hne (by rw [hW]; exact hm) (by cases kp; exact .inr (.inl ⟨rfl, rfl⟩); exact .inl ⟨rfl, rfl⟩)
          rw [hW] at this
          exact this
        · exact kd_F 4 3 (by omega) (by omega) (by omega) (by omega) (fun V R => (cx_keep ok R hb ho hne).2 hm) (fun W hW => mm_mrg_3 (V := W) (by rw [hW]; exact ok) (by rw [hW]; exact hb) (by rw [hW]; exact ho) hne (by rw [hW]; exact .inl hm))
    · exact F1 (.inr hB)
  · exact F1 (.inl hB)
theorem kd_pick (ok : OKg g) (a d : Int32) : Kd g (fun V => f_X8_refusalOfPick V a d) (fun V => f_X8_pickChange V a d) (fun W => f_X10_pickIt W a d) := by
  have h5 := ok_b5 ok
  rcases bad_or a (show bcn g < 2 ^ 31 by omega) with ⟨b, hb, rfl⟩ | hB
  · rcases opn_or ok d with ⟨r, hr, rfl, ha⟩ | hN
    · by_cases q : r = 0 ∨ 0 < fb_ct (pkb g b r) 8
      · exact kd_F 4 3 (by omega) (by omega) (by omega) (by omega) (fun V R => cx_rPk_3 ok R hb hr ha q) (fun W hW => mm_pick_3 (V := W) (by rw [hW]; exact ok) (by rw [hW]; exact hb) (by rw [hW]; exact hr) (by rw [hW]; exact ha) (by rw [hW]; exact q))
      · have q1 : 0 < r := by
          rcases Nat.eq_zero_or_pos r with z | z
          · exact absurd (.inl z) q
          · exact z
        have q2 : fb_ct (pkb g b r) 8 = 0 := by
          rcases Nat.eq_zero_or_pos (fb_ct (pkb g b r) 8) with z | z
          · exact z
          · exact absurd (.inr z) q
        refine kd_T (OK_bw ok hb (ok_hc ok hb) (ok_bra ok hb).1.2.2 (pkl_let ok hb hr)).1 (fun V R => cx_rPk ok R hb hr ha q1 q2) (fun V R => cx_pk ok R hb hr q1) (fun W hW => ?_)
        have := mm_pick (V := W) (b := b) (r := r) (by rw [hW]; exact ok) (by rw [hW]; exact hb) (by rw [hW]; exact hr) (by rw [hW]; exact ha) q1 (by rw [hW]; exact q2)
        rw [hW] at this
        exact MOk.of this
    · exact kd_F 3 2 (by omega) (by omega) (by omega) (by omega) (fun V R => cx_rPk_2 ok R hb hN) (fun W hW => mm_pick_2 (V := W) (by rw [hW]; exact ok) (by rw [hW]; exact hb) (by rw [hW]; exact hN))
  · exact kd_F 1 1 (by omega) (by omega) (by omega) (by omega) (fun V R => cx_rPk_1 ok R hB) (fun W hW => mm_pick_1 (V := W) (by rw [hW]; exact ok) (by rw [hW]; exact hB))
theorem kd_reset (ok : OKg g) (a d : Int32) : Kd g (fun V => f_X8_refusalOfReset V a d) (fun V => f_X8_moveHead V a d) (fun W => f_X10_resetIt W a d) := by
  have h5 := ok_b5 ok
  rcases bad_or a (show bcn g < 2 ^ 31 by omega) with ⟨b, hb, rfl⟩ | hB
  · rcases opn_or ok d with ⟨r, hr, rfl, ha⟩ | hN
    · rcases Nat.eq_zero_or_pos (edn g b) with q | q
      · refine kd_T (OK_bw ok hb hr ha (lrg_let ok hr)).1 (fun V R => cx_rRes ok R hb hr ha q) (fun V R => cx_move ok R hb hr) (fun W hW => ?_)
        have := mm_res (V := W) (b := b) (r := r) (by rw [hW]; exact ok) (by rw [hW]; exact hb) (by rw [hW]; exact hr) (by rw [hW]; exact ha) (by rw [hW]; exact q)
        rw [hW] at this
        exact MOk.of this
      · exact kd_F 4 3 (by omega) (by omega) (by omega) (by omega) (fun V R => cx_rRes_3 ok R hb hr ha q) (fun W hW => mm_res_3 (V := W) (by rw [hW]; exact ok) (by rw [hW]; exact hb) (by rw [hW]; exact hr) (by rw [hW]; exact ha) (by rw [hW]; exact q))
    · exact kd_F 3 2 (by omega) (by omega) (by omega) (by omega) (fun V R => cx_rRes_2 ok R hb hN) (fun W hW => mm_res_2 (V := W) (by rw [hW]; exact ok) (by rw [hW]; exact hb) (by rw [hW]; exact hN))
  · exact kd_F 1 1 (by omega) (by omega) (by omega) (by omega) (fun V R => cx_rRes_1 ok R hB) (fun W hW => mm_res_1 (V := W) (by rw [hW]; exact ok) (by rw [hW]; exact hB))
theorem kd_tag (ok : OKg g) (a d : Int32) : Kd g (fun V => f_X8_refusalOfTag V a d) (fun V => f_X8_putTag V a d) (fun W => f_X10_tagIt W a d) := by
  rcases cap_or a with ⟨t, ht, rfl⟩ | hB
  · rcases opn_or ok d with ⟨r, hr, rfl, ha⟩ | hN
    · by_cases q : g (335 + t) = m1
      · refine kd_T (OK_tg ok ht (.inr ⟨r, hr, ha, rfl⟩)) (fun V R => cx_rTag ok R ht hr ha q) (fun V R => cx_tag ok R ht hr ha) (fun W hW => ?_)
        have := mm_tag (V := W) (t := t) (r := r) (by rw [hW]; exact ok) ht (by rw [hW]; exact hr) (by rw [hW]; exact ha) (by rw [hW]; exact q)
        rw [hW] at this
        exact MOk.of this
      · exact kd_F 4 3 (by omega) (by omega) (by omega) (by omega) (fun V R => cx_rTag_3 ok R ht hr ha q) (fun W hW => mm_tag_3 (V := W) (by rw [hW]; exact ok) ht (by rw [hW]; exact hr) (by rw [hW]; exact ha) (by rw [hW]; exact q))
    · exact kd_F 3 2 (by omega) (by omega) (by omega) (by omega) (fun V R => cx_rTag_2 ok R ht hN) (fun W hW => mm_tag_2 (V := W) (by rw [hW]; exact ok) ht (by rw [hW]; exact hN))
  · exact kd_F 2 1 (by omega) (by omega) (by omega) (by omega) (fun V R => cx_rTag_1 hB) (fun W hW => mm_tag_1 (V := W) hB)
theorem kd_untag (ok : OKg g) (a : Int32) : Kd g (fun V => f_X8_refusalOfUntag V a) (fun V => f_X8_takeTag V a) (fun W => f_X10_untagIt W a) := by
  have F1 : ((a < nI 65 ∨ nI 90 < a) ∨ ∃ t, t < 26 ∧ a = nI (65 + t) ∧ g (335 + t) = m1) → Kd g (fun V => f_X8_refusalOfUntag V a) (fun V => f_X8_takeTag V a) (fun W => f_X10_untagIt W a) := fun h =>
    kd_F 3 1 (by omega) (by omega) (by omega) (by omega) (fun V R => cx_rUtg_1 R h) (fun W hW => mm_utg_1 (V := W) (by rw [hW]; exact h))
  rcases cap_or a with ⟨t, ht, rfl⟩ | hB
  · by_cases q : g (335 + t) = m1
    · exact F1 (.inr ⟨t, ht, rfl, q⟩)
    · refine kd_T (OK_tg ok ht (.inl rfl)) (fun V R => cx_rUtg R ht q) (fun V R => cx_utg ok R ht) (fun W hW => ?_)
      have := mm_utg (V := W) (t := t) ht (by rw [hW]; exact q)
      rw [hW] at this
      exact MOk.of this
  · exact F1 (.inl hB)
theorem kd_archive (ok : OKg g) : Kd g (fun V => some (0, V)) (fun V => f_X8_archiveUnused V) (fun W => f_X10_archiveIt W) := by
  refine kd_T (OK_ar ok) (fun V R => rfl) (fun V R => cx_ar ok R) (fun W hW => ?_)
  have := mm_ar (V := W) (by rw [hW]; exact ok)
  rw [hW] at this
  exact this
/-! by the number of the kind -/
def rfK (k : Nat) (a b c : Int32) (V : Mem) : Option (Nat × Mem) :=
  if k = 0 then f_X8_refusalOfEdit V a b c else if k = 1 then f_X8_refusalOfRevert V a else if k = 2 then f_X8_refusalOfCommit V a b else if k = 3 then f_X8_refusalOfBranching V a else if k = 4 then f_X8_refusalOfClosing V a else if k = 5 then f_X8_refusalOfMerge V a b else if k = 6 then f_X8_refusalOfKeeping V a b else if k = 7 then f_X8_refusalOfKeeping V a b else if k = 8 then f_X8_refusalOfPick V a b else if k = 9 then f_X8_refusalOfReset V a b else if k = 10 then f_X8_refusalOfTag V a b else if k = 11 then f_X8_refusalOfUntag V a else some (0, V)
def perK (k : Nat) (a b c : Int32) (V : Mem) : Option (Int32 × Mem) :=
  if k = 0 then f_X8_putLetter V a b c else if k = 1 then f_X8_dropEdits V a else if k = 2 then f_X8_commitWorking V a b else if k = 3 then f_X8_openBranch V a else if k = 4 then f_X8_dropBranch V a else if k = 5 then f_X8_mergeHeads V a b 1 else if k = 6 then f_X8_mergeHeads V a b 1 else if k = 7 then f_X8_mergeHeads V a b 0 else if k = 8 then f_X8_pickChange V a b else if k = 9 then f_X8_moveHead V a b else if k = 10 then f_X8_putTag V a b else if k = 11 then f_X8_takeTag V a else f_X8_archiveUnused V
def itK (k : Nat) (a b c : Int32) (W : Mem) : Option (Int32 × Mem) :=
  if k = 0 then f_X10_editIt W a b c else if k = 1 then f_X10_revertIt W a else if k = 2 then f_X10_commitIt W a b else if k = 3 then f_X10_branchIt W a else if k = 4 then f_X10_closeIt W a else if k = 5 then f_X10_mergeIt W a b 0 else if k = 6 then f_X10_mergeIt W a b 1 else if k = 7 then f_X10_mergeIt W a b 2 else if k = 8 then f_X10_pickIt W a b else if k = 9 then f_X10_resetIt W a b else if k = 10 then f_X10_tagIt W a b else if k = 11 then f_X10_untagIt W a else f_X10_archiveIt W
theorem kd_all (ok : OKg g) (k : Nat) (hk : k < 13) (a b c : Int32) : Kd g (rfK k a b c) (perK k a b c) (itK k a b c) := by
  rcases (show k = 0 ∨ k = 1 ∨ k = 2 ∨ k = 3 ∨ k = 4 ∨ k = 5 ∨ k = 6 ∨ k = 7 ∨ k = 8 ∨ k = 9 ∨ k = 10 ∨ k = 11 ∨ k = 12 by omega) with e | e | e | e | e | e | e | e | e | e | e | e | e <;> subst e
  · exact kd_edit ok a b c
  · exact kd_revert ok a
  · exact kd_commit ok a b
  · exact kd_branch ok a
  · exact kd_close ok a
  · exact kd_merge ok a b
  · exact kd_keep ok a b true
  · exact kd_keep ok a b false
  · exact kd_pick ok a b
  · exact kd_reset ok a b
  · exact kd_tag ok a b
  · exact kd_untag ok a
  · exact kd_archive ok
end KD
