/-! PURE, 38: the calls that change -/
theorem bh_0 {α β : Type} (r : α) (V : Mem) (h : Nat → Mem → Option β) (k : α → Mem → Option β) : bh (some (0, r, V)) h k = k r V := id rfl
theorem bh_n {α β : Type} (q : Nat) (r : α) (V : Mem) (h : Nat → Mem → Option β) (k : α → Mem → Option β) : bh (some (q + 1, r, V)) h k = h (q + 1) V := id rfl
theorem refuse_0 (V : Mem) : f_X9_refuse V 0 = some (0, V) := id rfl
theorem refuse_1 (V : Mem) : f_X9_refuse V 1 = some (1, V) := id rfl
theorem refuse_2 (V : Mem) : f_X9_refuse V 2 = some (2, V) := id rfl
theorem refuse_3 (V : Mem) : f_X9_refuse V 3 = some (3, V) := id rfl
theorem refuse_4 (V : Mem) : f_X9_refuse V 4 = some (4, V) := id rfl
theorem let_or (y : Int32) : Let y ∨ (y < nI 97 ∨ nI 122 < y) := by
  rcases bad_or y (show 123 < 2 ^ 31 by omega) with ⟨c, hc, rfl⟩ | h
  · by_cases q : 97 ≤ c
    · exact .inl ⟨c, q, by omega, rfl⟩
    · exact .inr (.inl (nI_lt (by omega) (by omega)))
  · right
    rcases h with h | h
    · left
      rw [fa_lt'] at h ⊢
      have h0 : (nI 0).toInt = 0 := by decide
      have h1 : (nI 97).toInt = 97 := by decide
      omega
    · right
      rw [fa_le'] at h
      rw [fa_lt']
      have h0 : (nI 123).toInt = 123 := by decide
      have h1 : (nI 122).toInt = 122 := by decide
      omega
theorem cap_or (y : Int32) : (∃ t, t < 26 ∧ y = nI (65 + t)) ∨ (y < nI 65 ∨ nI 90 < y) := by
  rcases bad_or y (show 91 < 2 ^ 31 by omega) with ⟨c, hc, rfl⟩ | h
  · by_cases q : 65 ≤ c
    · exact .inl ⟨c - 65, by omega, by congr 1; omega⟩
    · exact .inr (.inl (nI_lt (by omega) (by omega)))
  · right
    rcases h with h | h
    · left
      rw [fa_lt'] at h ⊢
      have h0 : (nI 0).toInt = 0 := by decide
      have h1 : (nI 65).toInt = 65 := by decide
      omega
    · right
      rw [fa_le'] at h
      rw [fa_lt']
      have h0 : (nI 91).toInt = 91 := by decide
      have h1 : (nI 90).toInt = 90 := by decide
      omega
/-- an open revision, or none -/
theorem opn_or {g : Arr} (ok : OKg g) (d : Int32) : (∃ r, r < cnt g ∧ d = nI r ∧ ¬ arc g r) ∨ Nop g d := by
  have hc := ok_c24 ok
  rcases bad_or d (show cnt g < 2 ^ 31 by omega) with ⟨r, hr, rfl⟩ | h
  · by_cases q : arc g r
    · exact .inr (.inr ⟨r, rfl, hr, q⟩)
    · exact .inl ⟨r, hr, rfl, q⟩
  · exact .inr (.inl h)
section ST
variable {V : Mem}
theorem st_F {it : Mem → Option (Int32 × Mem)} {cl : Option (Int32 × Mem)} {code : Nat} (I : Inv V) (hcl : cl = some (nI code, V)) (h0 : 0 < code) (h9 : code < 9) (hit : ∀ W, W 254 = V 254 → MNo (it W) W code) : StepR V cl (fun V => bv (f_X10_starts V) fun W => bd (it W) fun r9 V9 => bd (f_X10_changed V9 r9) fun r12 V12 => some (r12, V12)) := by
  obtain ⟨b, V4, e, t, I4⟩ := mut_F I h0 h9 hit
  exact ⟨nI code, V, b, V4, hcl, e, t, fun z => absurd z (nI_ne0 h0 (by omega)), I4⟩
theorem st_T {fx : Option (Nat × Int32 × Mem)} {cl : Option (Int32 × Mem)} {per it : Mem → Option (Int32 × Mem)} {r : Int32} {g' : Arr} (I : Inv V) (ok' : OKg g')
    (hcl : ∀ V2, fx = some (0, r, V2) → cl = some (nI 0, stv V2 265 0 r))
    (hfx : ∀ V1, f_X9_remember V = some V1 → fx = bd (per V1) fun r V2 => some (0, r, V2))
    (hper : ∀ V1, RelS V1 (V 254) → COk (per V1) V1 r g')
    (hit : ∀ W, W 254 = V 254 → MOk (it W) W r g') : StepR V cl (fun V => bv (f_X10_starts V) fun W => bd (it W) fun r9 V9 => bd (f_X10_changed V9 r9) fun r12 V12 => some (r12, V12)) := by
  obtain ⟨V2, e, M⟩ := mut_T I ok' hfx hper hit
  obtain ⟨V4, e4, t1, t2, I4⟩ := M (stv V2 265 0 r) (fun d hd => st_n hd)
  exact ⟨nI 0, _, r, V4, hcl V2 e, e4, t1, fun _ => by rw [t2, st_e, up_e], I4⟩
theorem st_edit (I : Inv V) (a d y : Int32) : StepR V (f_L_edit V a d y) (fun W => f_X10_edit W a d y) := by
  obtain ⟨ok, R⟩ := I.1
  have h5 := ok_b5 ok
  have F1 : Bad a (bcn (V 254)) ∨ Bad d 8 → StepR V (f_L_edit V a d y) (fun W => f_X10_edit W a d y) := fun h => by
    refine st_F (it := fun W => f_X10_editIt W a d y) (code := 1) I ?_ (by omega) (by omega) (fun W hW => mm_edit_1 (V := W) (by rw [hW]; exact ok) (by rw [hW]; exact h))
    unfold f_L_edit f_X9_edit
    rw [cx_rEdit_1 ok R h, bd_s, refuse_1, bw_n, bh_n]; rfl
  rcases bad_or a (show bcn (V 254) < 2 ^ 31 by omega) with ⟨b, hb, rfl⟩ | hB
  · rcases bad_or d (show 8 < 2 ^ 31 by omega) with ⟨f, hf, rfl⟩ | hB
    · rcases let_or y with hy | hy
      · refine st_T (fx := f_X9_edit V (nI b) (nI f) y) (per := fun W => f_X8_putLetter W (nI b) (nI f) y) (it := fun W => f_X10_editIt W (nI b) (nI f) y) I (OK_ed ok hb hf hy).1 (fun V2 e => ?_) (fun V1 e1 => ?_) (fun V1 R1 => cx_put ok R1 hb hf hy) (fun W hW => ?_)
        · unfold f_L_edit; rw [e, bh_0]; rfl
        · unfold f_X9_edit
          rw [cx_rEdit ok R hb hf hy, bd_s, refuse_0, bw_0, e1, bv_s]
        · have := mm_edit (V := W) (b := b) (f := f) (y := y) (by rw [hW]; exact ok) (by rw [hW]; exact hb) hf hy
          rw [hW] at this
          exact MOk.of this
      · refine st_F (it := fun W => f_X10_editIt W (nI b) (nI f) y) (code := 2) I ?_ (by omega) (by omega) (fun W hW => mm_edit_2 (V := W) (by rw [hW]; exact ok) (by rw [hW]; exact hb) hf hy)
        unfold f_L_edit f_X9_edit
        rw [cx_rEdit_2 ok R hb hf hy, bd_s, refuse_2, bw_n, bh_n]; rfl
    · exact F1 (.inr hB)
  · exact F1 (.inl hB)
theorem st_revert (I : Inv V) (a : Int32) : StepR V (f_L_revert V a) (fun W => f_X10_revert W a) := by
  obtain ⟨ok, R⟩ := I.1
  have h5 := ok_b5 ok
  rcases bad_or a (show bcn (V 254) < 2 ^ 31 by omega) with ⟨b, hb, rfl⟩ | hB
  · have hh := ok_hc ok hb
    refine st_T (fx := f_X9_revert V (nI b)) (per := fun W => f_X8_dropEdits W (nI b)) (it := fun W => f_X10_revertIt W (nI b)) I (OK_bw ok hb hh (ok_bra ok hb).1.2.2 (lrg_let ok hh)).1 (fun V2 e => ?_) (fun V1 e1 => ?_) (fun V1 R1 => cx_drop ok R1 hb) (fun W hW => ?_)
    · unfold f_L_revert; rw [e, bh_0]; rfl
    · unfold f_X9_revert
      rw [cx_rRev ok R hb, bd_s, refuse_0, bw_0, e1, bv_s]
    · have := mm_rev (V := W) (b := b) (by rw [hW]; exact ok) (by rw [hW]; exact hb)
      rw [hW] at this
      exact MOk.of this
  · refine st_F (it := fun W => f_X10_revertIt W a) (code := 1) I ?_ (by omega) (by omega) (fun W hW => mm_rev_1 (V := W) (by rw [hW]; exact ok) (by rw [hW]; exact hB))
    unfold f_L_revert f_X9_revert
    rw [cx_rRev_1 ok R hB, bd_s, refuse_1, bw_n, bh_n]; rfl
theorem st_commit (I : Inv V) (a d : Int32) : StepR V (f_L_commit V a d) (fun W => f_X10_commit W a d) := by
  obtain ⟨ok, R⟩ := I.1
  have h5 := ok_b5 ok
  have hc := ok_c24 ok
  rcases bad_or a (show bcn (V 254) < 2 ^ 31 by omega) with ⟨b, hb, rfl⟩ | hB
  · rcases bad_or d (show 10 < 2 ^ 31 by omega) with ⟨w, hw, rfl⟩ | hB
    · by_cases q : edn (V 254) b = 0 ∨ cnt (V 254) = 24
      · refine st_F (it := fun W => f_X10_commitIt W (nI b) (nI w)) (code := 3) I ?_ (by omega) (by omega) (fun W hW => mm_com_3 (V := W) (by rw [hW]; exact ok) (by rw [hW]; exact hb) hw (by rw [hW]; exact q))
        unfold f_L_commit f_X9_commit
        rw [cx_rCom_3 ok R hb hw q, bd_s, refuse_4, bw_n, bh_n]; rfl
      · have q1 : 0 < edn (V 254) b := by
          rcases Nat.eq_zero_or_pos (edn (V 254) b) with z | z
          · exact absurd (.inl z) q
          · exact z
        have q2 : cnt (V 254) < 24 := by
          rcases Nat.lt_or_ge (cnt (V 254)) 24 with z | z
          · exact z
          · exact absurd (.inr (by omega)) q
        have hh := ok_hc ok hb
        refine st_T (fx := f_X9_commit V (nI b) (nI w)) (per := fun W => f_X8_commitWorking W (nI b) (nI w)) (it := fun W => f_X10_commitIt W (nI b) (nI w)) I (OK_nr ok q2 hb hh (ok_bra ok hb).1.2.2 (.inl rfl) ⟨w, hw, rfl⟩ (fun f hf => ok_wk ok hb hf)) (fun V2 e => ?_) (fun V1 e1 => ?_) (fun V1 R1 => cx_com ok R1 hb hw q2) (fun W hW => ?_)
        · unfold f_L_commit; rw [e, bh_0]; rfl
        · unfold f_X9_commit
          rw [cx_rCom ok R hb hw q1 q2, bd_s, refuse_0, bw_0, e1, bv_s]
        · have := mm_com (V := W) (b := b) (a := w) (by rw [hW]; exact ok) (by rw [hW]; exact hb) hw (by rw [hW]; exact q1) (by rw [hW]; exact q2)
          rw [hW] at this
          exact MOk.of this
    · refine st_F (it := fun W => f_X10_commitIt W (nI b) d) (code := 2) I ?_ (by omega) (by omega) (fun W hW => mm_com_2 (V := W) (by rw [hW]; exact ok) (by rw [hW]; exact hb) hB)
      unfold f_L_commit f_X9_commit
      rw [cx_rCom_2 ok R hb hB, bd_s, refuse_2, bw_n, bh_n]; rfl
  · refine st_F (it := fun W => f_X10_commitIt W a d) (code := 1) I ?_ (by omega) (by omega) (fun W hW => mm_com_1 (V := W) (by rw [hW]; exact ok) (by rw [hW]; exact hB))
    unfold f_L_commit f_X9_commit
    rw [cx_rCom_1 ok R hB, bd_s, refuse_1, bw_n, bh_n]; rfl
theorem st_createBranch (I : Inv V) (d : Int32) : StepR V (f_L_createBranch V d) (fun W => f_X10_createBranch W d) := by
  obtain ⟨ok, R⟩ := I.1
  have h5 := ok_b5 ok
  rcases opn_or ok d with ⟨r, hr, rfl, ha⟩ | hN
  · rcases Nat.lt_or_ge (bcn (V 254)) 5 with q | q
    · refine st_T (fx := f_X9_createBranch V (nI r)) (per := fun W => f_X8_openBranch W (nI r)) (it := fun W => f_X10_branchIt W (nI r)) I (OK_op ok q hr ha) (fun V2 e => ?_) (fun V1 e1 => ?_) (fun V1 R1 => cx_opn ok R1 hr q) (fun W hW => ?_)
      · unfold f_L_createBranch; rw [e, bh_0]; rfl
      · unfold f_X9_createBranch
        rw [cx_rBra ok R hr ha q, bd_s, refuse_0, bw_0, e1, bv_s]
      · have := mm_op (V := W) (r := r) (by rw [hW]; exact ok) (by rw [hW]; exact hr) (by rw [hW]; exact ha) (by rw [hW]; exact q)
        rw [hW] at this
        exact MOk.of this
    · have q : bcn (V 254) = 5 := by omega
      refine st_F (it := fun W => f_X10_branchIt W (nI r)) (code := 2) I ?_ (by omega) (by omega) (fun W hW => mm_op_2 (V := W) (by rw [hW]; exact ok) (by rw [hW]; exact hr) (by rw [hW]; exact ha) (by rw [hW]; exact q))
      unfold f_L_createBranch f_X9_createBranch
      rw [cx_rBra_2 ok R hr ha q, bd_s, refuse_4, bw_n, bh_n]; rfl
  · refine st_F (it := fun W => f_X10_branchIt W d) (code := 1) I ?_ (by omega) (by omega) (fun W hW => mm_op_1 (V := W) (by rw [hW]; exact ok) (by rw [hW]; exact hN))
    unfold f_L_createBranch f_X9_createBranch
    rw [cx_rBra_1 ok R hN, bd_s, refuse_3, bw_n, bh_n]; rfl
theorem st_closeBranch (I : Inv V) (a : Int32) : StepR V (f_L_closeBranch V a) (fun W => f_X10_closeBranch W a) := by
  obtain ⟨ok, R⟩ := I.1
  have h5 := ok_b5 ok
  have h1 := ok_b1 ok
  rcases bad_or a (show bcn (V 254) < 2 ^ 31 by omega) with ⟨b, hb, rfl⟩ | hB
  · by_cases q : bcn (V 254) = 1
    · refine st_F (it := fun W => f_X10_closeIt W (nI b)) (code := 2) I ?_ (by omega) (by omega) (fun W hW => mm_cl_2 (V := W) (by rw [hW]; exact ok) (by rw [hW]; exact hb) (by rw [hW]; exact q))
      unfold f_L_closeBranch f_X9_closeBranch
      rw [cx_rCl_2 ok R hb q, bd_s, refuse_4, bw_n, bh_n]; rfl
    · have q : 1 < bcn (V 254) := by omega
      refine st_T (fx := f_X9_closeBranch V (nI b)) (per := fun W => f_X8_dropBranch W (nI b)) (it := fun W => f_X10_closeIt W (nI b)) I (OK_cl ok hb q) (fun V2 e => ?_) (fun V1 e1 => ?_) (fun V1 R1 => cx_cls ok R1 hb q) (fun W hW => ?_)
      · unfold f_L_closeBranch; rw [e, bh_0]; rfl
      · unfold f_X9_closeBranch
        rw [cx_rCl ok R hb q, bd_s, refuse_0, bw_0, e1, bv_s]
      · have := mm_cl (V := W) (b := b) (by rw [hW]; exact ok) (by rw [hW]; exact hb) (by rw [hW]; exact q)
        rw [hW] at this
        exact MOk.of this
  · refine st_F (it := fun W => f_X10_closeIt W a) (code := 1) I ?_ (by omega) (by omega) (fun W hW => mm_cl_1 (V := W) (by rw [hW]; exact ok) (by rw [hW]; exact hB))
    unfold f_L_closeBranch f_X9_closeBranch
    rw [cx_rCl_1 ok R hB, bd_s, refuse_1, bw_n, bh_n]; rfl
theorem OK_mr {g : Arr} (ok : OKg g) {b o : Nat} {kp : Bool} (hb : b < bcn g) (ho : o < bcn g) (hc : cnt g < 24) : OKg (nrg g b (hd g b) (nI (hd g o)) (g (2 + 12 * hd g o + 2)) (mrl g b o kp)) :=
  OK_nr ok hc hb (ok_hc ok hb) (ok_bra ok hb).1.2.2 (.inr ⟨hd g o, ok_hc ok ho, (ok_bra ok ho).1.2.2, rfl⟩) ⟨aut g (hd g o), ok_aul ok (ok_hc ok ho), ok_au ok (ok_hc ok ho)⟩ (mrl_let ok hb ho)
theorem st_merge (I : Inv V) (a d : Int32) : StepR V (f_L_merge V a d) (fun W => f_X10_merge W a d) := by
  obtain ⟨ok, R⟩ := I.1
  have h5 := ok_b5 ok
  have F1 : Bad a (bcn (V 254)) ∨ Bad d (bcn (V 254)) → StepR V (f_L_merge V a d) (fun W => f_X10_merge W a d) := fun h => by
    refine st_F (it := fun W => f_X10_mergeIt W a d 0) (code := 1) I ?_ (by omega) (by omega) (fun W hW => mm_mrg_1 (V := W) (by rw [hW]; exact ok) (by rw [hW]; exact h))
    unfold f_L_merge f_X9_merge
    rw [cx_rMrg_1 ok R h, bd_s, refuse_1, bw_n, bh_n]; rfl
  rcases bad_or a (show bcn (V 254) < 2 ^ 31 by omega) with ⟨b, hb, rfl⟩ | hB
  · rcases bad_or d (show bcn (V 254) < 2 ^ 31 by omega) with ⟨o, ho, rfl⟩ | hB
    · by_cases hne : b = o
      · subst hne
        refine st_F (it := fun W => f_X10_mergeIt W (nI b) (nI b) 0) (code := 2) I ?_ (by omega) (by omega) (fun W hW => mm_mrg_2 (V := W) (by rw [hW]; exact ok) (by rw [hW]; exact hb))
        unfold f_L_merge f_X9_merge
        rw [cx_rMrg_2 ok R hb, bd_s, refuse_2, bw_n, bh_n]; rfl
      · by_cases hm : mayC (V 254) b o
        · refine st_T (fx := f_X9_merge V (nI b) (nI o)) (per := fun W => f_X8_mergeHeads W (nI b) (nI o) 1) (it := fun W => f_X10_mergeIt W (nI b) (nI o) 0) I (OK_mr (kp := true) ok hb ho hm.1.2.2.2) (fun V2 e => ?_) (fun V1 e1 => ?_) (fun V1 R1 => cx_mrg (kp := true) ok R1 hb ho hm.1.2.2.2 (ok_bra ok hb).1.2.2) (fun W hW => ?_)
          · unfold f_L_merge; rw [e, bh_0]; rfl
          · unfold f_X9_merge
            rw [(cx_rMrg ok R hb ho hne).1 hm, bd_s, refuse_0, bw_0, e1, bv_s]
          · have := mm_mrg (V := W) (b := b) (o := o) (kp := true) (keeps := nI 0) (by rw [hW]; exact ok) (by rw [hW]; exact hb) (by rw [hW]; exact ho) hne (by rw [hW]; exact hm.1) (.inr (.inr ⟨rfl, by rw [hW]; exact hm.2⟩))
            rw [hW] at this
            exact this
        · refine st_F (it := fun W => f_X10_mergeIt W (nI b) (nI o) 0) (code := 3) I ?_ (by omega) (by omega) (fun W hW => mm_mrg_3 (V := W) (keeps := nI 0) (by rw [hW]; exact ok) (by rw [hW]; exact hb) (by rw [hW]; exact ho) hne ?_)
          · unfold f_L_merge f_X9_merge
            rw [(cx_rMrg ok R hb ho hne).2 hm, bd_s, refuse_4, bw_n, bh_n]; rfl
          · rw [hW]
            by_cases z : mayM (V 254) b o
            · refine .inr ⟨rfl, ?_⟩
              rcases Nat.eq_zero_or_pos (fb_ct (cfl (V 254) b o) 8) with y | y
              · exact absurd ⟨z, y⟩ hm
              · exact y
            · exact .inl z
    · exact F1 (.inr hB)
  · exact F1 (.inl hB)
theorem st_keep (I : Inv V) (a d : Int32) (kp : Bool) : StepR V (f_L_mergeKeeping V a d (kpI kp)) (fun W => f_X10_mergeKeeping W a d (kpI kp)) := by
  obtain ⟨ok, R⟩ := I.1
  have h5 := ok_b5 ok
  have md : (fun W => f_X10_mergeKeeping W a d (kpI kp)) = fun V => bv (f_X10_starts V) fun W => bd (f_X10_mergeIt W a d (if kp then nI 1 else nI 2)) fun r9 V9 => bd (f_X10_changed V9 r9) fun r12 V12 => some (r12, V12) := by
    funext W
    unfold f_X10_mergeKeeping kpI
    cases kp
    · congr 1
    · congr 1
  rw [md]
  have F1 : Bad a (bcn (V 254)) ∨ Bad d (bcn (V 254)) → StepR V (f_L_mergeKeeping V a d (kpI kp)) (fun V => bv (f_X10_starts V) fun W => bd (f_X10_mergeIt W a d (if kp then nI 1 else nI 2)) fun r9 V9 => bd (f_X10_changed V9 r9) fun r12 V12 => some (r12, V12)) := fun h => by
    refine st_F (it := fun W => f_X10_mergeIt W a d (if kp then nI 1 else nI 2)) (code := 1) I ?_ (by omega) (by omega) (fun W hW => mm_mrg_1 (V := W) (by rw [hW]; exact ok) (by rw [hW]; exact h))
    unfold f_L_mergeKeeping f_X9_mergeKeeping
    rw [cx_keep_1 ok R h, bd_s, refuse_1, bw_n, bh_n]; rfl
  rcases bad_or a (show bcn (V 254) < 2 ^ 31 by omega) with ⟨b, hb, rfl⟩ | hB
  · rcases bad_or d (show bcn (V 254) < 2 ^ 31 by omega) with ⟨o, ho, rfl⟩ | hB
    · by_cases hne : b = o
      · subst hne
        refine st_F (it := fun W => f_X10_mergeIt W (nI b) (nI b) (if kp then nI 1 else nI 2)) (code := 2) I ?_ (by omega) (by omega) (fun W hW => mm_mrg_2 (V := W) (by rw [hW]; exact ok) (by rw [hW]; exact hb))
        unfold f_L_mergeKeeping f_X9_mergeKeeping
        rw [cx_keep_2 ok R hb, bd_s, refuse_2, bw_n, bh_n]; rfl
      · by_cases hm : mayM (V 254) b o
        · refine st_T (fx := f_X9_mergeKeeping V (nI b) (nI o) (kpI kp)) (per := fun W => f_X8_mergeHeads W (nI b) (nI o) (kpI kp)) (it := fun W => f_X10_mergeIt W (nI b) (nI o) (if kp then nI 1 else nI 2)) I (OK_mr (kp := kp) ok hb ho hm.2.2.2) (fun V2 e => ?_) (fun V1 e1 => ?_) (fun V1 R1 => cx_mrg (kp := kp) ok R1 hb ho hm.2.2.2 (ok_bra ok hb).1.2.2) (fun W hW => ?_)
          · unfold f_L_mergeKeeping; rw [e, bh_0]; rfl
          · unfold f_X9_mergeKeeping
            rw [(cx_keep ok R hb ho hne).1 hm, bd_s, refuse_0, bw_0, e1, bv_s]
          · have := mm_mrg (V := W) (b := b) (o := o) (kp := kp) (keeps := if kp then nI 1 else nI 2) (by rw [hW]; exact ok) (by rw [hW]; exact hb) (by rw [hW]; exact ho) hne (by rw [hW]; exact hm) (by cases kp; exact .inr (.inl ⟨rfl, rfl⟩); exact .inl ⟨rfl, rfl⟩)
            rw [hW] at this
            exact this
        · refine st_F (it := fun W => f_X10_mergeIt W (nI b) (nI o) (if kp then nI 1 else nI 2)) (code := 3) I ?_ (by omega) (by omega) (fun W hW => mm_mrg_3 (V := W) (by rw [hW]; exact ok) (by rw [hW]; exact hb) (by rw [hW]; exact ho) hne (by rw [hW]; exact .inl hm))
          unfold f_L_mergeKeeping f_X9_mergeKeeping
          rw [(cx_keep ok R hb ho hne).2 hm, bd_s, refuse_4, bw_n, bh_n]; rfl
    · exact F1 (.inr hB)
  · exact F1 (.inl hB)
theorem st_pick (I : Inv V) (a d : Int32) : StepR V (f_L_pick V a d) (fun W => f_X10_pick W a d) := by
  obtain ⟨ok, R⟩ := I.1
  have h5 := ok_b5 ok
  rcases bad_or a (show bcn (V 254) < 2 ^ 31 by omega) with ⟨b, hb, rfl⟩ | hB
  · rcases opn_or ok d with ⟨r, hr, rfl, ha⟩ | hN
    · by_cases q : r = 0 ∨ 0 < fb_ct (pkb (V 254) b r) 8
      · refine st_F (it := fun W => f_X10_pickIt W (nI b) (nI r)) (code := 3) I ?_ (by omega) (by omega) (fun W hW => mm_pick_3 (V := W) (by rw [hW]; exact ok) (by rw [hW]; exact hb) (by rw [hW]; exact hr) (by rw [hW]; exact ha) (by rw [hW]; exact q))
        unfold f_L_pick f_X9_pick
        rw [cx_rPk_3 ok R hb hr ha q, bd_s, refuse_4, bw_n, bh_n]; rfl
      · have q1 : 0 < r := by
          rcases Nat.eq_zero_or_pos r with z | z
          · exact absurd (.inl z) q
          · exact z
        have q2 : fb_ct (pkb (V 254) b r) 8 = 0 := by
          rcases Nat.eq_zero_or_pos (fb_ct (pkb (V 254) b r) 8) with z | z
          · exact z
          · exact absurd (.inr z) q
        refine st_T (fx := f_X9_pick V (nI b) (nI r)) (per := fun W => f_X8_pickChange W (nI b) (nI r)) (it := fun W => f_X10_pickIt W (nI b) (nI r)) I (OK_bw ok hb (ok_hc ok hb) (ok_bra ok hb).1.2.2 (pkl_let ok hb hr)).1 (fun V2 e => ?_) (fun V1 e1 => ?_) (fun V1 R1 => cx_pk ok R1 hb hr q1) (fun W hW => ?_)
        · unfold f_L_pick; rw [e, bh_0]; rfl
        · unfold f_X9_pick
          rw [cx_rPk ok R hb hr ha q1 q2, bd_s, refuse_0, bw_0, e1, bv_s]
        · have := mm_pick (V := W) (b := b) (r := r) (by rw [hW]; exact ok) (by rw [hW]; exact hb) (by rw [hW]; exact hr) (by rw [hW]; exact ha) q1 (by rw [hW]; exact q2)
          rw [hW] at this
          exact MOk.of this
    · refine st_F (it := fun W => f_X10_pickIt W (nI b) d) (code := 2) I ?_ (by omega) (by omega) (fun W hW => mm_pick_2 (V := W) (by rw [hW]; exact ok) (by rw [hW]; exact hb) (by rw [hW]; exact hN))
      unfold f_L_pick f_X9_pick
      rw [cx_rPk_2 ok R hb hN, bd_s, refuse_3, bw_n, bh_n]; rfl
  · refine st_F (it := fun W => f_X10_pickIt W a d) (code := 1) I ?_ (by omega) (by omega) (fun W hW => mm_pick_1 (V := W) (by rw [hW]; exact ok) (by rw [hW]; exact hB))
    unfold f_L_pick f_X9_pick
    rw [cx_rPk_1 ok R hB, bd_s, refuse_1, bw_n, bh_n]; rfl
theorem st_reset (I : Inv V) (a d : Int32) : StepR V (f_L_reset V a d) (fun W => f_X10_reset W a d) := by
  obtain ⟨ok, R⟩ := I.1
  have h5 := ok_b5 ok
  rcases bad_or a (show bcn (V 254) < 2 ^ 31 by omega) with ⟨b, hb, rfl⟩ | hB
  · rcases opn_or ok d with ⟨r, hr, rfl, ha⟩ | hN
    · rcases Nat.eq_zero_or_pos (edn (V 254) b) with q | q
      · refine st_T (fx := f_X9_reset V (nI b) (nI r)) (per := fun W => f_X8_moveHead W (nI b) (nI r)) (it := fun W => f_X10_resetIt W (nI b) (nI r)) I (OK_bw ok hb hr ha (lrg_let ok hr)).1 (fun V2 e => ?_) (fun V1 e1 => ?_) (fun V1 R1 => cx_move ok R1 hb hr) (fun W hW => ?_)
        · unfold f_L_reset; rw [e, bh_0]; rfl
        · unfold f_X9_reset
          rw [cx_rRes ok R hb hr ha q, bd_s, refuse_0, bw_0, e1, bv_s]
        · have := mm_res (V := W) (b := b) (r := r) (by rw [hW]; exact ok) (by rw [hW]; exact hb) (by rw [hW]; exact hr) (by rw [hW]; exact ha) (by rw [hW]; exact q)
          rw [hW] at this
          exact MOk.of this
      · refine st_F (it := fun W => f_X10_resetIt W (nI b) (nI r)) (code := 3) I ?_ (by omega) (by omega) (fun W hW => mm_res_3 (V := W) (by rw [hW]; exact ok) (by rw [hW]; exact hb) (by rw [hW]; exact hr) (by rw [hW]; exact ha) (by rw [hW]; exact q))
        unfold f_L_reset f_X9_reset
        rw [cx_rRes_3 ok R hb hr ha q, bd_s, refuse_4, bw_n, bh_n]; rfl
    · refine st_F (it := fun W => f_X10_resetIt W (nI b) d) (code := 2) I ?_ (by omega) (by omega) (fun W hW => mm_res_2 (V := W) (by rw [hW]; exact ok) (by rw [hW]; exact hb) (by rw [hW]; exact hN))
      unfold f_L_reset f_X9_reset
      rw [cx_rRes_2 ok R hb hN, bd_s, refuse_3, bw_n, bh_n]; rfl
  · refine st_F (it := fun W => f_X10_resetIt W a d) (code := 1) I ?_ (by omega) (by omega) (fun W hW => mm_res_1 (V := W) (by rw [hW]; exact ok) (by rw [hW]; exact hB))
    unfold f_L_reset f_X9_reset
    rw [cx_rRes_1 ok R hB, bd_s, refuse_1, bw_n, bh_n]; rfl
theorem st_addTag (I : Inv V) (a d : Int32) : StepR V (f_L_addTag V a d) (fun W => f_X10_addTag W a d) := by
  obtain ⟨ok, R⟩ := I.1
  rcases cap_or a with ⟨t, ht, rfl⟩ | hB
  · rcases opn_or ok d with ⟨r, hr, rfl, ha⟩ | hN
    · by_cases q : V 254 (335 + t) = m1
      · refine st_T (fx := f_X9_addTag V (nI (65 + t)) (nI r)) (per := fun W => f_X8_putTag W (nI (65 + t)) (nI r)) (it := fun W => f_X10_tagIt W (nI (65 + t)) (nI r)) I (OK_tg ok ht (.inr ⟨r, hr, ha, rfl⟩)) (fun V2 e => ?_) (fun V1 e1 => ?_) (fun V1 R1 => cx_tag ok R1 ht hr ha) (fun W hW => ?_)
        · unfold f_L_addTag; rw [e, bh_0]; rfl
        · unfold f_X9_addTag
          rw [cx_rTag ok R ht hr ha q, bd_s, refuse_0, bw_0, e1, bv_s]
        · have := mm_tag (V := W) (t := t) (r := r) (by rw [hW]; exact ok) ht (by rw [hW]; exact hr) (by rw [hW]; exact ha) (by rw [hW]; exact q)
          rw [hW] at this
          exact MOk.of this
      · refine st_F (it := fun W => f_X10_tagIt W (nI (65 + t)) (nI r)) (code := 3) I ?_ (by omega) (by omega) (fun W hW => mm_tag_3 (V := W) (by rw [hW]; exact ok) ht (by rw [hW]; exact hr) (by rw [hW]; exact ha) (by rw [hW]; exact q))
        unfold f_L_addTag f_X9_addTag
        rw [cx_rTag_3 ok R ht hr ha q, bd_s, refuse_4, bw_n, bh_n]; rfl
    · refine st_F (it := fun W => f_X10_tagIt W (nI (65 + t)) d) (code := 2) I ?_ (by omega) (by omega) (fun W hW => mm_tag_2 (V := W) (by rw [hW]; exact ok) ht (by rw [hW]; exact hN))
      unfold f_L_addTag f_X9_addTag
      rw [cx_rTag_2 ok R ht hN, bd_s, refuse_3, bw_n, bh_n]; rfl
  · refine st_F (it := fun W => f_X10_tagIt W a d) (code := 1) I ?_ (by omega) (by omega) (fun W hW => mm_tag_1 (V := W) hB)
    unfold f_L_addTag f_X9_addTag
    rw [cx_rTag_1 hB, bd_s, refuse_2, bw_n, bh_n]; rfl
theorem st_removeTag (I : Inv V) (a : Int32) : StepR V (f_L_removeTag V a) (fun W => f_X10_removeTag W a) := by
  obtain ⟨ok, R⟩ := I.1
  have F1 : ((a < nI 65 ∨ nI 90 < a) ∨ ∃ t, t < 26 ∧ a = nI (65 + t) ∧ V 254 (335 + t) = m1) → StepR V (f_L_removeTag V a) (fun W => f_X10_removeTag W a) := fun h => by
    refine st_F (it := fun W => f_X10_untagIt W a) (code := 1) I ?_ (by omega) (by omega) (fun W hW => mm_utg_1 (V := W) (by rw [hW]; exact h))
    unfold f_L_removeTag f_X9_removeTag
    rw [cx_rUtg_1 R h, bd_s, refuse_3, bw_n, bh_n]; rfl
  rcases cap_or a with ⟨t, ht, rfl⟩ | hB
  · by_cases q : V 254 (335 + t) = m1
    · exact F1 (.inr ⟨t, ht, rfl, q⟩)
    · refine st_T (fx := f_X9_removeTag V (nI (65 + t))) (per := fun W => f_X8_takeTag W (nI (65 + t))) (it := fun W => f_X10_untagIt W (nI (65 + t))) I (OK_tg ok ht (.inl rfl)) (fun V2 e => ?_) (fun V1 e1 => ?_) (fun V1 R1 => cx_utg ok R1 ht) (fun W hW => ?_)
      · unfold f_L_removeTag; rw [e, bh_0]; rfl
      · unfold f_X9_removeTag
        rw [cx_rUtg R ht q, bd_s, refuse_0, bw_0, e1, bv_s]
      · have := mm_utg (V := W) (t := t) ht (by rw [hW]; exact q)
        rw [hW] at this
        exact MOk.of this
  · exact F1 (.inl hB)
/-- archive has no exceptions: both answer alike -/
theorem st_archive (I : Inv V) : ∃ r V2 V4, f_X9_archive V = some (r, V2) ∧ f_X10_archive V2 = some (r, V4) ∧ Inv V4 := by
  obtain ⟨ok, R⟩ := I.1
  obtain ⟨V2, e, M⟩ := mut_T (fx := bd (f_X9_archive V) fun r V2 => some (0, r, V2)) (per := fun W => f_X8_archiveUnused W) (it := fun W => f_X10_archiveIt W) (r := nI (arn (V 254) (usd (V 254)) (cnt (V 254)))) (g' := arg (V 254) (usd (V 254)) (cnt (V 254))) I (OK_ar ok) (fun V1 e1 => by
      unfold f_X9_archive
      rw [e1, bv_s]
      cases f_X8_archiveUnused V1 with
      | none => rfl
      | some y => rfl) (fun V1 R1 => cx_ar ok R1) (fun W hW => by
      have := mm_ar (V := W) (by rw [hW]; exact ok)
      rw [hW] at this
      exact this)
  obtain ⟨V4, e4, t1, t2, I4⟩ := M V2 (fun d hd => rfl)
  refine ⟨_, V2, V4, ?_, e4, I4⟩
  cases q : f_X9_archive V with
  | none => rw [q] at e; exact absurd e (by intro h; cases h)
  | some y =>
    rw [q] at e
    have e : some (0, y.1, y.2) = some (0, nI (arn (V 254) (usd (V 254)) (cnt (V 254))), V2) := e
    have e1 : y.1 = _ := congrArg (fun z : Nat × Int32 × Mem => z.2.1) (Option.some.inj e)
    have e2 : y.2 = V2 := congrArg (fun z : Nat × Int32 × Mem => z.2.2) (Option.some.inj e)
    show some (y.1, y.2) = _
    rw [e1, e2]
end ST
