/-! PURE, 61: the law's cases, its loop -/
theorem th_ok (V : Mem) : f_X10_thrown V = some (V 253 4, V) := id rfl
theorem law_e {k b : Int32} {V : Mem} (h : k = nI 0 → V 265 0 = b) : (if k = 0 then (if (lg_cmp ((V 265 0).toInt64) (b.toInt64)) = 0 then some V else none) else some V) = some V := by
  by_cases q : k = 0
  · rw [if_pos q, h q, if_pos ((lg_cmp_eq _ _).mpr rfl)]
  · rw [if_neg q]
theorem law_b {k b : Int32} {V : Mem} (h : k = nI 0 → V 265 0 = b) (hb : b = 0 ∨ b = 1) : (if k = 0 then (if b = 0 then (if (lg_cmp ((V 265 0).toInt64) 0) = 0 then some V else none) else (if (lg_cmp ((V 265 0).toInt64) 1) = 0 then some V else none)) else some V) = some V := by
  by_cases q : k = 0
  · rw [if_pos q, h q]
    rcases hb with e | e
    · rw [e, if_pos rfl, if_pos ((lg_cmp_eq _ _).mpr (by decide))]
    · rw [e, if_neg (by decide), if_pos ((lg_cmp_eq _ _).mpr (by decide))]
  · rw [if_neg q]
def B01 (o : Option (Int32 × Mem)) : Prop := ∀ b V, o = some (b, V) → b = 0 ∨ b = 1
theorem b01_0 {V : Mem} : B01 (some (0, V)) := fun b V h => .inl (congrArg Prod.fst (Option.some.inj h)).symm
theorem b01_1 {V : Mem} : B01 (some (1, V)) := fun b V h => .inr (congrArg Prod.fst (Option.some.inj h)).symm
theorem b01_n : B01 none := fun b V h => nomatch h
theorem b01_v {r : Int32} {V : Mem} (h : r = 0 ∨ r = 1) : B01 (some (r, V)) := fun b V e => by
  have e2 : r = b := congrArg Prod.fst (Option.some.inj e)
  rw [← e2]; exact h
theorem b01_bd {α : Type} {o : Option (α × Mem)} {k : α → Mem → Option (Int32 × Mem)} (h : ∀ r V, B01 (k r V)) : B01 (bd o k) := by
  cases o with
  | none => exact b01_n
  | some z => exact h z.1 z.2
theorem b_isArchived {W : Mem} {a : Int32} : B01 (f_X10_isArchived W a) := by
  unfold f_X10_isArchived
  rw [lt_d]
  refine b01_bd fun r V => ?_
  split
  · exact b01_bd fun _ _ => b01_0
  · refine b01_bd fun r V => ?_
    split
    · split
      · exact b01_1
      · exact b01_0
    · exact b01_n
theorem b_isAncestor {W : Mem} {a d : Int32} : B01 (f_X10_isAncestor W a d) := by
  unfold f_X10_isAncestor
  refine b01_bd fun r V => ?_
  split
  · exact b01_0
  · refine b01_bd fun r V => ?_
    split
    · exact b01_1
    · exact b01_0
theorem b_canMerge {W : Mem} {a d : Int32} : B01 (f_X10_canMerge W a d) := by
  unfold f_X10_canMerge
  refine b01_bd fun r V => ?_
  split
  · exact b01_0
  · refine b01_bd fun r V => ?_
    split
    · exact b01_0
    · refine b01_bd fun r V => ?_
      split
      · exact b01_1
      · exact b01_0
theorem b_canPick {W : Mem} {a d : Int32} : B01 (f_X10_canPick W a d) := by
  have E : ∀ V36 : Mem, B01 (if (V36 253 4) = 0 then (if d ≤ 0 then some (0, V36) else bd (f_X10_isOpen V36 d) fun r49 V49 => if r49 = 0 then some (0, V49) else bd (f_X10_mayPick V49 a d) fun r58 V58 => if r58 = 0 then some (0, V58) else some (1, V58)) else some (0, V36)) := fun V36 => by
    split
    · split
      · exact b01_0
      · refine b01_bd fun r V => ?_
        split
        · exact b01_0
        · refine b01_bd fun r V => ?_
          split
          · exact b01_0
          · exact b01_1
    · exact b01_0
  unfold f_X10_canPick
  rw [lt_d]
  refine b01_bd fun r V => ?_
  rw [jn_d]
  split
  · exact b01_bd fun _ V => E V
  · refine b01_bd fun r V => ?_
    split
    · exact b01_bd fun _ V => E V
    · exact E V
theorem b_isEdited {W : Mem} {a d : Int32} : B01 (f_X10_isEdited W a d) := by
  have E : ∀ V20 : Mem, B01 (bd (f_X10_throwing V20 1) fun r22 V22 => some (0, V22)) := fun V20 => b01_bd fun _ _ => b01_0
  unfold f_X10_isEdited
  rw [lt_d]
  refine b01_bd fun r V => ?_
  rw [jn_d]
  split
  · exact E V
  · refine b01_bd fun r V => ?_
    split
    · exact E V
    · refine b01_bd fun r V => ?_
      split
      · rename_i h; exact b01_v h
      · exact b01_n
section LC
variable {V : Mem} {xs : Nat → Int32} {N : Nat} {x4 : Int32}
theorem cC0 (I : Inv V) (h1 : ib (x4 + 1) N = true) (h2 : ib (x4 + 2) N = true) (h3 : ib (x4 + 3) N = true) : ∃ V', f_law_C0 xs N V x4 = some V' ∧ Inv V' := by
  obtain ⟨k, V3, b, V4, e1, e2, t, u, I4⟩ := st_edit I (xs (x4 + 1).toNatClampNeg) (xs (x4 + 2).toNatClampNeg) ((((xs (x4 + 3).toNatClampNeg) : Int32).toUInt32 % 65536).toInt32)
  have e2 : f_X10_edit V3 (xs (x4 + 1).toNatClampNeg) (xs (x4 + 2).toNatClampNeg) ((((xs (x4 + 3).toNatClampNeg) : Int32).toUInt32 % 65536).toInt32) = some (b, V4) := e2
  refine ⟨V4, ?_, I4⟩
  unfold f_law_C0
  rw [if_pos h1, if_pos h2, if_pos h3, e1, bd_s, if_pos h1, if_pos h2, if_pos h3, e2, bd_s, th_ok, bd_s, if_pos t, jn_d]
  exact law_e u
theorem cC1 (I : Inv V) (h1 : ib (x4 + 1) N = true) (h2 : ib (x4 + 2) N = true) (h3 : ib (x4 + 3) N = true) : ∃ V', f_law_C1 xs N V x4 = some V' ∧ Inv V' := by
  obtain ⟨k, V3, b, V4, e1, e2, t, u, I4⟩ := st_revert I (xs (x4 + 1).toNatClampNeg)
  have e2 : f_X10_revert V3 (xs (x4 + 1).toNatClampNeg) = some (b, V4) := e2
  refine ⟨V4, ?_, I4⟩
  unfold f_law_C1
  rw [if_pos h1, e1, bd_s, if_pos h1, e2, bd_s, th_ok, bd_s, if_pos t, jn_d]
  exact law_e u
theorem cC2 (I : Inv V) (h1 : ib (x4 + 1) N = true) (h2 : ib (x4 + 2) N = true) (h3 : ib (x4 + 3) N = true) : ∃ V', f_law_C2 xs N V x4 = some V' ∧ Inv V' := by
  obtain ⟨k, V3, b, V4, e1, e2, t, u, I4⟩ := st_commit I (xs (x4 + 1).toNatClampNeg) (xs (x4 + 2).toNatClampNeg)
  have e2 : f_X10_commit V3 (xs (x4 + 1).toNatClampNeg) (xs (x4 + 2).toNatClampNeg) = some (b, V4) := e2
  refine ⟨V4, ?_, I4⟩
  unfold f_law_C2
  rw [if_pos h1, if_pos h2, e1, bd_s, if_pos h1, if_pos h2, e2, bd_s, th_ok, bd_s, if_pos t, jn_d]
  exact law_e u
theorem cC3 (I : Inv V) (h1 : ib (x4 + 1) N = true) (h2 : ib (x4 + 2) N = true) (h3 : ib (x4 + 3) N = true) : ∃ V', f_law_C3 xs N V x4 = some V' ∧ Inv V' := by
  obtain ⟨k, V3, b, V4, e1, e2, t, u, I4⟩ := st_createBranch I (xs (x4 + 1).toNatClampNeg)
  have e2 : f_X10_createBranch V3 (xs (x4 + 1).toNatClampNeg) = some (b, V4) := e2
  refine ⟨V4, ?_, I4⟩
  unfold f_law_C3
  rw [if_pos h1, e1, bd_s, if_pos h1, e2, bd_s, th_ok, bd_s, if_pos t, jn_d]
  exact law_e u
theorem cC4 (I : Inv V) (h1 : ib (x4 + 1) N = true) (h2 : ib (x4 + 2) N = true) (h3 : ib (x4 + 3) N = true) : ∃ V', f_law_C4 xs N V x4 = some V' ∧ Inv V' := by
  obtain ⟨k, V3, b, V4, e1, e2, t, u, I4⟩ := st_closeBranch I (xs (x4 + 1).toNatClampNeg)
  have e2 : f_X10_closeBranch V3 (xs (x4 + 1).toNatClampNeg) = some (b, V4) := e2
  refine ⟨V4, ?_, I4⟩
  unfold f_law_C4
  rw [if_pos h1, e1, bd_s, if_pos h1, e2, bd_s, th_ok, bd_s, if_pos t, jn_d]
  exact law_e u
theorem cC5 (I : Inv V) (h1 : ib (x4 + 1) N = true) (h2 : ib (x4 + 2) N = true) (h3 : ib (x4 + 3) N = true) : ∃ V', f_law_C5 xs N V x4 = some V' ∧ Inv V' := by
  obtain ⟨k, V3, b, V4, e1, e2, t, u, I4⟩ := st_merge I (xs (x4 + 1).toNatClampNeg) (xs (x4 + 2).toNatClampNeg)
  have e2 : f_X10_merge V3 (xs (x4 + 1).toNatClampNeg) (xs (x4 + 2).toNatClampNeg) = some (b, V4) := e2
  refine ⟨V4, ?_, I4⟩
  unfold f_law_C5
  rw [if_pos h1, if_pos h2, e1, bd_s, if_pos h1, if_pos h2, e2, bd_s, th_ok, bd_s, if_pos t, jn_d]
  exact law_e u
theorem cC6 (I : Inv V) (h1 : ib (x4 + 1) N = true) (h2 : ib (x4 + 2) N = true) (h3 : ib (x4 + 3) N = true) : ∃ V', f_law_C6 xs N V x4 = some V' ∧ Inv V' := by
  by_cases q : xs (x4 + 3).toNatClampNeg = 0
  · obtain ⟨k, V3, b, V4, e1, e2, t, u, I4⟩ := st_keep I (xs (x4 + 1).toNatClampNeg) (xs (x4 + 2).toNatClampNeg) false
    have e1 : f_L_mergeKeeping V (xs (x4 + 1).toNatClampNeg) (xs (x4 + 2).toNatClampNeg) 0 = some (k, V3) := e1
    have e2 : f_X10_mergeKeeping V3 (xs (x4 + 1).toNatClampNeg) (xs (x4 + 2).toNatClampNeg) 0 = some (b, V4) := e2
    refine ⟨V4, ?_, I4⟩
    unfold f_law_C6
    rw [if_pos h1, if_pos h2, if_pos h3, jn_d, if_pos q]
    show bd (f_L_mergeKeeping V (xs (x4 + 1).toNatClampNeg) (xs (x4 + 2).toNatClampNeg) 0) _ = _
    rw [e1, bd_s, if_pos h1, if_pos h2, if_pos h3, jn_d, if_pos q]
    show bd (f_X10_mergeKeeping V3 (xs (x4 + 1).toNatClampNeg) (xs (x4 + 2).toNatClampNeg) 0) _ = _
    rw [e2, bd_s, th_ok, bd_s, if_pos t, jn_d]
    exact law_e u
  · obtain ⟨k, V3, b, V4, e1, e2, t, u, I4⟩ := st_keep I (xs (x4 + 1).toNatClampNeg) (xs (x4 + 2).toNatClampNeg) true
    have e1 : f_L_mergeKeeping V (xs (x4 + 1).toNatClampNeg) (xs (x4 + 2).toNatClampNeg) 1 = some (k, V3) := e1
    have e2 : f_X10_mergeKeeping V3 (xs (x4 + 1).toNatClampNeg) (xs (x4 + 2).toNatClampNeg) 1 = some (b, V4) := e2
    refine ⟨V4, ?_, I4⟩
    unfold f_law_C6
    rw [if_pos h1, if_pos h2, if_pos h3, jn_d, if_neg q]
    show bd (f_L_mergeKeeping V (xs (x4 + 1).toNatClampNeg) (xs (x4 + 2).toNatClampNeg) 1) _ = _
    rw [e1, bd_s, if_pos h1, if_pos h2, if_pos h3, jn_d, if_neg q]
    show bd (f_X10_mergeKeeping V3 (xs (x4 + 1).toNatClampNeg) (xs (x4 + 2).toNatClampNeg) 1) _ = _
    rw [e2, bd_s, th_ok, bd_s, if_pos t, jn_d]
    exact law_e u
theorem cC7 (I : Inv V) (h1 : ib (x4 + 1) N = true) (h2 : ib (x4 + 2) N = true) (h3 : ib (x4 + 3) N = true) : ∃ V', f_law_C7 xs N V x4 = some V' ∧ Inv V' := by
  obtain ⟨k, V3, b, V4, e1, e2, t, u, I4⟩ := st_pick I (xs (x4 + 1).toNatClampNeg) (xs (x4 + 2).toNatClampNeg)
  have e2 : f_X10_pick V3 (xs (x4 + 1).toNatClampNeg) (xs (x4 + 2).toNatClampNeg) = some (b, V4) := e2
  refine ⟨V4, ?_, I4⟩
  unfold f_law_C7
  rw [if_pos h1, if_pos h2, e1, bd_s, if_pos h1, if_pos h2, e2, bd_s, th_ok, bd_s, if_pos t, jn_d]
  exact law_e u
theorem cC8 (I : Inv V) (h1 : ib (x4 + 1) N = true) (h2 : ib (x4 + 2) N = true) (h3 : ib (x4 + 3) N = true) : ∃ V', f_law_C8 xs N V x4 = some V' ∧ Inv V' := by
  obtain ⟨k, V3, b, V4, e1, e2, t, u, I4⟩ := st_reset I (xs (x4 + 1).toNatClampNeg) (xs (x4 + 2).toNatClampNeg)
  have e2 : f_X10_reset V3 (xs (x4 + 1).toNatClampNeg) (xs (x4 + 2).toNatClampNeg) = some (b, V4) := e2
  refine ⟨V4, ?_, I4⟩
  unfold f_law_C8
  rw [if_pos h1, if_pos h2, e1, bd_s, if_pos h1, if_pos h2, e2, bd_s, th_ok, bd_s, if_pos t, jn_d]
  exact law_e u
theorem cC9 (I : Inv V) (h1 : ib (x4 + 1) N = true) (h2 : ib (x4 + 2) N = true) (h3 : ib (x4 + 3) N = true) : ∃ V', f_law_C9 xs N V x4 = some V' ∧ Inv V' := by
  obtain ⟨k, V3, b, V4, e1, e2, t, u, I4⟩ := st_addTag I ((((xs (x4 + 1).toNatClampNeg) : Int32).toUInt32 % 65536).toInt32) (xs (x4 + 2).toNatClampNeg)
  have e2 : f_X10_addTag V3 ((((xs (x4 + 1).toNatClampNeg) : Int32).toUInt32 % 65536).toInt32) (xs (x4 + 2).toNatClampNeg) = some (b, V4) := e2
  refine ⟨V4, ?_, I4⟩
  unfold f_law_C9
  rw [if_pos h1, if_pos h2, e1, bd_s, if_pos h1, if_pos h2, e2, bd_s, th_ok, bd_s, if_pos t, jn_d]
  exact law_e u
theorem cC10 (I : Inv V) (h1 : ib (x4 + 1) N = true) (h2 : ib (x4 + 2) N = true) (h3 : ib (x4 + 3) N = true) : ∃ V', f_law_C10 xs N V x4 = some V' ∧ Inv V' := by
  obtain ⟨k, V3, b, V4, e1, e2, t, u, I4⟩ := st_removeTag I ((((xs (x4 + 1).toNatClampNeg) : Int32).toUInt32 % 65536).toInt32)
  have e2 : f_X10_removeTag V3 ((((xs (x4 + 1).toNatClampNeg) : Int32).toUInt32 % 65536).toInt32) = some (b, V4) := e2
  refine ⟨V4, ?_, I4⟩
  unfold f_law_C10
  rw [if_pos h1, e1, bd_s, if_pos h1, e2, bd_s, th_ok, bd_s, if_pos t, jn_d]
  exact law_e u
theorem cC11 (I : Inv V) (h1 : ib (x4 + 1) N = true) (h2 : ib (x4 + 2) N = true) (h3 : ib (x4 + 3) N = true) : ∃ V', f_law_C11 xs N V x4 = some V' ∧ Inv V' := by
  obtain ⟨r, V3, V4, e1, e2, I4⟩ := st_archive I
  have e2 : f_X10_archive V3 = some (r, V4) := e2
  refine ⟨V4, ?_, I4⟩
  unfold f_law_C11
  rw [e1, bd_s, e2, bd_s, if_pos rfl]
theorem cC12 (I : Inv V) (h1 : ib (x4 + 1) N = true) (h2 : ib (x4 + 2) N = true) (h3 : ib (x4 + 3) N = true) : ∃ V', f_law_C12 xs N V x4 = some V' ∧ Inv V' := by
  obtain ⟨r, V3, V4, e1, e2, I4⟩ := st_revisionCount I
  have e2 : f_X10_revisionCount V3 = some (r, V4) := e2
  refine ⟨V4, ?_, I4⟩
  unfold f_law_C12
  rw [e1, bd_s, e2, bd_s, if_pos rfl]
theorem cC13 (I : Inv V) (h1 : ib (x4 + 1) N = true) (h2 : ib (x4 + 2) N = true) (h3 : ib (x4 + 3) N = true) : ∃ V', f_law_C13 xs N V x4 = some V' ∧ Inv V' := by
  obtain ⟨k, V3, b, V4, e1, e2, t, u, I4⟩ := st_isArchived I (xs (x4 + 1).toNatClampNeg)
  have e2 : f_X10_isArchived V3 (xs (x4 + 1).toNatClampNeg) = some (b, V4) := e2
  refine ⟨V4, ?_, I4⟩
  unfold f_law_C13
  rw [if_pos h1, e1, bd_s, if_pos h1, e2, bd_s, th_ok, bd_s, if_pos t, jn_d]
  exact law_b u (b_isArchived _ _ e2)
theorem cC14 (I : Inv V) (h1 : ib (x4 + 1) N = true) (h2 : ib (x4 + 2) N = true) (h3 : ib (x4 + 3) N = true) : ∃ V', f_law_C14 xs N V x4 = some V' ∧ Inv V' := by
  obtain ⟨k, V3, b, V4, e1, e2, t, u, I4⟩ := st_firstParent I (xs (x4 + 1).toNatClampNeg)
  have e2 : f_X10_firstParent V3 (xs (x4 + 1).toNatClampNeg) = some (b, V4) := e2
  refine ⟨V4, ?_, I4⟩
  unfold f_law_C14
  rw [if_pos h1, e1, bd_s, if_pos h1, e2, bd_s, th_ok, bd_s, if_pos t, jn_d]
  exact law_e u
theorem cC15 (I : Inv V) (h1 : ib (x4 + 1) N = true) (h2 : ib (x4 + 2) N = true) (h3 : ib (x4 + 3) N = true) : ∃ V', f_law_C15 xs N V x4 = some V' ∧ Inv V' := by
  obtain ⟨k, V3, b, V4, e1, e2, t, u, I4⟩ := st_secondParent I (xs (x4 + 1).toNatClampNeg)
  have e2 : f_X10_secondParent V3 (xs (x4 + 1).toNatClampNeg) = some (b, V4) := e2
  refine ⟨V4, ?_, I4⟩
  unfold f_law_C15
  rw [if_pos h1, e1, bd_s, if_pos h1, e2, bd_s, th_ok, bd_s, if_pos t, jn_d]
  exact law_e u
theorem cC16 (I : Inv V) (h1 : ib (x4 + 1) N = true) (h2 : ib (x4 + 2) N = true) (h3 : ib (x4 + 3) N = true) : ∃ V', f_law_C16 xs N V x4 = some V' ∧ Inv V' := by
  obtain ⟨k, V3, b, V4, e1, e2, t, u, I4⟩ := st_authorOf I (xs (x4 + 1).toNatClampNeg)
  have e2 : f_X10_authorOf V3 (xs (x4 + 1).toNatClampNeg) = some (b, V4) := e2
  refine ⟨V4, ?_, I4⟩
  unfold f_law_C16
  rw [if_pos h1, e1, bd_s, if_pos h1, e2, bd_s, th_ok, bd_s, if_pos t, jn_d]
  exact law_e u
theorem cC17 (I : Inv V) (h1 : ib (x4 + 1) N = true) (h2 : ib (x4 + 2) N = true) (h3 : ib (x4 + 3) N = true) : ∃ V', f_law_C17 xs N V x4 = some V' ∧ Inv V' := by
  obtain ⟨k, V3, b, V4, e1, e2, t, u, I4⟩ := st_generation I (xs (x4 + 1).toNatClampNeg)
  have e2 : f_X10_generation V3 (xs (x4 + 1).toNatClampNeg) = some (b, V4) := e2
  refine ⟨V4, ?_, I4⟩
  unfold f_law_C17
  rw [if_pos h1, e1, bd_s, if_pos h1, e2, bd_s, th_ok, bd_s, if_pos t, jn_d]
  exact law_e u
theorem cC18 (I : Inv V) (h1 : ib (x4 + 1) N = true) (h2 : ib (x4 + 2) N = true) (h3 : ib (x4 + 3) N = true) : ∃ V', f_law_C18 xs N V x4 = some V' ∧ Inv V' := by
  obtain ⟨k, V3, b, V4, e1, e2, t, u, I4⟩ := st_letterIn I (xs (x4 + 1).toNatClampNeg) (xs (x4 + 2).toNatClampNeg)
  have e2 : f_X10_letterIn V3 (xs (x4 + 1).toNatClampNeg) (xs (x4 + 2).toNatClampNeg) = some (b, V4) := e2
  refine ⟨V4, ?_, I4⟩
  unfold f_law_C18
  rw [if_pos h1, if_pos h2, e1, bd_s, if_pos h1, if_pos h2, e2, bd_s, th_ok, bd_s, if_pos t, jn_d]
  exact law_e u
theorem cC19 (I : Inv V) (h1 : ib (x4 + 1) N = true) (h2 : ib (x4 + 2) N = true) (h3 : ib (x4 + 3) N = true) : ∃ V', f_law_C19 xs N V x4 = some V' ∧ Inv V' := by
  obtain ⟨k, V3, b, V4, e1, e2, t, u, I4⟩ := st_isAncestor I (xs (x4 + 1).toNatClampNeg) (xs (x4 + 2).toNatClampNeg)
  have e2 : f_X10_isAncestor V3 (xs (x4 + 1).toNatClampNeg) (xs (x4 + 2).toNatClampNeg) = some (b, V4) := e2
  refine ⟨V4, ?_, I4⟩
  unfold f_law_C19
  rw [if_pos h1, if_pos h2, e1, bd_s, if_pos h1, if_pos h2, e2, bd_s, th_ok, bd_s, if_pos t, jn_d]
  exact law_b u (b_isAncestor _ _ e2)
theorem cC20 (I : Inv V) (h1 : ib (x4 + 1) N = true) (h2 : ib (x4 + 2) N = true) (h3 : ib (x4 + 3) N = true) : ∃ V', f_law_C20 xs N V x4 = some V' ∧ Inv V' := by
  obtain ⟨k, V3, b, V4, e1, e2, t, u, I4⟩ := st_ancestorCount I (xs (x4 + 1).toNatClampNeg)
  have e2 : f_X10_ancestorCount V3 (xs (x4 + 1).toNatClampNeg) = some (b, V4) := e2
  refine ⟨V4, ?_, I4⟩
  unfold f_law_C20
  rw [if_pos h1, e1, bd_s, if_pos h1, e2, bd_s, th_ok, bd_s, if_pos t, jn_d]
  exact law_e u
theorem cC21 (I : Inv V) (h1 : ib (x4 + 1) N = true) (h2 : ib (x4 + 2) N = true) (h3 : ib (x4 + 3) N = true) : ∃ V', f_law_C21 xs N V x4 = some V' ∧ Inv V' := by
  obtain ⟨k, V3, b, V4, e1, e2, t, u, I4⟩ := st_commonAncestor I (xs (x4 + 1).toNatClampNeg) (xs (x4 + 2).toNatClampNeg)
  have e2 : f_X10_commonAncestor V3 (xs (x4 + 1).toNatClampNeg) (xs (x4 + 2).toNatClampNeg) = some (b, V4) := e2
  refine ⟨V4, ?_, I4⟩
  unfold f_law_C21
  rw [if_pos h1, if_pos h2, e1, bd_s, if_pos h1, if_pos h2, e2, bd_s, th_ok, bd_s, if_pos t, jn_d]
  exact law_e u
theorem cC22 (I : Inv V) (h1 : ib (x4 + 1) N = true) (h2 : ib (x4 + 2) N = true) (h3 : ib (x4 + 3) N = true) : ∃ V', f_law_C22 xs N V x4 = some V' ∧ Inv V' := by
  obtain ⟨k, V3, b, V4, e1, e2, t, u, I4⟩ := st_commonAncestorBySets I (xs (x4 + 1).toNatClampNeg) (xs (x4 + 2).toNatClampNeg)
  have e2 : f_X10_commonAncestorBySets V3 (xs (x4 + 1).toNatClampNeg) (xs (x4 + 2).toNatClampNeg) = some (b, V4) := e2
  refine ⟨V4, ?_, I4⟩
  unfold f_law_C22
  rw [if_pos h1, if_pos h2, e1, bd_s, if_pos h1, if_pos h2, e2, bd_s, th_ok, bd_s, if_pos t, jn_d]
  exact law_e u
theorem cC23 (I : Inv V) (h1 : ib (x4 + 1) N = true) (h2 : ib (x4 + 2) N = true) (h3 : ib (x4 + 3) N = true) : ∃ V', f_law_C23 xs N V x4 = some V' ∧ Inv V' := by
  obtain ⟨k, V3, b, V4, e1, e2, t, u, I4⟩ := st_distance I (xs (x4 + 1).toNatClampNeg) (xs (x4 + 2).toNatClampNeg)
  have e2 : f_X10_distance V3 (xs (x4 + 1).toNatClampNeg) (xs (x4 + 2).toNatClampNeg) = some (b, V4) := e2
  refine ⟨V4, ?_, I4⟩
  unfold f_law_C23
  rw [if_pos h1, if_pos h2, e1, bd_s, if_pos h1, if_pos h2, e2, bd_s, th_ok, bd_s, if_pos t, jn_d]
  exact law_e u
theorem cC24 (I : Inv V) (h1 : ib (x4 + 1) N = true) (h2 : ib (x4 + 2) N = true) (h3 : ib (x4 + 3) N = true) : ∃ V', f_law_C24 xs N V x4 = some V' ∧ Inv V' := by
  obtain ⟨k, V3, b, V4, e1, e2, t, u, I4⟩ := st_differences I (xs (x4 + 1).toNatClampNeg) (xs (x4 + 2).toNatClampNeg)
  have e2 : f_X10_differences V3 (xs (x4 + 1).toNatClampNeg) (xs (x4 + 2).toNatClampNeg) = some (b, V4) := e2
  refine ⟨V4, ?_, I4⟩
  unfold f_law_C24
  rw [if_pos h1, if_pos h2, e1, bd_s, if_pos h1, if_pos h2, e2, bd_s, th_ok, bd_s, if_pos t, jn_d]
  exact law_e u
theorem cC25 (I : Inv V) (h1 : ib (x4 + 1) N = true) (h2 : ib (x4 + 2) N = true) (h3 : ib (x4 + 3) N = true) : ∃ V', f_law_C25 xs N V x4 = some V' ∧ Inv V' := by
  obtain ⟨k, V3, b, V4, e1, e2, t, u, I4⟩ := st_originOf I (xs (x4 + 1).toNatClampNeg) (xs (x4 + 2).toNatClampNeg)
  have e2 : f_X10_originOf V3 (xs (x4 + 1).toNatClampNeg) (xs (x4 + 2).toNatClampNeg) = some (b, V4) := e2
  refine ⟨V4, ?_, I4⟩
  unfold f_law_C25
  rw [if_pos h1, if_pos h2, e1, bd_s, if_pos h1, if_pos h2, e2, bd_s, th_ok, bd_s, if_pos t, jn_d]
  exact law_e u
theorem cC26 (I : Inv V) (h1 : ib (x4 + 1) N = true) (h2 : ib (x4 + 2) N = true) (h3 : ib (x4 + 3) N = true) : ∃ V', f_law_C26 xs N V x4 = some V' ∧ Inv V' := by
  obtain ⟨k, V3, b, V4, e1, e2, t, u, I4⟩ := st_originByRecursion I (xs (x4 + 1).toNatClampNeg) (xs (x4 + 2).toNatClampNeg)
  have e2 : f_X10_originByRecursion V3 (xs (x4 + 1).toNatClampNeg) (xs (x4 + 2).toNatClampNeg) = some (b, V4) := e2
  refine ⟨V4, ?_, I4⟩
  unfold f_law_C26
  rw [if_pos h1, if_pos h2, e1, bd_s, if_pos h1, if_pos h2, e2, bd_s, th_ok, bd_s, if_pos t, jn_d]
  exact law_e u
theorem cC27 (I : Inv V) (h1 : ib (x4 + 1) N = true) (h2 : ib (x4 + 2) N = true) (h3 : ib (x4 + 3) N = true) : ∃ V', f_law_C27 xs N V x4 = some V' ∧ Inv V' := by
  obtain ⟨k, V3, b, V4, e1, e2, t, u, I4⟩ := st_revisionsBy I (xs (x4 + 1).toNatClampNeg)
  have e2 : f_X10_revisionsBy V3 (xs (x4 + 1).toNatClampNeg) = some (b, V4) := e2
  refine ⟨V4, ?_, I4⟩
  unfold f_law_C27
  rw [if_pos h1, e1, bd_s, if_pos h1, e2, bd_s, th_ok, bd_s, if_pos t, jn_d]
  exact law_e u
theorem cC28 (I : Inv V) (h1 : ib (x4 + 1) N = true) (h2 : ib (x4 + 2) N = true) (h3 : ib (x4 + 3) N = true) : ∃ V', f_law_C28 xs N V x4 = some V' ∧ Inv V' := by
  obtain ⟨r, V3, V4, e1, e2, I4⟩ := st_busiestAuthor I
  have e2 : f_X10_busiestAuthor V3 = some (r, V4) := e2
  refine ⟨V4, ?_, I4⟩
  unfold f_law_C28
  rw [e1, bd_s, e2, bd_s, if_pos rfl]
theorem cC29 (I : Inv V) (h1 : ib (x4 + 1) N = true) (h2 : ib (x4 + 2) N = true) (h3 : ib (x4 + 3) N = true) : ∃ V', f_law_C29 xs N V x4 = some V' ∧ Inv V' := by
  obtain ⟨r, V3, V4, e1, e2, I4⟩ := st_branchCount I
  have e2 : f_X10_branchCount V3 = some (r, V4) := e2
  refine ⟨V4, ?_, I4⟩
  unfold f_law_C29
  rw [e1, bd_s, e2, bd_s, if_pos rfl]
theorem cC30 (I : Inv V) (h1 : ib (x4 + 1) N = true) (h2 : ib (x4 + 2) N = true) (h3 : ib (x4 + 3) N = true) : ∃ V', f_law_C30 xs N V x4 = some V' ∧ Inv V' := by
  obtain ⟨k, V3, b, V4, e1, e2, t, u, I4⟩ := st_head I (xs (x4 + 1).toNatClampNeg)
  have e2 : f_X10_head V3 (xs (x4 + 1).toNatClampNeg) = some (b, V4) := e2
  refine ⟨V4, ?_, I4⟩
  unfold f_law_C30
  rw [if_pos h1, e1, bd_s, if_pos h1, e2, bd_s, th_ok, bd_s, if_pos t, jn_d]
  exact law_e u
theorem cC31 (I : Inv V) (h1 : ib (x4 + 1) N = true) (h2 : ib (x4 + 2) N = true) (h3 : ib (x4 + 3) N = true) : ∃ V', f_law_C31 xs N V x4 = some V' ∧ Inv V' := by
  obtain ⟨k, V3, b, V4, e1, e2, t, u, I4⟩ := st_letterAt I (xs (x4 + 1).toNatClampNeg) (xs (x4 + 2).toNatClampNeg)
  have e2 : f_X10_letterAt V3 (xs (x4 + 1).toNatClampNeg) (xs (x4 + 2).toNatClampNeg) = some (b, V4) := e2
  refine ⟨V4, ?_, I4⟩
  unfold f_law_C31
  rw [if_pos h1, if_pos h2, e1, bd_s, if_pos h1, if_pos h2, e2, bd_s, th_ok, bd_s, if_pos t, jn_d]
  exact law_e u
theorem cC32 (I : Inv V) (h1 : ib (x4 + 1) N = true) (h2 : ib (x4 + 2) N = true) (h3 : ib (x4 + 3) N = true) : ∃ V', f_law_C32 xs N V x4 = some V' ∧ Inv V' := by
  obtain ⟨k, V3, b, V4, e1, e2, t, u, I4⟩ := st_isEdited I (xs (x4 + 1).toNatClampNeg) (xs (x4 + 2).toNatClampNeg)
  have e2 : f_X10_isEdited V3 (xs (x4 + 1).toNatClampNeg) (xs (x4 + 2).toNatClampNeg) = some (b, V4) := e2
  refine ⟨V4, ?_, I4⟩
  unfold f_law_C32
  rw [if_pos h1, if_pos h2, e1, bd_s, if_pos h1, if_pos h2, e2, bd_s, th_ok, bd_s, if_pos t, jn_d]
  exact law_b u (b_isEdited _ _ e2)
theorem cC33 (I : Inv V) (h1 : ib (x4 + 1) N = true) (h2 : ib (x4 + 2) N = true) (h3 : ib (x4 + 3) N = true) : ∃ V', f_law_C33 xs N V x4 = some V' ∧ Inv V' := by
  obtain ⟨k, V3, b, V4, e1, e2, t, u, I4⟩ := st_editCount I (xs (x4 + 1).toNatClampNeg)
  have e2 : f_X10_editCount V3 (xs (x4 + 1).toNatClampNeg) = some (b, V4) := e2
  refine ⟨V4, ?_, I4⟩
  unfold f_law_C33
  rw [if_pos h1, e1, bd_s, if_pos h1, e2, bd_s, th_ok, bd_s, if_pos t, jn_d]
  exact law_e u
theorem cC34 (I : Inv V) (h1 : ib (x4 + 1) N = true) (h2 : ib (x4 + 2) N = true) (h3 : ib (x4 + 3) N = true) : ∃ V', f_law_C34 xs N V x4 = some V' ∧ Inv V' := by
  obtain ⟨k, V3, b, V4, e1, e2, t, u, I4⟩ := st_branchByHead I (xs (x4 + 1).toNatClampNeg)
  have e2 : f_X10_branchByHead V3 (xs (x4 + 1).toNatClampNeg) = some (b, V4) := e2
  refine ⟨V4, ?_, I4⟩
  unfold f_law_C34
  rw [if_pos h1, e1, bd_s, if_pos h1, e2, bd_s, th_ok, bd_s, if_pos t, jn_d]
  exact law_e u
theorem cC35 (I : Inv V) (h1 : ib (x4 + 1) N = true) (h2 : ib (x4 + 2) N = true) (h3 : ib (x4 + 3) N = true) : ∃ V', f_law_C35 xs N V x4 = some V' ∧ Inv V' := by
  obtain ⟨k, V3, b, V4, e1, e2, t, u, I4⟩ := st_conflictCount I (xs (x4 + 1).toNatClampNeg) (xs (x4 + 2).toNatClampNeg)
  have e2 : f_X10_conflictCount V3 (xs (x4 + 1).toNatClampNeg) (xs (x4 + 2).toNatClampNeg) = some (b, V4) := e2
  refine ⟨V4, ?_, I4⟩
  unfold f_law_C35
  rw [if_pos h1, if_pos h2, e1, bd_s, if_pos h1, if_pos h2, e2, bd_s, th_ok, bd_s, if_pos t, jn_d]
  exact law_e u
theorem cC36 (I : Inv V) (h1 : ib (x4 + 1) N = true) (h2 : ib (x4 + 2) N = true) (h3 : ib (x4 + 3) N = true) : ∃ V', f_law_C36 xs N V x4 = some V' ∧ Inv V' := by
  obtain ⟨k, V3, b, V4, e1, e2, t, u, I4⟩ := st_conflictAt I (xs (x4 + 1).toNatClampNeg) (xs (x4 + 2).toNatClampNeg) (xs (x4 + 3).toNatClampNeg)
  have e2 : f_X10_conflictAt V3 (xs (x4 + 1).toNatClampNeg) (xs (x4 + 2).toNatClampNeg) (xs (x4 + 3).toNatClampNeg) = some (b, V4) := e2
  refine ⟨V4, ?_, I4⟩
  unfold f_law_C36
  rw [if_pos h1, if_pos h2, if_pos h3, e1, bd_s, if_pos h1, if_pos h2, if_pos h3, e2, bd_s, th_ok, bd_s, if_pos t, jn_d]
  exact law_e u
theorem cC37 (I : Inv V) (h1 : ib (x4 + 1) N = true) (h2 : ib (x4 + 2) N = true) (h3 : ib (x4 + 3) N = true) : ∃ V', f_law_C37 xs N V x4 = some V' ∧ Inv V' := by
  obtain ⟨k, V3, b, V4, e1, e2, t, u, I4⟩ := st_canMerge I (xs (x4 + 1).toNatClampNeg) (xs (x4 + 2).toNatClampNeg)
  have e2 : f_X10_canMerge V3 (xs (x4 + 1).toNatClampNeg) (xs (x4 + 2).toNatClampNeg) = some (b, V4) := e2
  refine ⟨V4, ?_, I4⟩
  unfold f_law_C37
  rw [if_pos h1, if_pos h2, e1, bd_s, if_pos h1, if_pos h2, e2, bd_s, th_ok, bd_s, if_pos t, jn_d]
  exact law_b u (b_canMerge _ _ e2)
theorem cC38 (I : Inv V) (h1 : ib (x4 + 1) N = true) (h2 : ib (x4 + 2) N = true) (h3 : ib (x4 + 3) N = true) : ∃ V', f_law_C38 xs N V x4 = some V' ∧ Inv V' := by
  obtain ⟨k, V3, b, V4, e1, e2, t, u, I4⟩ := st_mergedLetter I (xs (x4 + 1).toNatClampNeg) (xs (x4 + 2).toNatClampNeg) (xs (x4 + 3).toNatClampNeg)
  have e2 : f_X10_mergedLetter V3 (xs (x4 + 1).toNatClampNeg) (xs (x4 + 2).toNatClampNeg) (xs (x4 + 3).toNatClampNeg) = some (b, V4) := e2
  refine ⟨V4, ?_, I4⟩
  unfold f_law_C38
  rw [if_pos h1, if_pos h2, if_pos h3, e1, bd_s, if_pos h1, if_pos h2, if_pos h3, e2, bd_s, th_ok, bd_s, if_pos t, jn_d]
  exact law_e u
theorem cC39 (I : Inv V) (h1 : ib (x4 + 1) N = true) (h2 : ib (x4 + 2) N = true) (h3 : ib (x4 + 3) N = true) : ∃ V', f_law_C39 xs N V x4 = some V' ∧ Inv V' := by
  obtain ⟨k, V3, b, V4, e1, e2, t, u, I4⟩ := st_canPick I (xs (x4 + 1).toNatClampNeg) (xs (x4 + 2).toNatClampNeg)
  have e2 : f_X10_canPick V3 (xs (x4 + 1).toNatClampNeg) (xs (x4 + 2).toNatClampNeg) = some (b, V4) := e2
  refine ⟨V4, ?_, I4⟩
  unfold f_law_C39
  rw [if_pos h1, if_pos h2, e1, bd_s, if_pos h1, if_pos h2, e2, bd_s, th_ok, bd_s, if_pos t, jn_d]
  exact law_b u (b_canPick _ _ e2)
theorem cC40 (I : Inv V) (h1 : ib (x4 + 1) N = true) (h2 : ib (x4 + 2) N = true) (h3 : ib (x4 + 3) N = true) : ∃ V', f_law_C40 xs N V x4 = some V' ∧ Inv V' := by
  obtain ⟨r, V3, V4, e1, e2, I4⟩ := st_tagCount I
  have e2 : f_X10_tagCount V3 = some (r, V4) := e2
  refine ⟨V4, ?_, I4⟩
  unfold f_law_C40
  rw [e1, bd_s, e2, bd_s, if_pos rfl]
theorem cC41 (I : Inv V) (h1 : ib (x4 + 1) N = true) (h2 : ib (x4 + 2) N = true) (h3 : ib (x4 + 3) N = true) : ∃ V', f_law_C41 xs N V x4 = some V' ∧ Inv V' := by
  obtain ⟨k, V3, b, V4, e1, e2, t, u, I4⟩ := st_taggedRevision I ((((xs (x4 + 1).toNatClampNeg) : Int32).toUInt32 % 65536).toInt32)
  have e2 : f_X10_taggedRevision V3 ((((xs (x4 + 1).toNatClampNeg) : Int32).toUInt32 % 65536).toInt32) = some (b, V4) := e2
  refine ⟨V4, ?_, I4⟩
  unfold f_law_C41
  rw [if_pos h1, e1, bd_s, if_pos h1, e2, bd_s, th_ok, bd_s, if_pos t, jn_d]
  exact law_e u
theorem cC42 (I : Inv V) (h1 : ib (x4 + 1) N = true) (h2 : ib (x4 + 2) N = true) (h3 : ib (x4 + 3) N = true) : ∃ V', f_law_C42 xs N V x4 = some V' ∧ Inv V' := by
  obtain ⟨k, V3, b, V4, e1, e2, t, u, I4⟩ := st_tagOf I (xs (x4 + 1).toNatClampNeg)
  have e2 : f_X10_tagOf V3 (xs (x4 + 1).toNatClampNeg) = some (b, V4) := e2
  refine ⟨V4, ?_, I4⟩
  unfold f_law_C42
  rw [if_pos h1, e1, bd_s, if_pos h1, e2, bd_s, th_ok, bd_s, if_pos t, jn_d]
  exact law_e u
theorem cC43 (I : Inv V) (h1 : ib (x4 + 1) N = true) (h2 : ib (x4 + 2) N = true) (h3 : ib (x4 + 3) N = true) : ∃ V', f_law_C43 xs N V x4 = some V' ∧ Inv V' := by
  obtain ⟨r, V3, V4, e1, e2, I4⟩ := st_usedCount I
  have e2 : f_X10_usedCount V3 = some (r, V4) := e2
  refine ⟨V4, ?_, I4⟩
  unfold f_law_C43
  rw [e1, bd_s, e2, bd_s, if_pos rfl]
theorem cC44 (I : Inv V) (h1 : ib (x4 + 1) N = true) (h2 : ib (x4 + 2) N = true) (h3 : ib (x4 + 3) N = true) : ∃ V', f_law_C44 xs N V x4 = some V' ∧ Inv V' := by
  obtain ⟨r, V3, V4, e1, e2, I4⟩ := st_usedCountByMarks I
  have e2 : f_X10_usedCountByMarks V3 = some (r, V4) := e2
  refine ⟨V4, ?_, I4⟩
  unfold f_law_C44
  rw [e1, bd_s, e2, bd_s, if_pos rfl]
theorem cC45 (I : Inv V) (h1 : ib (x4 + 1) N = true) (h2 : ib (x4 + 2) N = true) (h3 : ib (x4 + 3) N = true) : ∃ V', f_law_C45 xs N V x4 = some V' ∧ Inv V' := by
  obtain ⟨r, V3, V4, p, e1, e2, I4⟩ := st_meanGeneration I
  have e2 : f_X10_meanGeneration V3 = some (r, V4) := e2
  refine ⟨V4, ?_, I4⟩
  unfold f_law_C45
  rw [e1, bd_s, e2, bd_s, jn_d, if_pos (dsm_2 p)]
theorem cC46 (I : Inv V) (h1 : ib (x4 + 1) N = true) (h2 : ib (x4 + 2) N = true) (h3 : ib (x4 + 3) N = true) : ∃ V', f_law_C46 xs N V x4 = some V' ∧ Inv V' := by
  obtain ⟨r, V3, V4, p, e1, e2, I4⟩ := st_archivedShare I
  have e2 : f_X10_archivedShare V3 = some (r, V4) := e2
  refine ⟨V4, ?_, I4⟩
  unfold f_law_C46
  rw [e1, bd_s, if_pos (dsm_1 p), e2, bd_s, if_pos (dsm_1 p), jn_d, if_pos (dsm_2 p)]
theorem cC47 (I : Inv V) (h1 : ib (x4 + 1) N = true) (h2 : ib (x4 + 2) N = true) (h3 : ib (x4 + 3) N = true) : ∃ V', f_law_C47 xs N V x4 = some V' ∧ Inv V' := by
  obtain ⟨r, V3, V4, e1, e2, I4⟩ := st_isConsistent I
  have e2 : f_X10_isConsistent V3 = some (r, V4) := e2
  refine ⟨V4, ?_, I4⟩
  unfold f_law_C47
  rw [e1, bd_s, e2, bd_s, if_pos rfl]
theorem cC48 (I : Inv V) (h1 : ib (x4 + 1) N = true) (h2 : ib (x4 + 2) N = true) (h3 : ib (x4 + 3) N = true) : ∃ V', f_law_C48 xs N V x4 = some V' ∧ Inv V' := by
  obtain ⟨k, V3, b, V4, e1, e2, t, u, I4⟩ := st_formatRevision I (xs (x4 + 1).toNatClampNeg)
  have e2 : f_X10_formatRevision V3 (xs (x4 + 1).toNatClampNeg) = some (b, V4) := e2
  refine ⟨V4, ?_, I4⟩
  unfold f_law_C48
  rw [if_pos h1, e1, bd_s, if_pos h1, e2, bd_s, th_ok, bd_s, if_pos t, jn_d]
  exact law_e u
theorem cC49 (I : Inv V) (h1 : ib (x4 + 1) N = true) (h2 : ib (x4 + 2) N = true) (h3 : ib (x4 + 3) N = true) : ∃ V', f_law_C49 xs N V x4 = some V' ∧ Inv V' := by
  obtain ⟨k, V3, b, V4, e1, e2, t, u, I4⟩ := st_formatBranch I (xs (x4 + 1).toNatClampNeg)
  have e2 : f_X10_formatBranch V3 (xs (x4 + 1).toNatClampNeg) = some (b, V4) := e2
  refine ⟨V4, ?_, I4⟩
  unfold f_law_C49
  rw [if_pos h1, e1, bd_s, if_pos h1, e2, bd_s, th_ok, bd_s, if_pos t, jn_d]
  exact law_e u
theorem cC50 (I : Inv V) (h1 : ib (x4 + 1) N = true) (h2 : ib (x4 + 2) N = true) (h3 : ib (x4 + 3) N = true) : ∃ V', f_law_C50 xs N V x4 = some V' ∧ Inv V' := by
  obtain ⟨k, V3, b, V4, e1, e2, t, u, I4⟩ := st_formatMerge I (xs (x4 + 1).toNatClampNeg) (xs (x4 + 2).toNatClampNeg)
  have e2 : f_X10_formatMerge V3 (xs (x4 + 1).toNatClampNeg) (xs (x4 + 2).toNatClampNeg) = some (b, V4) := e2
  refine ⟨V4, ?_, I4⟩
  unfold f_law_C50
  rw [if_pos h1, if_pos h2, e1, bd_s, if_pos h1, if_pos h2, e2, bd_s, th_ok, bd_s, if_pos t, jn_d]
  exact law_e u
theorem cC51 (I : Inv V) (h1 : ib (x4 + 1) N = true) (h2 : ib (x4 + 2) N = true) (h3 : ib (x4 + 3) N = true) : ∃ V', f_law_C51 xs N V x4 = some V' ∧ Inv V' := by
  obtain ⟨k, V3, b, V4, e1, e2, t, u, I4⟩ := st_lineChar I (xs (x4 + 1).toNatClampNeg)
  have e2 : f_X10_lineChar V3 (xs (x4 + 1).toNatClampNeg) = some (b, V4) := e2
  refine ⟨V4, ?_, I4⟩
  unfold f_law_C51
  rw [if_pos h1, e1, bd_s, if_pos h1, e2, bd_s, th_ok, bd_s, if_pos t, jn_d]
  exact law_e u
theorem cC52 (I : Inv V) (h1 : ib (x4 + 1) N = true) (h2 : ib (x4 + 2) N = true) (h3 : ib (x4 + 3) N = true) : ∃ V', f_law_C52 xs N V x4 = some V' ∧ Inv V' := by
  obtain ⟨k, V3, b, V4, e1, e2, t, u, I4⟩ := st_append I ((((xs (x4 + 1).toNatClampNeg) : Int32).toUInt32 % 65536).toInt32)
  have e2 : f_X10_append V3 ((((xs (x4 + 1).toNatClampNeg) : Int32).toUInt32 % 65536).toInt32) = some (b, V4) := e2
  refine ⟨V4, ?_, I4⟩
  unfold f_law_C52
  rw [if_pos h1, e1, bd_s, if_pos h1, e2, bd_s, th_ok, bd_s, if_pos t, jn_d]
  exact law_e u
theorem cC53 (I : Inv V) (h1 : ib (x4 + 1) N = true) (h2 : ib (x4 + 2) N = true) (h3 : ib (x4 + 3) N = true) : ∃ V', f_law_C53 xs N V x4 = some V' ∧ Inv V' := by
  obtain ⟨k, V3, b, V4, e1, e2, t, u, I4⟩ := st_run I 
  have e2 : f_X10_run V3  = some (b, V4) := e2
  refine ⟨V4, ?_, I4⟩
  unfold f_law_C53
  rw [e1, bd_s, e2, bd_s, th_ok, bd_s, if_pos t, jn_d]
  exact law_e u
theorem cC54 (I : Inv V) (h1 : ib (x4 + 1) N = true) (h2 : ib (x4 + 2) N = true) (h3 : ib (x4 + 3) N = true) : ∃ V', f_law_C54 xs N V x4 = some V' ∧ Inv V' := by
  obtain ⟨k, V3, b, V4, e1, e2, t, u, I4⟩ := st_errorPosition I 
  have e2 : f_X10_errorPosition V3  = some (b, V4) := e2
  refine ⟨V4, ?_, I4⟩
  unfold f_law_C54
  rw [e1, bd_s, e2, bd_s, th_ok, bd_s, if_pos t, jn_d]
  exact law_e u
theorem cC55 (I : Inv V) (h1 : ib (x4 + 1) N = true) (h2 : ib (x4 + 2) N = true) (h3 : ib (x4 + 3) N = true) : ∃ V', f_law_C55 xs N V x4 = some V' ∧ Inv V' := by
  obtain ⟨k, V3, b, V4, e1, e2, t, u, I4⟩ := st_failedCommand I 
  have e2 : f_X10_failedCommand V3  = some (b, V4) := e2
  refine ⟨V4, ?_, I4⟩
  unfold f_law_C55
  rw [e1, bd_s, e2, bd_s, th_ok, bd_s, if_pos t, jn_d]
  exact law_e u
theorem cC56 (I : Inv V) (h1 : ib (x4 + 1) N = true) (h2 : ib (x4 + 2) N = true) (h3 : ib (x4 + 3) N = true) : ∃ V', f_law_C56 xs N V x4 = some V' ∧ Inv V' := by
  obtain ⟨r, V3, V4, e1, e2, I4⟩ := st_undoableCount I
  have e2 : f_X10_undoableCount V3 = some (r, V4) := e2
  refine ⟨V4, ?_, I4⟩
  unfold f_law_C56
  rw [e1, bd_s, e2, bd_s, if_pos rfl]
theorem cC57 (I : Inv V) (h1 : ib (x4 + 1) N = true) (h2 : ib (x4 + 2) N = true) (h3 : ib (x4 + 3) N = true) : ∃ V', f_law_C57 xs N V x4 = some V' ∧ Inv V' := by
  obtain ⟨k, V3, b, V4, e1, e2, t, u, I4⟩ := st_undo I 
  have e2 : f_X10_undo V3  = some (b, V4) := e2
  refine ⟨V4, ?_, I4⟩
  unfold f_law_C57
  rw [e1, bd_s, e2, bd_s, th_ok, bd_s, if_pos t, jn_d]
  exact law_e u
theorem cC58 (I : Inv V) (h1 : ib (x4 + 1) N = true) (h2 : ib (x4 + 2) N = true) (h3 : ib (x4 + 3) N = true) : ∃ V', f_law_C58 xs N V x4 = some V' ∧ Inv V' := by
  obtain ⟨r, V3, V4, e1, e2, I4⟩ := st_save I
  have e2 : f_X10_save V3 = some (r, V4) := e2
  refine ⟨V4, ?_, I4⟩
  unfold f_law_C58
  rw [e1, bd_s, e2, bd_s, if_pos rfl]
theorem cC59 (I : Inv V) (h1 : ib (x4 + 1) N = true) (h2 : ib (x4 + 2) N = true) (h3 : ib (x4 + 3) N = true) : ∃ V', f_law_C59 xs N V x4 = some V' ∧ Inv V' := by
  obtain ⟨k, V3, b, V4, e1, e2, t, u, I4⟩ := st_restore I 
  have e2 : f_X10_restore V3  = some (b, V4) := e2
  refine ⟨V4, ?_, I4⟩
  unfold f_law_C59
  rw [e1, bd_s, e2, bd_s, th_ok, bd_s, if_pos t, jn_d]
  exact law_e u
theorem cD (I : Inv V) {w : Int32} (h1 : ib (x4 + 1) N = true) (h2 : ib (x4 + 2) N = true) (h3 : ib (x4 + 3) N = true) : ∃ V', f_law_D xs N V x4 w = some V' ∧ Inv V' := by
  unfold f_law_D
  by_cases c0 : w = 0
  · rw [if_pos c0]; exact cC0 I h1 h2 h3
  rw [if_neg c0]
  by_cases c1 : w = 1
  · rw [if_pos c1]; exact cC1 I h1 h2 h3
  rw [if_neg c1]
  by_cases c2 : w = 2
  · rw [if_pos c2]; exact cC2 I h1 h2 h3
  rw [if_neg c2]
  by_cases c3 : w = 3
  · rw [if_pos c3]; exact cC3 I h1 h2 h3
  rw [if_neg c3]
  by_cases c4 : w = 4
  · rw [if_pos c4]; exact cC4 I h1 h2 h3
  rw [if_neg c4]
  by_cases c5 : w = 5
  · rw [if_pos c5]; exact cC5 I h1 h2 h3
  rw [if_neg c5]
  by_cases c6 : w = 6
  · rw [if_pos c6]; exact cC6 I h1 h2 h3
  rw [if_neg c6]
  by_cases c7 : w = 7
  · rw [if_pos c7]; exact cC7 I h1 h2 h3
  rw [if_neg c7]
  by_cases c8 : w = 8
  · rw [if_pos c8]; exact cC8 I h1 h2 h3
  rw [if_neg c8]
  by_cases c9 : w = 9
  · rw [if_pos c9]; exact cC9 I h1 h2 h3
  rw [if_neg c9]
  by_cases c10 : w = 10
  · rw [if_pos c10]; exact cC10 I h1 h2 h3
  rw [if_neg c10]
  by_cases c11 : w = 11
  · rw [if_pos c11]; exact cC11 I h1 h2 h3
  rw [if_neg c11]
  by_cases c12 : w = 12
  · rw [if_pos c12]; exact cC12 I h1 h2 h3
  rw [if_neg c12]
  by_cases c13 : w = 13
  · rw [if_pos c13]; exact cC13 I h1 h2 h3
  rw [if_neg c13]
  by_cases c14 : w = 14
  · rw [if_pos c14]; exact cC14 I h1 h2 h3
  rw [if_neg c14]
  by_cases c15 : w = 15
  · rw [if_pos c15]; exact cC15 I h1 h2 h3
  rw [if_neg c15]
  by_cases c16 : w = 16
  · rw [if_pos c16]; exact cC16 I h1 h2 h3
  rw [if_neg c16]
  by_cases c17 : w = 17
  · rw [if_pos c17]; exact cC17 I h1 h2 h3
  rw [if_neg c17]
  by_cases c18 : w = 18
  · rw [if_pos c18]; exact cC18 I h1 h2 h3
  rw [if_neg c18]
  by_cases c19 : w = 19
  · rw [if_pos c19]; exact cC19 I h1 h2 h3
  rw [if_neg c19]
  by_cases c20 : w = 20
  · rw [if_pos c20]; exact cC20 I h1 h2 h3
  rw [if_neg c20]
  by_cases c21 : w = 21
  · rw [if_pos c21]; exact cC21 I h1 h2 h3
  rw [if_neg c21]
  by_cases c22 : w = 22
  · rw [if_pos c22]; exact cC22 I h1 h2 h3
  rw [if_neg c22]
  by_cases c23 : w = 23
  · rw [if_pos c23]; exact cC23 I h1 h2 h3
  rw [if_neg c23]
  by_cases c24 : w = 24
  · rw [if_pos c24]; exact cC24 I h1 h2 h3
  rw [if_neg c24]
  by_cases c25 : w = 25
  · rw [if_pos c25]; exact cC25 I h1 h2 h3
  rw [if_neg c25]
  by_cases c26 : w = 26
  · rw [if_pos c26]; exact cC26 I h1 h2 h3
  rw [if_neg c26]
  by_cases c27 : w = 27
  · rw [if_pos c27]; exact cC27 I h1 h2 h3
  rw [if_neg c27]
  by_cases c28 : w = 28
  · rw [if_pos c28]; exact cC28 I h1 h2 h3
  rw [if_neg c28]
  by_cases c29 : w = 29
  · rw [if_pos c29]; exact cC29 I h1 h2 h3
  rw [if_neg c29]
  by_cases c30 : w = 30
  · rw [if_pos c30]; exact cC30 I h1 h2 h3
  rw [if_neg c30]
  by_cases c31 : w = 31
  · rw [if_pos c31]; exact cC31 I h1 h2 h3
  rw [if_neg c31]
  by_cases c32 : w = 32
  · rw [if_pos c32]; exact cC32 I h1 h2 h3
  rw [if_neg c32]
  by_cases c33 : w = 33
  · rw [if_pos c33]; exact cC33 I h1 h2 h3
  rw [if_neg c33]
  by_cases c34 : w = 34
  · rw [if_pos c34]; exact cC34 I h1 h2 h3
  rw [if_neg c34]
  by_cases c35 : w = 35
  · rw [if_pos c35]; exact cC35 I h1 h2 h3
  rw [if_neg c35]
  by_cases c36 : w = 36
  · rw [if_pos c36]; exact cC36 I h1 h2 h3
  rw [if_neg c36]
  by_cases c37 : w = 37
  · rw [if_pos c37]; exact cC37 I h1 h2 h3
  rw [if_neg c37]
  by_cases c38 : w = 38
  · rw [if_pos c38]; exact cC38 I h1 h2 h3
  rw [if_neg c38]
  by_cases c39 : w = 39
  · rw [if_pos c39]; exact cC39 I h1 h2 h3
  rw [if_neg c39]
  by_cases c40 : w = 40
  · rw [if_pos c40]; exact cC40 I h1 h2 h3
  rw [if_neg c40]
  by_cases c41 : w = 41
  · rw [if_pos c41]; exact cC41 I h1 h2 h3
  rw [if_neg c41]
  by_cases c42 : w = 42
  · rw [if_pos c42]; exact cC42 I h1 h2 h3
  rw [if_neg c42]
  by_cases c43 : w = 43
  · rw [if_pos c43]; exact cC43 I h1 h2 h3
  rw [if_neg c43]
  by_cases c44 : w = 44
  · rw [if_pos c44]; exact cC44 I h1 h2 h3
  rw [if_neg c44]
  by_cases c45 : w = 45
  · rw [if_pos c45]; exact cC45 I h1 h2 h3
  rw [if_neg c45]
  by_cases c46 : w = 46
  · rw [if_pos c46]; exact cC46 I h1 h2 h3
  rw [if_neg c46]
  by_cases c47 : w = 47
  · rw [if_pos c47]; exact cC47 I h1 h2 h3
  rw [if_neg c47]
  by_cases c48 : w = 48
  · rw [if_pos c48]; exact cC48 I h1 h2 h3
  rw [if_neg c48]
  by_cases c49 : w = 49
  · rw [if_pos c49]; exact cC49 I h1 h2 h3
  rw [if_neg c49]
  by_cases c50 : w = 50
  · rw [if_pos c50]; exact cC50 I h1 h2 h3
  rw [if_neg c50]
  by_cases c51 : w = 51
  · rw [if_pos c51]; exact cC51 I h1 h2 h3
  rw [if_neg c51]
  by_cases c52 : w = 52
  · rw [if_pos c52]; exact cC52 I h1 h2 h3
  rw [if_neg c52]
  by_cases c53 : w = 53
  · rw [if_pos c53]; exact cC53 I h1 h2 h3
  rw [if_neg c53]
  by_cases c54 : w = 54
  · rw [if_pos c54]; exact cC54 I h1 h2 h3
  rw [if_neg c54]
  by_cases c55 : w = 55
  · rw [if_pos c55]; exact cC55 I h1 h2 h3
  rw [if_neg c55]
  by_cases c56 : w = 56
  · rw [if_pos c56]; exact cC56 I h1 h2 h3
  rw [if_neg c56]
  by_cases c57 : w = 57
  · rw [if_pos c57]; exact cC57 I h1 h2 h3
  rw [if_neg c57]
  by_cases c58 : w = 58
  · rw [if_pos c58]; exact cC58 I h1 h2 h3
  rw [if_neg c58]
  by_cases c59 : w = 59
  · rw [if_pos c59]; exact cC59 I h1 h2 h3
  rw [if_neg c59]
  exact ⟨V, rfl, I⟩
theorem ib_n {a : Nat} (h : a < N) (hN : N ≤ 2048) : ib (nI a) N = true := by rw [ib_T h (by omega)]; trivial
theorem cL (hN : N ≤ 2048) : ∀ (n i : Nat) (V : Mem), Inv V → i + n = 513 → 4 * i ≤ N → f_law_L xs N n V (nI (4 * i)) = some () := by
  intro n
  induction n with
  | zero => intro i V _ h h4; omega
  | succ n ih =>
    intro i V I h h4
    rw [f_law_L]
    have s4 : (nI N - 4).toInt = (N : Int) - 4 := by
      have h : (nI N - nI 4).toInt = ((N : Nat) : Int) - ((4 : Nat) : Int) := pk_sub_toInt (a := N) (b := 4) (by omega) (by omega)
      rw [show (4 : Int32) = nI 4 from zl4, h]; rfl
    have t4 : (nI (4 * i)).toInt = ((4 * i : Nat) : Int) := nI_toInt (by omega)
    rcases Nat.lt_or_ge N (4 * i + 4) with q | q
    · rw [if_pos (by rw [Int32.lt_iff_toInt_lt, s4, t4]; omega)]
    · rw [if_neg (by rw [Int32.lt_iff_toInt_lt, s4, t4]; omega), if_pos (ib_n (by omega) hN)]
      have e : ∀ k : Nat, nI (4 * i) + nI k = nI (4 * i + k) := fun k => nI_add _ k
      obtain ⟨V1, e1, I1⟩ := cD (xs := xs) (N := N) (x4 := nI (4 * i)) (w := xs (nI (4 * i)).toNatClampNeg &&& 63) I (by rw [show (1 : Int32) = nI 1 from zl1, e]; exact ib_n (by omega) hN) (by rw [show (2 : Int32) = nI 2 from zl2, e]; exact ib_n (by omega) hN) (by rw [show (3 : Int32) = nI 3 from zl3, e]; exact ib_n (by omega) hN)
      rw [e1, bv_s, show nI (4 * i) + 4 = nI (4 * (i + 1)) from e 4]
      exact ih (i + 1) V1 I1 (by omega) (by omega)
end LC
