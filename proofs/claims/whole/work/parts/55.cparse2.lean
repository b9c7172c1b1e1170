/-! PURE, 55: the class reads a program -/
section CQ
variable {V0 V : Mem} {l : List Nat} {c k : Nat} {s : PSt}
theorem drop_lg {F : List Nat} {i : Nat} (h : i < F.length) : F.drop i = lg F i :: F.drop (i + 1) := by
  rw [List.drop_eq_getElem_cons h]
  unfold lg
  rw [List.getD_eq_getElem?_getD, List.getElem?_eq_getElem h]; rfl
theorem fr_len (hk : k < 13) : f_J0_length_8abf5 V k = some (nI (frm k).length, V) := by
  have := (kw_len k hk).2.2.2.1
  have c0 : f_J0_coder_7d493 V k = some (0, V) := rfl
  unfold f_J0_length_8abf5
  rw [c0, bd_s, kw_txt k hk, List.length_map, s0_n (by omega)]
theorem fr_lt (hk : k < 13) {i : Nat} (hi : i < (frm k).length) : lg (frm k) i < 128 := by
  have h := List.all_eq_true.mp (kw_sp k hk).2 (lg (frm k) i) (by
    unfold lg
    rw [List.getD_eq_getElem?_getD, List.getElem?_eq_getElem hi]
    exact List.getElem_mem hi)
  exact of_decide_eq_true h
theorem fr_at (hk : k < 13) {i : Nat} (hi : i < (frm k).length) : f_J0_charAt_5068e V k (nI i) = some (nI (lg (frm k) i), V) := by
  have hl := (kw_len k hk).2.2.2.1
  have hc := fr_lt hk hi
  have c0 : f_J0_isLatin1_aae02 V k = some (1, V) := rfl
  have eg : ((frm k).map nI).getD i 0 = nI (lg (frm k) i) := by
    unfold lg
    rw [List.getD_eq_getElem?_getD, List.getElem?_map, List.getD_eq_getElem?_getD, List.getElem?_eq_getElem hi]; rfl
  unfold f_J0_charAt_5068e f_J1_charAt_3b067 f_J0_checkIndex_df160 f_J3_checkIndex_8e157
  rw [c0, bd_s, if_neg (by decide), kw_txt k hk, List.length_map, if_neg (show ¬ nI i < 0 from nI_pos (by omega)), if_pos (nI_lt hi (by omega)), bd_s, bv_s, if_pos (by rw [ib_T hi (by omega)]; trivial), cl_n (by omega), eg, by_ch hc, bd_s, if_pos (cw_n hc)]
theorem cx_lp (T : Txt V0 249 60 l) (hk : k < 13) (hc : c < 8) : ∀ (m i : Nat) (V : Mem) (s : PSt) (n : Nat), i + m = (frm k).length → m < n → s.1 = true → s.2.1 ≤ l.length → s.2.2.length + sps ((frm k).drop i) ≤ 3 → CS V0 V c k s → ∃ V1, f_X4_readForm_L23 k c n V (nI i) = some (if (rdf l ((frm k).drop i) s).1 = true then nI 1 else nI 0, V1) ∧ CS V0 V1 c k (rdf l ((frm k).drop i) s) := by
  have hf := (kw_len k hk).2.2.2.1
  intro m
  induction m with
  | zero =>
    intro i V s n hi hn h1 hp hs C
    obtain ⟨n, rfl⟩ : ∃ n', n = n' + 1 := ⟨n - 1, by omega⟩
    have ed : (frm k).drop i = [] := List.drop_eq_nil_of_le (by omega)
    rw [ed]
    refine ⟨V, ?_, C⟩
    rw [f_X4_readForm_L23.eq_2, fr_len hk, bd_s, if_pos (nI_le (by omega) (by omega)), show (rdf l [] s).1 = s.1 from rfl, h1]; rfl
  | succ m ih =>
    intro i V s n hi hn h1 hp hs C
    obtain ⟨n, rfl⟩ : ∃ n', n = n' + 1 := ⟨n - 1, by omega⟩
    have hil : i < (frm k).length := by omega
    have ed := drop_lg hil
    rw [ed] at hs ⊢
    have hs : s.2.2.length + (spc (lg (frm k) i) + sps ((frm k).drop (i + 1))) ≤ 3 := hs
    obtain ⟨V1, e1, C1⟩ := cx_rs T C h1 hp hc (fr_lt hk hil) (by omega)
    obtain ⟨a1, a2, a3, a4⟩ := rs_all l (lg (frm k) i) s hp
    rw [f_X4_readForm_L23.eq_2, fr_len hk, bd_s, if_neg (nI_ge hil (by omega)), fr_at hk hil, bd_s, e1, bd_s, rdf_c]
    by_cases q : (rstep l (lg (frm k) i) s).1 = true
    · rw [if_pos q, if_neg (show ¬ nI 1 = (0 : Int32) by decide), show nI i + 1 = nI (i + 1) from nI_1 _]
      exact ih (i + 1) V1 _ n (by omega) (by omega) q a2 (by have := (a3 q).2.2; omega) C1
    · rw [if_neg q, if_pos (show nI 0 = (0 : Int32) from rfl), rdf_F (bf q), if_neg q]
      exact ⟨V1, rfl, C1⟩
/-- between two commands -/
def CB (V0 V : Mem) (c p : Nat) : Prop := (V 222 2 = nI p ∧ V 222 0 = nI c ∧ V 222 1 = V0 222 1) ∧ ∀ d, d ≠ 222 → d ≠ 224 + 3 * c → d ≠ 224 + 3 * c + 2 → V d = V0 d
theorem CS.cb (h : CS V0 V c k s) : CB V0 V c s.2.1 := ⟨h.1, h.2.2⟩
theorem CB.mv {p p2 : Nat} (h : CB V0 V c p) : CB V0 (stv V 222 2 (nI p2)) c p2 := ⟨⟨by rw [st_e, up_e], by rw [st_e, up_n (by omega)]; exact h.1.2.1, by rw [st_e, up_n (by omega)]; exact h.1.2.2⟩, fun d x y z => by rw [st_n x]; exact h.2 d x y z⟩
theorem cx_form {p : Nat} (T : Txt V0 249 60 l) (hk : k < 13) (hc : c < 8) (hp : p ≤ l.length) (h : CB V0 V c p) : ∃ V1, f_X4_readForm V k = some (if (rdf l (frm k) (true, p, [])).1 = true then nI 1 else nI 0, V1) ∧ CS V0 V1 c k (rdf l (frm k) (true, p, [])) := by
  have hf := (kw_len k hk).2.2.2.1
  have hs := kw_sps k hk
  have C : CS V0 (stv (stv V (224 + 3 * c) 1 (nI k)) (224 + 3 * c) 0 (nI 0)) c k (true, p, []) := by
    obtain ⟨⟨a1, a2, a3⟩, f⟩ := h
    refine ⟨⟨by rw [st_n (by omega), st_n (by omega)]; exact a1, by rw [st_n (by omega), st_n (by omega)]; exact a2, by rw [st_n (by omega), st_n (by omega)]; exact a3⟩, ⟨by rw [st_e, up_n (by omega), st_e, up_e], by rw [st_e, up_e]; rfl, fun j hj => absurd hj (Nat.not_lt_zero _)⟩, fun d x y z => by rw [st_n y, st_n y]; exact f d x y z⟩
  obtain ⟨V1, e1, C1⟩ := cx_lp T hk hc (frm k).length 0 _ (true, p, []) FU (by omega) (by unfold FU; omega) rfl hp (by rw [List.drop_zero]; show 0 + _ ≤ 3; omega) C
  rw [List.drop_zero] at e1 C1
  refine ⟨V1, ?_, C1⟩
  unfold f_X4_readForm f_X1_begin
  rw [h.1.2.1, cx_cAt hc, bd_s, om_s, if_pos hc, lt_d, show (0 : Int32) = nI 0 from rfl, lt_d, bv_s]
  exact e1
def farK (l : List Nat) (p : Nat) : Nat → Nat
  | 0 => p
  | k + 1 => if farK l p k < (rdf l (frm k) (true, p, [])).2.1 then (rdf l (frm k) (true, p, [])).2.1 else farK l p k
theorem far_le {p : Nat} (hp : p ≤ l.length) : ∀ k, k ≤ 13 → farK l p k ≤ (cmd l p).2.1 ∧ (kbK l p < k → farK l p k = (cmd l p).2.1)
  | 0, _ => ⟨(rdf_all l (frm (kbK l p)) (true, p, []) hp).1, fun h => absurd h (Nat.not_lt_zero _)⟩
  | k + 1, hk => by
    obtain ⟨a, b⟩ := far_le hp k (by omega)
    unfold farK
    by_cases e : k = kbK l p
    · have ee : (rdf l (frm k) (true, p, [])).2.1 = (cmd l p).2.1 := by rw [e]; rfl
      rw [ee]
      by_cases q : farK l p k < (cmd l p).2.1
      · rw [if_pos q]; exact ⟨Nat.le_refl _, fun _ => rfl⟩
      · rw [if_neg q]; exact ⟨a, fun _ => by omega⟩
    · have c := (cmd_ne hp (by omega) e).2
      by_cases q : farK l p k < (rdf l (frm k) (true, p, [])).2.1
      · rw [if_pos q]
        refine ⟨c, fun h => ?_⟩
        have := b (by omega)
        omega
      · rw [if_neg q]; exact ⟨a, fun h => b (by omega)⟩
theorem cx_cmd {p : Nat} (T : Txt V0 249 60 l) (hc : c < 8) (hp : p ≤ l.length) (h : CB V0 V c p) : ∃ V1, (∃ k, CS V0 V1 c k (cmd l p) ∧ k = kbK l p ∧ (cmd l p).1 = true ∧ f_X4_readCommand V = some (nI 1, stv V1 222 0 (nI (c + 1)))) ∨ ∃ p2, CB V0 V1 c p2 ∧ (cmd l p).1 = false ∧ f_X4_readCommand V = some (nI 0, stv V1 222 1 (nI (cmd l p).2.1)) := by
  have hM := T.2.1
  have hkb := kb_lt l p
  unfold f_X4_readCommand
  rw [jn_d, jn_d, h.1.1]
  have key : ∀ (m kk : Nat) (V : Mem) (n p1 : Nat) (j49 : Mem → Option (Int32 × Mem)) (j76 : Mem → Int32 → Option (Int32 × Mem)), kk + m = 13 → m < n → (kbK l p < kk → (cmd l p).1 = false) → CB V0 V c p1 → ∃ V1, (CS V0 V1 c (kbK l p) (cmd l p) ∧ (cmd l p).1 = true ∧ f_X4_readCommand_L20 (nI p) j49 j76 n V (nI (farK l p kk)) (nI kk) = j49 V1) ∨ ∃ p2, CB V0 V1 c p2 ∧ (cmd l p).1 = false ∧ f_X4_readCommand_L20 (nI p) j49 j76 n V (nI (farK l p kk)) (nI kk) = j76 V1 (nI (farK l p 13)) := by
    intro m
    induction m with
    | zero =>
      intro kk V n p1 j49 j76 hkk hn hno C
      obtain ⟨n, rfl⟩ : ∃ n', n = n' + 1 := ⟨n - 1, by omega⟩
      obtain rfl : kk = 13 := by omega
      exact ⟨V, .inr ⟨p1, C, hno (by omega), by rw [f_X4_readCommand_L20.eq_2, if_pos (by decide)]⟩⟩
    | succ m ih =>
      intro kk V n p1 j49 j76 hkk hn hno C
      obtain ⟨n, rfl⟩ : ∃ n', n = n' + 1 := ⟨n - 1, by omega⟩
      have hk13 : kk < 13 := by omega
      obtain ⟨V1, e1, C1⟩ := cx_form (k := kk) T hk13 hc hp (C.mv (p2 := p))
      have hfar := (far_le hp kk (by omega)).1
      have hcm := (rdf_all l (frm (kbK l p)) (true, p, []) hp).2.1
      have hcm : (cmd l p).2.1 ≤ l.length := hcm
      have hr := (rdf_all l (frm kk) (true, p, []) hp).2.1
      have st : f_X4_readCommand_L20 (nI p) j49 j76 (n + 1) V (nI (farK l p kk)) (nI kk) = if (if (rdf l (frm kk) (true, p, [])).1 = true then nI 1 else nI 0) = 0 then f_X4_readCommand_L20 (nI p) j49 j76 n V1 (nI (farK l p (kk + 1))) (nI (kk + 1)) else j49 V1 := by
        rw [f_X4_readCommand_L20.eq_2, if_neg (show ¬ (13 : Int32) ≤ nI kk from nI_ge (a := kk) (b := 13) hk13 (by omega)), if_pos (by rw [ib_T hk13 (by omega)]; trivial), lt_d, cl_n (by omega), e1, bd_s, C1.1.1, show nI kk + 1 = nI (kk + 1) from nI_1 _]
        have ef : (if nI (farK l p kk) < nI (rdf l (frm kk) (true, p, [])).2.1 then nI (rdf l (frm kk) (true, p, [])).2.1 else nI (farK l p kk)) = nI (farK l p (kk + 1)) := by
          show _ = nI (if farK l p kk < (rdf l (frm kk) (true, p, [])).2.1 then (rdf l (frm kk) (true, p, [])).2.1 else farK l p kk)
          by_cases q : farK l p kk < (rdf l (frm kk) (true, p, [])).2.1
          · rw [if_pos q, if_pos (nI_lt q (by omega))]
          · rw [if_neg q, if_neg (nI_nlt (by omega) (by omega))]
        rw [ef]
      rw [st]
      by_cases q : (rdf l (frm kk) (true, p, [])).1 = true
      · have ek : kk = kbK l p := by
          by_cases e : kk = kbK l p
          · exact e
          · rw [(cmd_ne hp hk13 e).1] at q; exact Bool.noConfusion q
        rw [if_pos q, if_neg (show ¬ nI 1 = (0 : Int32) by decide)]
        subst ek
        exact ⟨V1, .inl ⟨C1, q, rfl⟩⟩
      · rw [if_neg q, if_pos (show nI 0 = (0 : Int32) from rfl)]
        refine ih (kk + 1) V1 n _ j49 j76 (by omega) (by omega) (fun hlt => ?_) C1.cb
        by_cases e : kk = kbK l p
        · subst e; exact bf q
        · exact hno (by omega)
  obtain ⟨V1, H⟩ := key 13 0 V FU p (fun (V49 : Mem) => lt (stv V49 222 0 ((V49 222 0) + 1)) fun V56 => some (1, V56)) (fun (V76 : Mem) (x3_76 : Int32) => lt (stv V76 222 1 x3_76) fun V78 => some (0, V78)) (by omega) (by decide) (fun h => absurd h (Nat.not_lt_zero _)) h
  refine ⟨V1, ?_⟩
  rcases H with ⟨a, b, e⟩ | ⟨p2, a, b, e⟩
  · refine .inl ⟨_, a, rfl, b, e.trans ?_⟩
    show lt (stv V1 222 0 (V1 222 0 + 1)) _ = _
    rw [a.1.2.1, show nI c + 1 = nI (c + 1) from nI_1 _, lt_d]; rfl
  · refine .inr ⟨p2, a, b, e.trans ?_⟩
    show lt (stv V1 222 1 (nI (farK l p 13))) _ = _
    rw [lt_d, (far_le hp 13 (by omega)).2 hkb]; rfl
end CQ
