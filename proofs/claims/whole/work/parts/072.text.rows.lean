theorem in_J4 : ∀ w ∈ u_ws RJ4 TJ4 4, w ∈ TB := by
  intro w hw
  obtain ⟨k, hk, rfl⟩ := List.mem_map.mp hw
  have hk := List.mem_range.mp hk
  rcases Nat.eq_or_lt_of_le (Nat.le_of_lt_succ hk) with rfl | hk
  · first | exact tw_1_203 | exact tw_1_205 | exact tw_1_207 | exact tw_1_209
  rcases Nat.eq_or_lt_of_le (Nat.le_of_lt_succ hk) with rfl | hk
  · first | exact tw_1_203 | exact tw_1_205 | exact tw_1_207 | exact tw_1_209
  rcases Nat.eq_or_lt_of_le (Nat.le_of_lt_succ hk) with rfl | hk
  · first | exact tw_1_203 | exact tw_1_205 | exact tw_1_207 | exact tw_1_209
  rcases Nat.eq_or_lt_of_le (Nat.le_of_lt_succ hk) with rfl | hk
  · first | exact tw_1_203 | exact tw_1_205 | exact tw_1_207 | exact tw_1_209
  exact absurd hk (Nat.not_lt_zero _)
section R072
variable {p : Program} {l : Launch} {e : Env} {R : Room} {s : State} {m : MethodId} {args : Array Value} {below : List Frame} {meth : Method} {c : Code} {H : Heap} {locs : List Loc} {cells slots : Nat} {Q : State → Prop}
variable {E : En} {ad sa : Nat → Nat} {V V1 Vz : Mem} {ow : String} {b : ByteArray} {n index : Nat} {ret : Option FieldType} {pc : Nat} {ls : Array Slot} {rest : List Value} {t w : Nat}
/-- the two texts -/
def TX (t : Nat) : Prop := t = 249 ∨ t = 251
def Fr (E : En) : Prop := ∀ sa, eT E sa
def Fx (E : En) (sa : Nat → Nat) : Prop := ∀ z, eT E z → z = sa
def fixE (E : En) (sa : Nat → Nat) : En := (E.1, E.2.1, E.2.2.1, E.2.2.2.1, E.2.2.2.2.1, fun z => z = sa)
theorem fx_fix : Fx (fixE E sa) sa := fun _ h => h
theorem sf_fix (h : SF E) : SF (fixE E sa) := h
theorem cx_fix (h : Cx p s m args c meth E ow b n ret) : Cx p s m args c meth (fixE E sa) ow b n ret := h
theorem cell_fix (ad : Nat → Nat) (i : Nat) (v : Nat → Int32) : cell (fixE E sa) ad i v = cell E ad i v := by
  have h1 : eC (fixE E sa) = eC E := rfl
  have h2 : eK (fixE E sa) = eK E := rfl
  unfold cell stCell cmCell loCell
  simp only [h1, h2]
theorem world_fix {z : Nat → Nat} : world (fixE E sa) ad z V = world E ad z V := by
  unfold world
  simp only [cell_fix]
theorem in_fix (hI : In E ad V s H locs) : ∃ sa, In (fixE E sa) ad V s H locs := by
  obtain ⟨⟨sa, hP, hD, hA⟩, hS⟩ := hI
  exact ⟨sa, ⟨sa, by rw [world_fix]; exact hP, by rw [world_fix]; exact hD, rfl⟩, hS⟩
theorem in_unfix (hF : Fr E) (hI : In (fixE E sa) ad V s H locs) : In E ad V s H locs := by
  obtain ⟨⟨z, hP, hD, -⟩, hS⟩ := hI
  rw [world_fix] at hP hD
  exact ⟨⟨z, hP, hD, hF z⟩, hS⟩
theorem tx_ok (h : TX t) : okc t := by rcases h with rfl | rfl <;> exact ⟨by decide, by decide, by decide⟩
theorem tx_lt (h : TX t) : t + 1 < 266 := by rcases h with rfl | rfl <;> decide
theorem ce_tx (h : TX t) (ad : Nat → Nat) (v : Nat → Int32) : cell E ad t v = .inr (1, [.ref (ad (t + 1)), .int 0, .int (v 0), .int (v 1)]) := by rcases h with rfl | rfl <;> rfl
theorem ce_tb (h : TX t) (ad : Nat → Nat) (v : Nat → Int32) : cell E ad (t + 1) v = .inl (eC E 1, (v 0).toNatClampNeg, .inl (fun j => v (j + 1))) := by rcases h with rfl | rfl <;> rfl
theorem world_gt {i : Nat} (h : i < 266) : (world E ad sa V)[i]? = some (adx ad sa i, cell E (adx ad sa) i (V i)) := pool_get h
theorem world_st {i : Nat} {v : Nat → Int32} : (world E ad sa V).set i (adx ad sa i, cell E (adx ad sa) i v) = world E ad sa (va_up V i v) := by
  unfold world
  rw [pool_set]
  congr 1
  funext j
  by_cases h : j = i
  · subst h; simp [va_up]
  · simp [va_up, h]
def bln (V : Mem) (t : Nat) : Nat := (V (t + 1) 0).toNatClampNeg
theorem world_gb (ht : TX t) : (world E ad sa V)[t + 1]? = some (adx ad sa (t + 1), .inl (eC E 1, bln V t, .inl (fun j => V (t + 1) (j + 1)))) := by
  rw [world_gt (tx_lt ht), ce_tb ht]; rfl
/-- fields of a text -/
theorem t_get (ht : TX t) (hC : Cx p s m args c meth E ow b n ret) (hI : In E ad V s H locs) {ref : String} {v : Value} (k : Nat) (hk : k < 4) (hlink : Cond.fieldLink ow index ref (TJ4 k).2.1 (TJ4 k).2.2.1 ∈ TB) (href : (TJ4 k).1 = ref) (hv : ∀ sa, eT E sa → ([.ref (adx ad sa (t + 1)), .int 0, .int (V t 0), .int (V t 1)] : List Value)[k]? = some v) (hdg : decode b pc = .ok (.getfield index, 3)) (kk : W p l e R s m args below meth c H locs cells slots Q (F0 m (pc + 3) ls (v :: rest))) : W p l e R s m args below meth c H locs cells slots Q (F0 m pc ls (.ref (ad t) :: rest)) := by
  obtain ⟨⟨sa, hP, hD, hA⟩, hS⟩ := hI
  exact va_get (T := TJ4) hC.1 hC.2.1 hC.2.2.2.2.1 in_J4 hC.2.2.2.1 hC.2.2.2.2.2.1 hP t ((world_get (tx_ok ht)).trans (by rw [ce_tx ht])) rfl k hk (hC.2.2.2.2.1 _ hlink) (by subst href; exact fun _ h => h) (hv sa hA) hdg kk
theorem t_value (ht : TX t) (hA : Fx E sa) (hC : Cx p s m args c meth E ow b n ret) (hI : In E ad V s H locs) (hlink : Cond.fieldLink ow index "java/lang/AbstractStringBuilder" "value" "[B" ∈ TB) (hdg : decode b pc = .ok (.getfield index, 3)) (kk : W p l e R s m args below meth c H locs cells slots Q (F0 m (pc + 3) ls (.ref (adx ad sa (t + 1)) :: rest))) : W p l e R s m args below meth c H locs cells slots Q (F0 m pc ls (.ref (ad t) :: rest)) :=
  t_get ht hC hI 0 (by decide) hlink rfl (fun z hz => by rw [hA z hz]; rfl) hdg kk
theorem t_coder (ht : TX t) (hC : Cx p s m args c meth E ow b n ret) (hI : In E ad V s H locs) (hlink : Cond.fieldLink ow index "java/lang/AbstractStringBuilder" "coder" "B" ∈ TB) (hdg : decode b pc = .ok (.getfield index, 3)) (kk : W p l e R s m args below meth c H locs cells slots Q (F0 m (pc + 3) ls (.int 0 :: rest))) : W p l e R s m args below meth c H locs cells slots Q (F0 m pc ls (.ref (ad t) :: rest)) :=
  t_get ht hC hI 1 (by decide) hlink rfl (fun z hz => rfl) hdg kk
theorem t_count (ht : TX t) (hC : Cx p s m args c meth E ow b n ret) (hI : In E ad V s H locs) (hlink : Cond.fieldLink ow index "java/lang/AbstractStringBuilder" "count" "I" ∈ TB) (hdg : decode b pc = .ok (.getfield index, 3)) (kk : W p l e R s m args below meth c H locs cells slots Q (F0 m (pc + 3) ls (.int (V t 1) :: rest))) : W p l e R s m args below meth c H locs cells slots Q (F0 m pc ls (.ref (ad t) :: rest)) :=
  t_get ht hC hI 3 (by decide) hlink rfl (fun z hz => rfl) hdg kk
theorem t_put (ht : TX t) (hC : Cx p s m args c meth E ow b n ret) (hI : In E ad V s H locs) {ref : String} {x : Value} {ty : FieldType} {v : Nat → Int32} (k : Nat) (hk : k < 4) (hlink : Cond.fieldLink ow index ref (TJ4 k).2.1 (TJ4 k).2.2.1 ∈ TB) (href : (TJ4 k).1 = ref) (hfin : (TJ4 k).2.2.2 = false) (hd : parseFieldDescriptor (TJ4 k).2.2.1 = some ty) (hn : narrow ty x = x) (hfit : fits ty x = true) (hs : ∀ sa, ([.ref (adx ad sa (t + 1)), .int 0, .int (V t 0), .int (V t 1)] : List Value).set k x = [.ref (adx ad sa (t + 1)), .int 0, .int (v 0), .int (v 1)]) (hdg : decode b pc = .ok (.putfield index, 3)) (kk : ∀ (H1 : Heap) (locs1 : List Loc), In E ad (va_up V t v) s H1 locs1 → W p l e R s m args below meth c H1 locs1 cells slots Q (F0 m (pc + 3) ls rest)) : W p l e R s m args below meth c H locs cells slots Q (F0 m pc ls (x :: .ref (ad t) :: rest)) := by
  obtain ⟨⟨sa, hP, hD, hA⟩, hS⟩ := hI
  exact va_put (T := TJ4) (fs := [.ref (adx ad sa (t + 1)), .int 0, .int (V t 0), .int (V t 1)]) hC.1 hC.2.1 hC.2.2.2.2.1 in_J4 tyJ4 tyJ4_ok nmJ4 hC.2.2.2.1 hC.2.2.2.2.2.1 hP hD hS t ((world_get (tx_ok ht)).trans (by rw [ce_tx ht])) rfl k hk (hC.2.2.2.2.1 _ hlink) (by subst href; exact fun _ h => h) hfin hd hn hfit hk hdg (fun H1 locs1 hP hD hS => kk H1 locs1 ⟨⟨sa, by rw [hs sa, ← ce_tx (E := E) ht, world_set (tx_ok ht)] at hP; exact hP, by rw [hs sa, ← ce_tx (E := E) ht, world_set (tx_ok ht)] at hD; exact hD, hA⟩, hS⟩)
theorem t_pcount (ht : TX t) {x : Int32} (hC : Cx p s m args c meth E ow b n ret) (hI : In E ad V s H locs) (he : V1 = stv V t 1 x) (hlink : Cond.fieldLink ow index "java/lang/AbstractStringBuilder" "count" "I" ∈ TB) (hdg : decode b pc = .ok (.putfield index, 3)) (kk : ∀ (H1 : Heap) (locs1 : List Loc), In E ad V1 s H1 locs1 → W p l e R s m args below meth c H1 locs1 cells slots Q (F0 m (pc + 3) ls rest)) : W p l e R s m args below meth c H locs cells slots Q (F0 m pc ls (.int x :: .ref (ad t) :: rest)) := by
  subst he
  exact t_put ht hC hI 3 (by decide) hlink rfl rfl rfl rfl rfl (fun sa => by simp [upd]) hdg kk
theorem t_pmaybe (ht : TX t) {x : Int32} (hx : x = 0 ∨ x = 1) (hC : Cx p s m args c meth E ow b n ret) (hI : In E ad V s H locs) (he : V1 = stv V t 0 x) (hlink : Cond.fieldLink ow index "java/lang/AbstractStringBuilder" "maybeLatin1" "Z" ∈ TB) (hdg : decode b pc = .ok (.putfield index, 3)) (kk : ∀ (H1 : Heap) (locs1 : List Loc), In E ad V1 s H1 locs1 → W p l e R s m args below meth c H1 locs1 cells slots Q (F0 m (pc + 3) ls rest)) : W p l e R s m args below meth c H locs cells slots Q (F0 m pc ls (.int x :: .ref (ad t) :: rest)) := by
  subst he
  exact t_put ht hC hI 2 (by decide) hlink rfl rfl rfl (bo_n hx) (bo_f hx) (fun sa => by simp [upd]) hdg kk
/-- a text's bytes -/
theorem t_blen (ht : TX t) (hA : Fx E sa) (hC : Cx p s m args c meth E ow b n ret) (hI : In E ad V s H locs) (hdg : decode b pc = .ok (.arraylength, 1)) (kk : W p l e R s m args below meth c H locs cells slots Q (F0 m (pc + 1) ls (.int (nI (bln V t)) :: rest))) : W p l e R s m args below meth c H locs cells slots Q (F0 m pc ls (.ref (adx ad sa (t + 1)) :: rest)) := by
  obtain ⟨⟨z, hP, hD, hZ⟩, hS⟩ := hI
  rw [← hA z hZ]
  exact va_alen (x := (bln V t, .inl (fun j => V (t + 1) (j + 1)))) hC.1 hC.2.1 hC.2.2.2.2.2.1 hP (t + 1) 1 (world_gb ht) rfl rfl hdg kk
theorem t_bld (ht : TX t) (hA : Fx E sa) {x : Int32} (hC : Cx p s m args c meth E ow b n ret) (hI : In E ad V s H locs) (hin : vp_in x (bln V t)) (hdg : decode b pc = .ok (.baload, 1)) (kk : W p l e R s m args below meth c H locs cells slots Q (F0 m (pc + 1) ls (.int (V (t + 1) (x.toNatClampNeg + 1)) :: rest))) : W p l e R s m args below meth c H locs cells slots Q (F0 m pc ls (.int x :: .ref (adx ad sa (t + 1)) :: rest)) := by
  obtain ⟨⟨z, hP, hD, hZ⟩, hS⟩ := hI
  rw [← hA z hZ]
  exact va_bald hC.1 hC.2.1 hC.2.2.2.2.2.1 hP (t + 1) 1 (world_gb ht) rfl hin hdg kk
theorem tb_up {N : Nat} {f : Nat → Int32} (ht : TX t) (hN : N = bln V t) : (.inl (eC E 1, N, .inl f) : va_E) = cell E (adx ad sa) (t + 1) (fun j => if j = 0 then V (t + 1) 0 else f (j - 1)) := by
  rw [ce_tb ht, hN]; rfl
theorem t_bst (ht : TX t) (hA : Fx E sa) {x z : Int32} (hC : Cx p s m args c meth E ow b n ret) (hI : In E ad V s H locs) (hin : vp_in x (bln V t)) (he : V1 = stv V (t + 1) (x.toNatClampNeg + 1) (vp_nar .byte z)) (hdg : decode b pc = .ok (.bastore, 1)) (kk : ∀ (H1 : Heap) (locs1 : List Loc), In E ad V1 s H1 locs1 → W p l e R s m args below meth c H1 locs1 cells slots Q (F0 m (pc + 1) ls rest)) : W p l e R s m args below meth c H locs cells slots Q (F0 m pc ls (.int z :: .int x :: .ref (adx ad sa (t + 1)) :: rest)) := by
  subst he
  obtain ⟨⟨z0, hP, hD, hZ⟩, hS⟩ := hI
  have hzz := hA z0 hZ
  subst hzz
  have e1 : (.inl (eC E 1, bln V t, .inl (upd (fun j => V (t + 1) (j + 1)) x.toNatClampNeg (vp_nar .byte z))) : va_E) = cell E (adx ad z0) (t + 1) (upd (V (t + 1)) (x.toNatClampNeg + 1) (vp_nar .byte z)) := by
    rw [ce_tb ht]
    congr 1
    · simp only [upd]
      congr 1
      congr 1
      congr 1
      funext j
      simp [upd]
  exact va_bast hC.1 hC.2.1 hC.2.2.2.2.2.1 hP hD hS (t + 1) 1 (world_gb ht) rfl hin hdg (fun H1 locs1 hP hD hS => kk H1 locs1 ⟨⟨z0, by rw [e1, world_st] at hP; exact hP, by rw [e1, world_st] at hD; exact hD, hZ⟩, hS⟩)
theorem tx_fit (hw : w < 17) (i : Nat) : fits .byte (.int ((textOf w).getD i 0)) = true := by
  have h : ∀ w, w < 17 → ∀ x ∈ textOf w, fits .byte (.int x) = true := by decide +kernel
  rcases Nat.lt_or_ge i (textOf w).length with q | q
  · rw [List.getD_eq_getElem?_getD, List.getElem?_eq_getElem q]; exact h w hw _ (List.getElem_mem q)
  · rw [List.getD_eq_getElem?_getD, List.getElem?_eq_none q]; rfl
/-- constant texts -/
theorem sfT (hS : SF E) (hC : Cx p s m args c meth E ow b n ret) : vk_S 17 ((List.range 17).map fun i => (textOf i).length) ((List.range 17).map textOf) (eA E 3) (eA E 4) (ours E) s s.heap := (hS s s.heap hC.2.2.2.2.2.2.2.1).2.2.2.2.2.2.2.1
theorem tx_len (hw : w < 17) : ((List.range 17).map fun i => (textOf i).length).getD w 0 = (textOf w).length := by
  simp [List.getD, hw]
theorem tx_byt (hw : w < 17) : ((List.range 17).map textOf).getD w [] = textOf w := by
  simp [List.getD, hw]
theorem sfTb (hS : SF E) (hw : w < 17) (hC : Cx p s m args c meth E ow b n ret) : va_T .byte (eA E 4 w) (textOf w).length (fun j => .int ((textOf w).getD j 0)) (ours E) s s.heap := by
  have h := ((sfT hS hC).1 w hw).2.2.2
  rw [tx_len hw, tx_byt hw] at h
  exact h
theorem t_sval (hS : SF E) (hw : w < 17) (hC : Cx p s m args c meth E ow b n ret) (hI : In E ad V s H locs) (hlink : Cond.fieldLink ow index "java/lang/String" "value" "[B" ∈ TB) (hdg : decode b pc = .ok (.getfield index, 3)) (kk : W p l e R s m args below meth c H locs cells slots Q (F0 m (pc + 3) ls (.ref (eA E 4 w) :: rest))) : W p l e R s m args below meth c H locs cells slots Q (F0 m pc ls (.ref (eA E 3 w) :: rest)) :=
  vk_getf hC.1 hC.2.1 ((sfT hS hC).1 w hw).2.2.1 hI.2 hC.2.2.2.1 (hC.2.2.2.2.1 _ hlink) (fun _ h => h) hdg kk
theorem t_scod (hS : SF E) (hw : w < 17) (hC : Cx p s m args c meth E ow b n ret) (hI : In E ad V s H locs) (hlink : Cond.fieldLink ow index "java/lang/String" "coder" "B" ∈ TB) (hdg : decode b pc = .ok (.getfield index, 3)) (kk : W p l e R s m args below meth c H locs cells slots Q (F0 m (pc + 3) ls (.int 0 :: rest))) : W p l e R s m args below meth c H locs cells slots Q (F0 m pc ls (.ref (eA E 3 w) :: rest)) :=
  vk_getf hC.1 hC.2.1 ((sfT hS hC).1 w hw).2.1 hI.2 hC.2.2.2.1 (hC.2.2.2.2.1 _ hlink) (fun _ h => h) hdg kk
theorem t_slen (hS : SF E) (hw : w < 17) (hC : Cx p s m args c meth E ow b n ret) (hI : In E ad V s H locs) (hdg : decode b pc = .ok (.arraylength, 1)) (kk : W p l e R s m args below meth c H locs cells slots Q (F0 m (pc + 1) ls (.int (nI (textOf w).length) :: rest))) : W p l e R s m args below meth c H locs cells slots Q (F0 m pc ls (.ref (eA E 4 w) :: rest)) :=
  va_tlen hC.1 hC.2.1 (sfTb hS hw hC) hI.2 rfl hdg kk
theorem t_sld (hS : SF E) (hw : w < 17) {x : Int32} (hC : Cx p s m args c meth E ow b n ret) (hI : In E ad V s H locs) (hin : vp_in x (textOf w).length) (hdg : decode b pc = .ok (.baload, 1)) (kk : W p l e R s m args below meth c H locs cells slots Q (F0 m (pc + 1) ls (.int ((textOf w).getD x.toNatClampNeg 0) :: rest))) : W p l e R s m args below meth c H locs cells slots Q (F0 m pc ls (.int x :: .ref (eA E 4 w) :: rest)) :=
  va_tb hC.1 hC.2.1 (sfTb hS hw hC) hI.2 hin rfl hdg kk
theorem t_scpy (hS : SF E) (hw : w < 17) (ht : TX t) (hA : Fx E sa) {sp dp k : Int32} (hC : Cx p s m args c meth E ow b n ret) (hI : In E ad V s H locs) (hsz : ls.size = n) (hin : cpOk sp dp k (textOf w).length (bln V t) = true) (he : V1 = va_up V (t + 1) (fun j => if j = 0 then V (t + 1) 0 else va_cpy (fun j => (textOf w).getD j 0) (fun j => V (t + 1) (j + 1)) sp.toNatClampNeg dp.toNatClampNeg k.toNatClampNeg (j - 1))) (hl : Cond.methodLink ow index arraycopyName ∈ TB) (hR : 1 ≤ R.frames ∧ (rest.map fun v => v.category).sum + (nativeFrameWords "java/lang/System" "arraycopy" 5 + 11) ≤ R.locals) (hdg : decode b pc = .ok (.invokestatic index, 3)) (kk : ∀ (H1 : Heap) (locs1 : List Loc), In E ad V1 s H1 locs1 → W p l e R s m args below meth c H1 locs1 cells slots Q (F0 m (pc + 3) ls rest)) : W p l e R s m args below meth c H locs cells slots Q (F0 m pc ls (.int k :: .int dp :: .ref (adx ad sa (t + 1)) :: .int sp :: .ref (eA E 4 w) :: rest)) := by
  subst he
  simp only [cpOk, Bool.and_eq_true, decide_eq_true_eq] at hin
  obtain ⟨⟨⟨⟨h1, h2⟩, h3⟩, h4⟩, h5⟩ := hin
  obtain ⟨⟨z0, hP, hD, hZ⟩, hSS⟩ := hI
  have hzz := hA z0 hZ
  subst hzz
  refine vk_copyt hC.1 hC.2.1 (hC.2.2.1.trans hsz.symm) hC.2.2.2.1 (hC.2.2.2.2.1 _ hl) (hC.2.2.2.2.1 _ tw_2_34) (hC.2.2.2.2.1 _ tw_2_33) (hC.2.2.2.2.1 _ tw_1_24) hC.2.2.2.2.2.1 hP hD hSS (sfTb hS hw hC) (t + 1) 1 (world_gb ht) rfl (nle h1) (nle h2) (nle h3) h4 h5 (fun i _ => tx_fit hw _) hR.1 hR.2 hdg (fun H1 locs1 hP hD hS => kk H1 locs1 ⟨⟨z0, ?_, ?_, hZ⟩, hS⟩)
  · rw [tb_up (ad := ad) (sa := z0) ht rfl, world_st] at hP; exact hP
  · rw [tb_up (ad := ad) (sa := z0) ht rfl, world_st] at hD; exact hD
/-- statics of the JDK, tables -/
theorem t_compact (hS : SF E) (hC : Cx p s m args c meth E ow b n ret) (hI : In E ad V s H locs) (hl : Cond.fieldLink ow index "java/lang/String" "COMPACT_STRINGS" "Z" ∈ TB) (hdg : decode b pc = .ok (.getstatic index, 3)) (kk : W p l e R s m args below meth c H locs cells slots Q (F0 m (pc + 3) ls (.int 1 :: rest))) : W p l e R s m args below meth c H locs cells slots Q (F0 m pc ls rest) :=
  va_gets hC.1 hC.2.1 (hS s s.heap hC.2.2.2.2.2.2.2.1).2.2.2.2.2.2.2.2.2.1 hI.2 hC.2.2.2.1 (hC.2.2.2.2.1 _ hl) (fun _ h => h) hdg kk
theorem t_ones (hS : SF E) (hC : Cx p s m args c meth E ow b n ret) (hI : In E ad V s H locs) (hl : Cond.fieldLink ow index "java/lang/Integer" "DigitOnes" "[B" ∈ TB) (hdg : decode b pc = .ok (.getstatic index, 3)) (kk : W p l e R s m args below meth c H locs cells slots Q (F0 m (pc + 3) ls (.ref (eA E 2 2) :: rest))) : W p l e R s m args below meth c H locs cells slots Q (F0 m pc ls rest) :=
  va_gets hC.1 hC.2.1 (hS s s.heap hC.2.2.2.2.2.2.2.1).2.2.2.2.2.2.2.2.2.2.1.1 hI.2 hC.2.2.2.1 (hC.2.2.2.2.1 _ hl) (fun _ h => h) hdg kk
theorem t_tens (hS : SF E) (hC : Cx p s m args c meth E ow b n ret) (hI : In E ad V s H locs) (hl : Cond.fieldLink ow index "java/lang/Integer" "DigitTens" "[B" ∈ TB) (hdg : decode b pc = .ok (.getstatic index, 3)) (kk : W p l e R s m args below meth c H locs cells slots Q (F0 m (pc + 3) ls (.ref (eA E 2 3) :: rest))) : W p l e R s m args below meth c H locs cells slots Q (F0 m pc ls rest) :=
  va_gets hC.1 hC.2.1 (hS s s.heap hC.2.2.2.2.2.2.2.1).2.2.2.2.2.2.2.2.2.2.2.1.1 hI.2 hC.2.2.2.1 (hC.2.2.2.2.1 _ hl) (fun _ h => h) hdg kk
def digOf (q : Nat) (j : Nat) : Int32 := if q = 2 then nI (48 + j % 10) else nI (48 + j / 10)
theorem t_dig2 (hS : SF E) {x : Int32} (hC : Cx p s m args c meth E ow b n ret) (hI : In E ad V s H locs) (hin : vp_in x 100) (hdg : decode b pc = .ok (.baload, 1)) (kk : W p l e R s m args below meth c H locs cells slots Q (F0 m (pc + 1) ls (.int (digOf 2 x.toNatClampNeg) :: rest))) : W p l e R s m args below meth c H locs cells slots Q (F0 m pc ls (.int x :: .ref (eA E 2 2) :: rest)) :=
  va_tb hC.1 hC.2.1 (hS s s.heap hC.2.2.2.2.2.2.2.1).2.2.2.2.2.2.2.2.2.2.1.2 hI.2 hin rfl hdg kk
theorem t_dig3 (hS : SF E) {x : Int32} (hC : Cx p s m args c meth E ow b n ret) (hI : In E ad V s H locs) (hin : vp_in x 100) (hdg : decode b pc = .ok (.baload, 1)) (kk : W p l e R s m args below meth c H locs cells slots Q (F0 m (pc + 1) ls (.int (digOf 3 x.toNatClampNeg) :: rest))) : W p l e R s m args below meth c H locs cells slots Q (F0 m pc ls (.int x :: .ref (eA E 2 3) :: rest)) :=
  va_tb hC.1 hC.2.1 (hS s s.heap hC.2.2.2.2.2.2.2.1).2.2.2.2.2.2.2.2.2.2.2.1.2 hI.2 hin rfl hdg kk
/-- the kinds of commands, and their forms -/
theorem t_kinds (hS : SF E) {host : String} (hC : Cx p s m args c meth E ow b n ret) (hI : In E ad V s H locs) (hl : Cond.fieldLinkNest ow index "LetterRepository" "KINDS" "[LLetterRepository$Kind;" host ∈ NB) (hdg : decode b pc = .ok (.getstatic index, 3)) (kk : W p l e R s m args below meth c H locs cells slots Q (F0 m (pc + 3) ls (.ref (eA E 2 0) :: rest))) : W p l e R s m args below meth c H locs cells slots Q (F0 m pc ls rest) :=
  va_getsN hC.1 hC.2.1 (hS s s.heap hC.2.2.2.2.2.2.2.1).2.2.1.1 hI.2 hC.2.2.2.1 (va_Nw.use rfl (hC.2.2.2.2.2.2.2.2.2.2.2 _ hl)) (fun _ h => h) hdg kk
theorem t_klen (hS : SF E) (hC : Cx p s m args c meth E ow b n ret) (hI : In E ad V s H locs) (hdg : decode b pc = .ok (.arraylength, 1)) (kk : W p l e R s m args below meth c H locs cells slots Q (F0 m (pc + 1) ls (.int 13 :: rest))) : W p l e R s m args below meth c H locs cells slots Q (F0 m pc ls (.ref (eA E 2 0) :: rest)) :=
  va_tlen hC.1 hC.2.1 (hS s s.heap hC.2.2.2.2.2.2.2.1).2.2.1.2 hI.2 rfl hdg kk
theorem t_kld (hS : SF E) {x : Int32} (hC : Cx p s m args c meth E ow b n ret) (hI : In E ad V s H locs) (hin : vp_in x 13) (hdg : decode b pc = .ok (.aaload, 1)) (kk : W p l e R s m args below meth c H locs cells slots Q (F0 m (pc + 1) ls (.ref (eK E x.toNatClampNeg) :: rest))) : W p l e R s m args below meth c H locs cells slots Q (F0 m pc ls (.int x :: .ref (eA E 2 0) :: rest)) :=
  vb_tq hC.1 hC.2.1 (hS s s.heap hC.2.2.2.2.2.2.2.1).2.2.1.2 hI.2 hin rfl hdg kk
theorem t_form {z : Nat} (hS : SF E) (hz : z < 13) {host : String} (hC : Cx p s m args c meth E ow b n ret) (hI : In E ad V s H locs) (hl : Cond.fieldLinkNest ow index "LetterRepository$Kind" "form" "Ljava/lang/String;" host ∈ NB) (hdg : decode b pc = .ok (.getfield index, 3)) (kk : W p l e R s m args below meth c H locs cells slots Q (F0 m (pc + 3) ls (.ref (eA E 3 z) :: rest))) : W p l e R s m args below meth c H locs cells slots Q (F0 m pc ls (.ref (eK E z) :: rest)) :=
  by
  obtain ⟨cf, k, fi, f, cell, h1, h2, h3, h4, h5, h6⟩ := ((hS s s.heap hC.2.2.2.2.2.2.2.1).2.2.2.2.2.2.1 z hz).kept hI.2.2.1
  exact va_Wgetf hC.1 hC.2.1 hC.2.2.2.1 (va_Nw.use rfl (hC.2.2.2.2.2.2.2.2.2.2.2 _ hl)) h1 h2 h3 h4 (v := .ref (eA E 3 z)) h5 rfl rfl hdg kk

/-! calls on texts -/
/-- C: the receiver's class, which may inherit the method -/
def CalW (C : String) (y : MethodName) (bytes : ByteArray) (n : Nat) (ret : Option FieldType) (na : Nat) : Prop := CalY y bytes n ret na ∧ Cond.instanceMethod y ∈ TB ∧ Cond.selects C y y ∈ TB
theorem runW_tb {C : String} {y : MethodName} {bytes : ByteArray} {n1 na index d1 mc ms ib ci N : Nat} {ret1 : Option FieldType} {As st : List Value} {Qc : Array Value → State → Outcome → State → Prop} {T : u_T} {fs : (Nat → Nat) → List Value} (hC : Cx p s m args c meth E ow b n ret) (hI : In E ad V s H locs) (hsz : ls.size = n) (hM : Met l y (.code y bytes n1 ret1 :: TB) (rmx d1 mc ms) (va_Pc (.ref (ad ib) :: As) (Pre E ad V)) Qc mc ms (ours E)) (hy : CalW C y bytes n1 ret1 na) (hl : Cond.methodLink ow index y ∈ TB) (hib : okc ib) (he : ∀ sa, cell E (adx ad sa) ib (V ib) = .inr (ci, fs sa)) (hc : vwCl[ci]? = some (C, T, N)) (hn : As.length = na) (hst : st = As.reverse ++ .ref (ad ib) :: rest) (hR : d1 + 1 ≤ R.frames ∧ 8 + (n1 + 11) + 40 * d1 ≤ R.locals) (hcs : cells + mc ≤ R.cells ∧ slots + ms ≤ R.slots) (hw : (rest.map fun v => v.category).sum ≤ 8) (hdg : decode b pc = .ok (.invokevirtual index, 3)) :
    va_Run p l e R s m args below meth c H locs cells slots mc ms (F0 m pc ls st) rest (Qc (Value.ref (ad ib) :: As).toArray) (ours E) := by
  have ht := hC.2.2.2.2.1
  have hI0 := hI
  obtain ⟨⟨sa, hP, hD, hA⟩, hS⟩ := hI
  exact va_runV (Ts := TB) (C := C) (As := As) (rest := rest) ⟨hC.1, hC.2.1, hC.2.2.1, hC.2.2.2.1, ht⟩ hM ⟨callB_tb (na := na) hC hy.1 hl rfl rfl hR, ht _ hy.2.1, ht _ hy.2.2⟩ ⟨pre_blind, va_recv (q0 := ib) hC.2.2.2.2.2.1 hP hc ((world_get hib).trans (by rw [he])), fun U hU hW => ⟨rfl, In.pre hC hI0 U hU hW⟩⟩ rfl hn hsz hst (lv_room (rest := st) (ls := ls) (pc := pc) (m := m) hw) hdg hcs
theorem xrunW_tb {C : String} {y : MethodName} {bytes : ByteArray} {n1 na index d1 mc1 ms1 ib ci N : Nat} {ret1 : Option FieldType} {As st : List Value} {Qc : Array Value → State → Outcome → State → Prop} {XC : String → State → State → Prop} {T : u_T} {fs : (Nat → Nat) → List Value} (hC : Cx p s m args c meth E ow b n ret) (hI : In E ad V s H locs) (hsz : ls.size = n) (hM : vx_Met l y (.code y bytes n1 ret1 :: TB) (rmx d1 mc1 ms1) (va_Pc (.ref (ad ib) :: As) (Pre E ad V)) Qc XC mc1 ms1 (ours E)) (hy : CalW C y bytes n1 ret1 na) (hl : Cond.methodLink ow index y ∈ TB) (hib : okc ib) (he : ∀ sa, cell E (adx ad sa) ib (V ib) = .inr (ci, fs sa)) (hc : vwCl[ci]? = some (C, T, N)) (hn : As.length = na) (hst : st = As.reverse ++ .ref (ad ib) :: rest) (hR : d1 + 1 ≤ R.frames ∧ 8 + (n1 + 11) + 40 * d1 ≤ R.locals) (hcs : cells + mc1 ≤ R.cells ∧ slots + ms1 ≤ R.slots) (hw : (rest.map fun v => v.category).sum ≤ 8) (hdg : decode b pc = .ok (.invokevirtual index, 3)) :
    vx_Run p l e R s m args below meth c H locs cells slots mc1 ms1 (F0 m pc ls st) rest (Qc (Value.ref (ad ib) :: As).toArray) XC (ours E) := by
  have ht := hC.2.2.2.2.1
  have hI0 := hI
  obtain ⟨⟨sa, hP, hD, hA⟩, hS⟩ := hI
  exact vx_runV (Ts := TB) (C := C) (As := As) (rest := rest) ⟨hC.1, hC.2.1, hC.2.2.1, hC.2.2.2.1, ht⟩ hM ⟨callB_tb (na := na) hC hy.1 hl rfl rfl hR, ht _ hy.2.1, ht _ hy.2.2⟩ ⟨pre_blind, va_recv (q0 := ib) hC.2.2.2.2.2.1 hP hc ((world_get hib).trans (by rw [he])), fun U hU hW => ⟨rfl, In.pre hC hI0 U hU hW⟩⟩ rfl hn hsz hst (lv_room (rest := st) (ls := ls) (pc := pc) (m := m) hw) hdg hcs
/-- on a constant text -/
theorem runT_tb {y : MethodName} {bytes : ByteArray} {n1 na index d1 : Nat} {ret1 : Option FieldType} {As st : List Value} {r : Option Value} {V' : Mem} (hS : SF E) (hw17 : w < 17) (hC : Cx p s m args c meth E ow b n ret) (hI : In E ad V s H locs) (hsz : ls.size = n) (hM : MR l E ad y bytes n1 ret1 d1 (.ref (eA E 3 w) :: As) V r V') (hy : CalW "java/lang/String" y bytes n1 ret1 na) (hl : Cond.methodLink ow index y ∈ TB) (hn : As.length = na) (hst : st = As.reverse ++ .ref (eA E 3 w) :: rest) (hR : d1 + 1 ≤ R.frames ∧ 8 + (n1 + 11) + 40 * d1 ≤ R.locals) (hcs : cells ≤ R.cells ∧ slots ≤ R.slots) (hw : (rest.map fun v => v.category).sum ≤ 8) (hdg : decode b pc = .ok (.invokevirtual index, 3)) :
    va_Run p l e R s m args below meth c H locs cells slots 0 0 (F0 m pc ls st) rest (QR E ad r V' (Value.ref (eA E 3 w) :: As).toArray) (ours E) := by
  have ht := hC.2.2.2.2.1
  exact va_runV (Ts := TB) (C := "java/lang/String") (As := As) (rest := rest) ⟨hC.1, hC.2.1, hC.2.2.1, hC.2.2.2.1, ht⟩ hM ⟨callB_tb (na := na) hC hy.1 hl rfl rfl hR, ht _ hy.2.1, ht _ hy.2.2⟩ ⟨pre_blind, vk_recv (sfT hS hC) hw17 hI.2, fun U hU hW => ⟨rfl, In.pre hC hI U hU hW⟩⟩ rfl hn hsz hst (lv_room (rest := st) (ls := ls) (pc := pc) (m := m) hw) hdg hcs
theorem r_calW {C : String} {y : MethodName} {bytes : ByteArray} {n1 na index d1 ib ci N : Nat} {ret1 : Option FieldType} {As st : List Value} {v : Value} {V' : Mem} {T : u_T} {fs : (Nat → Nat) → List Value} (hC : Cx p s m args c meth E ow b n ret) (hI : In E ad V s H locs) (hsz : ls.size = n) (hM : MR l E ad y bytes n1 ret1 d1 (.ref (ad ib) :: As) V (some v) V') (hy : CalW C y bytes n1 ret1 na) (hl : Cond.methodLink ow index y ∈ TB) (hib : okc ib) (he : ∀ sa, cell E (adx ad sa) ib (V ib) = .inr (ci, fs sa)) (hc : vwCl[ci]? = some (C, T, N)) (hn : As.length = na) (hst : st = As.reverse ++ .ref (ad ib) :: rest) (hR : d1 + 1 ≤ R.frames ∧ 8 + (n1 + 11) + 40 * d1 ≤ R.locals) (hcs : cells ≤ R.cells ∧ slots ≤ R.slots) (hw : (rest.map fun v => v.category).sum ≤ 8) (hdg : decode b pc = .ok (.invokevirtual index, 3)) (kk : ∀ (H1 : Heap) (locs1 : List Loc), In E ad V' s H1 locs1 → W p l e R s m args below meth c H1 locs1 cells slots Q (F0 m (pc + 3) ls (v :: rest))) : W p l e R s m args below meth c H locs cells slots Q (F0 m pc ls st) :=
  after_call hI (runW_tb (rest := rest) hC hI hsz hM hy hl hib he hc hn hst hR hcs hw hdg) kk
theorem r_calWv {C : String} {y : MethodName} {bytes : ByteArray} {n1 na index d1 ib ci N : Nat} {ret1 : Option FieldType} {As st : List Value} {V' : Mem} {T : u_T} {fs : (Nat → Nat) → List Value} (hC : Cx p s m args c meth E ow b n ret) (hI : In E ad V s H locs) (hsz : ls.size = n) (hM : MR l E ad y bytes n1 ret1 d1 (.ref (ad ib) :: As) V none V') (hy : CalW C y bytes n1 ret1 na) (hl : Cond.methodLink ow index y ∈ TB) (hib : okc ib) (he : ∀ sa, cell E (adx ad sa) ib (V ib) = .inr (ci, fs sa)) (hc : vwCl[ci]? = some (C, T, N)) (hn : As.length = na) (hst : st = As.reverse ++ .ref (ad ib) :: rest) (hR : d1 + 1 ≤ R.frames ∧ 8 + (n1 + 11) + 40 * d1 ≤ R.locals) (hcs : cells ≤ R.cells ∧ slots ≤ R.slots) (hw : (rest.map fun v => v.category).sum ≤ 8) (hdg : decode b pc = .ok (.invokevirtual index, 3)) (kk : ∀ (H1 : Heap) (locs1 : List Loc), In E ad V' s H1 locs1 → W p l e R s m args below meth c H1 locs1 cells slots Q (F0 m (pc + 3) ls rest)) : W p l e R s m args below meth c H locs cells slots Q (F0 m pc ls st) :=
  after_callv hI (runW_tb (rest := rest) hC hI hsz hM hy hl hib he hc hn hst hR hcs hw hdg) kk
theorem r_calT {y : MethodName} {bytes : ByteArray} {n1 na index d1 : Nat} {ret1 : Option FieldType} {As st : List Value} {v : Value} {V' : Mem} (hS : SF E) (hw17 : w < 17) (hC : Cx p s m args c meth E ow b n ret) (hI : In E ad V s H locs) (hsz : ls.size = n) (hM : MR l E ad y bytes n1 ret1 d1 (.ref (eA E 3 w) :: As) V (some v) V') (hy : CalW "java/lang/String" y bytes n1 ret1 na) (hl : Cond.methodLink ow index y ∈ TB) (hn : As.length = na) (hst : st = As.reverse ++ .ref (eA E 3 w) :: rest) (hR : d1 + 1 ≤ R.frames ∧ 8 + (n1 + 11) + 40 * d1 ≤ R.locals) (hcs : cells ≤ R.cells ∧ slots ≤ R.slots) (hw : (rest.map fun v => v.category).sum ≤ 8) (hdg : decode b pc = .ok (.invokevirtual index, 3)) (kk : ∀ (H1 : Heap) (locs1 : List Loc), In E ad V' s H1 locs1 → W p l e R s m args below meth c H1 locs1 cells slots Q (F0 m (pc + 3) ls (v :: rest))) : W p l e R s m args below meth c H locs cells slots Q (F0 m pc ls st) :=
  after_call hI (runT_tb (rest := rest) hS hw17 hC hI hsz hM hy hl hn hst hR hcs hw hdg) kk
theorem r_calTv {y : MethodName} {bytes : ByteArray} {n1 na index d1 : Nat} {ret1 : Option FieldType} {As st : List Value} {V' : Mem} (hS : SF E) (hw17 : w < 17) (hC : Cx p s m args c meth E ow b n ret) (hI : In E ad V s H locs) (hsz : ls.size = n) (hM : MR l E ad y bytes n1 ret1 d1 (.ref (eA E 3 w) :: As) V none V') (hy : CalW "java/lang/String" y bytes n1 ret1 na) (hl : Cond.methodLink ow index y ∈ TB) (hn : As.length = na) (hst : st = As.reverse ++ .ref (eA E 3 w) :: rest) (hR : d1 + 1 ≤ R.frames ∧ 8 + (n1 + 11) + 40 * d1 ≤ R.locals) (hcs : cells ≤ R.cells ∧ slots ≤ R.slots) (hw : (rest.map fun v => v.category).sum ≤ 8) (hdg : decode b pc = .ok (.invokevirtual index, 3)) (kk : ∀ (H1 : Heap) (locs1 : List Loc), In E ad V' s H1 locs1 → W p l e R s m args below meth c H1 locs1 cells slots Q (F0 m (pc + 3) ls rest)) : W p l e R s m args below meth c H locs cells slots Q (F0 m pc ls st) :=
  after_callv hI (runT_tb (rest := rest) hS hw17 hC hI hsz hM hy hl hn hst hR hcs hw hdg) kk
/-- super's method -/
def CalU (y : MethodName) (bytes : ByteArray) (n : Nat) (ret : Option FieldType) (na : Nat) : Prop := (y.name ≠ "<init>" ∧ (parseMethodDescriptor y.desc).map (fun d => d.parameters.length) = some na) ∧ Cond.sameMethod y.cls y.cls y.name y.desc ∈ TB ∧ Cond.superclass "java/lang/StringBuilder" y.cls ∈ TB ∧ Cond.instanceMethod y ∈ TB ∧ Cond.initialized y.cls ∈ TB ∧ Cond.code y bytes n ret ∈ TB
theorem runSU_tb {y : MethodName} {bytes : ByteArray} {n1 na index d1 mc ms : Nat} {ret1 : Option FieldType} {As st : List Value} {Qc : Array Value → State → Outcome → State → Prop} (ht : TX t) (hC : Cx p s m args c meth E "java/lang/StringBuilder" b n ret) (hI : In E ad V s H locs) (hsz : ls.size = n) (hM : Met l y (.code y bytes n1 ret1 :: TB) (rmx d1 mc ms) (va_Pc (.ref (ad t) :: As) (Pre E ad V)) Qc mc ms (ours E)) (hy : CalU y bytes n1 ret1 na) (hl : Cond.methodLink "java/lang/StringBuilder" index y ∈ TB) (hn : As.length = na) (hst : st = As.reverse ++ .ref (ad t) :: rest) (hR : d1 + 1 ≤ R.frames ∧ 8 + (n1 + 11) + 40 * d1 ≤ R.locals) (hcs : cells + mc ≤ R.cells ∧ slots + ms ≤ R.slots) (hw : (rest.map fun v => v.category).sum ≤ 8) (hdg : decode b pc = .ok (.invokespecial index, 3)) :
    va_Run p l e R s m args below meth c H locs cells slots mc ms (F0 m pc ls st) rest (Qc (Value.ref (ad t) :: As).toArray) (ours E) := by
  have htb := hC.2.2.2.2.1
  have hI0 := hI
  obtain ⟨⟨sa, hP, hD, hA⟩, hS⟩ := hI
  obtain ⟨h1, h2, h3, h4, h5, h6⟩ := hy
  exact va_runSU (Ts := TB) (C := "java/lang/StringBuilder") (As := As) (rest := rest) (hC.2.2.2.2.2.1.1 1 _ rfl).2 ⟨hC.1, hC.2.1, hC.2.2.1, hC.2.2.2.1, htb⟩ hM (va_cwSU na htb (good_cons hl (good_cons h2 (good_cons h3 (good_cons h4 (good_cons h5 (good_cons h6 good_tb)))))) rfl rfl rfl h1 hR) ⟨pre_blind, va_recv (q0 := t) hC.2.2.2.2.2.1 hP (ci := 1) rfl ((world_get (tx_ok ht)).trans (by rw [ce_tx ht])), fun U hU hW => ⟨rfl, In.pre hC hI0 U hU hW⟩⟩ rfl hn hsz hst (lv_room (rest := st) (ls := ls) (pc := pc) (m := m) hw) hdg hcs
theorem r_calU {y : MethodName} {bytes : ByteArray} {n1 na index d1 : Nat} {ret1 : Option FieldType} {As st : List Value} {v : Value} {V' : Mem} (ht : TX t) (hC : Cx p s m args c meth E "java/lang/StringBuilder" b n ret) (hI : In E ad V s H locs) (hsz : ls.size = n) (hM : MR l E ad y bytes n1 ret1 d1 (.ref (ad t) :: As) V (some v) V') (hy : CalU y bytes n1 ret1 na) (hl : Cond.methodLink "java/lang/StringBuilder" index y ∈ TB) (hn : As.length = na) (hst : st = As.reverse ++ .ref (ad t) :: rest) (hR : d1 + 1 ≤ R.frames ∧ 8 + (n1 + 11) + 40 * d1 ≤ R.locals) (hcs : cells ≤ R.cells ∧ slots ≤ R.slots) (hw : (rest.map fun v => v.category).sum ≤ 8) (hdg : decode b pc = .ok (.invokespecial index, 3)) (kk : ∀ (H1 : Heap) (locs1 : List Loc), In E ad V' s H1 locs1 → W p l e R s m args below meth c H1 locs1 cells slots Q (F0 m (pc + 3) ls (v :: rest))) : W p l e R s m args below meth c H locs cells slots Q (F0 m pc ls st) :=
  after_call hI (runSU_tb (rest := rest) ht hC hI hsz hM hy hl hn hst hR hcs hw hdg) kk
theorem r_calSv {y : MethodName} {bytes : ByteArray} {n1 na index d1 : Nat} {ret1 : Option FieldType} {As st : List Value} {V' : Mem} (hC : Cx p s m args c meth E ow b n ret) (hI : In E ad V s H locs) (hsz : ls.size = n) (hM : MR l E ad y bytes n1 ret1 d1 As V none V') (hy : CalS y bytes n1 ret1 na) (hl : Cond.methodLink ow index y ∈ TB) (hn : As.length = na) (hst : st = As.reverse ++ rest) (hR : d1 + 1 ≤ R.frames ∧ 8 + (n1 + 11) + 40 * d1 ≤ R.locals) (hcs : cells ≤ R.cells ∧ slots ≤ R.slots) (hw : (rest.map fun v => v.category).sum ≤ 8) (hdg : decode b pc = .ok (.invokestatic index, 3))
    (kk : ∀ (H1 : Heap) (locs1 : List Loc), In E ad V' s H1 locs1 → W p l e R s m args below meth c H1 locs1 cells slots Q (F0 m (pc + 3) ls rest)) : W p l e R s m args below meth c H locs cells slots Q (F0 m pc ls st) :=
  after_callv hI (runS_tb (rest := rest) hC hI hsz hM hy hl hn hst hR hcs hw hdg) kk
theorem in_afterS {st₀ t T' : State} {L : List Loc} (hI : In E ad V s H locs) (h0 : st₀.heap = H) (hF : va_F (ours E) st₀ t) (e1 : T'.heap = t.heap) (hL : ∀ q ∈ L, ours E q.base) : va_S (ours E) s.heap T'.heap (locs ++ L) := by
  obtain ⟨hz, hk⟩ := hF
  rw [h0] at hz hk
  exact ⟨Nat.le_trans hI.2.1 (by rw [e1]; exact hz), fun q h1 h2 => by rw [e1, hk q (Nat.lt_of_lt_of_le h1 hI.2.1) h2]; exact hI.2.2.1 q h1 h2, fun q hq => by
      rcases List.mem_append.mp hq with h | h
      · exact hI.2.2.2 q h
      · exact hL q h⟩
theorem r_cretX {x r : Int32} (hx : (x.toUInt32 % 65536).toInt32 = x) (hC : Cx p s m args c meth E ow b n (some .char)) (hI : In E ad V s H locs) (hf : some (x, V) = some (r, Vz)) (hd : decode b pc = .ok (.ireturn, 1)) : W p l e R s m args below meth c H locs cells slots (MQ below (QR E ad (some (.int r)) Vz) args s cells slots (ours E)) (F0 m pc ls [.int x]) := by
  rw [← hx] at hf ⊢
  exact r_cret2 hC hI hf hd
theorem r_bret {x r : Int32} (hx : narrow .byte (.int x) = .int x) (hC : Cx p s m args c meth E ow b n (some .byte)) (hI : In E ad V s H locs) (hf : some (x, V) = some (r, Vz)) (hd : decode b pc = .ok (.ireturn, 1)) : W p l e R s m args below meth c H locs cells slots (MQ below (QR E ad (some (.int r)) Vz) args s cells slots (ours E)) (F0 m pc ls [.int x]) := by
  cases hf; exact r_zret hC hI hx hd
theorem t_aret {nm : String} (hC : Cx p s m args c meth E ow b n (some (.object nm))) (hI : In E ad V s H locs) (hf : some V = some Vz) (hd : decode b pc = .ok (.areturn, 1)) : W p l e R s m args below meth c H locs cells slots (MQ below (QR E ad (some (.ref (ad t))) Vz) args s cells slots (ours E)) (F0 m pc ls [.ref (ad t)]) := by
  cases hf
  exact W.aret hC.1 hC.2.1 hC.2.2.2.2.2.2.2.2.2.1 (.inl ⟨_, rfl⟩) (.inr ⟨_, rfl⟩) (fun t ht _ => ⟨⟨rfl, by rw [ht]; exact hI.1⟩, hI.2.F ht⟩) hI.2.2.2 hd hC.2.2.2.2.2.2.2.2.2.2.1
theorem kind_lt {x : Int32} (h : ib x 13 = true) : x.toNatClampNeg < 13 := by
  simp only [ib, Bool.and_eq_true, decide_eq_true_eq] at h; exact h.2
theorem entA {l : Launch} {E : En} {ad : Nat → Nat} {y : MethodName} {b : ByteArray} {n : Nat} {ret : Option FieldType} {d mc ms : Nat} {av : List Value} {V : Mem} {Q : Array Value → State → Outcome → State → Prop} (ow : String) (hy : plainName y.cls = true) (how : y.cls = ow) (hn : (lg_sl av).length ≤ n)
    (body : ∀ (p : Program) (e : Env) (s : State) (m : MethodId) (below : List Frame) (meth : Method) (c : Code) (ls : Array Slot), Cx p s m av.toArray c meth E ow b n ret → In E ad V s s.heap [] → lv_has ls n (lv_args 0 av) → W p l e (rmx d mc ms) s m av.toArray below meth c s.heap [] 0 0 (MQ below Q av.toArray s mc ms (ours E)) (F0 m 0 ls [])) :
    Met l y (.code y b n ret :: TB) (rmx d mc ms) (va_Pc av (Pre E ad V)) Q mc ms (ours E) := by
  refine Met.ofW (cc := b) (maxL := n) (ret := ret) hy rfl ?_
  intro p e s m args below meth c s₁ B hml hv
  obtain ⟨rfl, hd, hK, hz, hs, hok, hnw⟩ := hv
  have hts := atoms_spec (ws := .code y b n ret :: TB) B.pre
  have hown : s.vm.findClass y.cls = some m.cls := findClass_of_methodNamed B.named
  have hl := lv_entry av hn
  rw [lg_entry_eq]
  exact body p e s m below meth c _ ⟨B.exec, B.bytes, hml, by rw [← how]; exact hown, fun w hw => hts w (List.mem_cons_of_mem _ hw), hK, hz, hs, hok, B.returns, B.notSynchronized, hnw⟩ ⟨hd, va_S.rf⟩ hl
/-! what makes objects and does not throw -/
def MA (l : Launch) (E : En) (ad : Nat → Nat) (y : MethodName) (b : ByteArray) (n : Nat) (ret : Option FieldType) (d mc ms : Nat) (av : List Value) (V : Mem) (r : Option Value) (V' : Mem) : Prop :=
  Met l y (.code y b n ret :: TB) (rmx d mc ms) (va_Pc av (Pre E ad V)) (QR E ad r V') mc ms (ours E)
theorem after_callA {mc ms : Nat} {v : Option Value} {V' : Mem} {a : Array Value} {st : List Value} (hI : In E ad V s H locs) (hr : va_Run p l e R s m args below meth c H locs cells slots mc ms (F0 m pc ls st) rest (QR E ad v V' a) (ours E))
    (kk : ∀ (H1 : Heap) (locs1 : List Loc), In E ad V' s H1 locs1 → W p l e R s m args below meth c H1 locs1 (cells + mc) (slots + ms) Q (F0 m (pc + 3) ls (v.toList ++ rest))) : W p l e R s m args below meth c H locs cells slots Q (F0 m pc ls st) := by
  intro T hT X
  obtain ⟨w, st₀, t, T', L, h0, X', hL, e1, e2, ⟨⟨hv, hd⟩, hF⟩, st⟩ := hr T hT X
  cases hv
  obtain ⟨t2, a1, b1⟩ := kk T'.heap (locs ++ L) (in_after hI h0 hd hF e1 hL) T' rfl X'
  exact ⟨t2, st t2 a1, b1⟩

theorem t_ldcw_13 (hS : SF E) (hC : Cx p s m args c meth E "LetterRepository" b n ret) (hI : In E ad V s H locs) (hdg : decode b pc = .ok (.ldc_w 301, 3)) (kk : W p l e R s m args below meth c H locs cells slots Q (F0 m (pc + 3) ls (.ref (eA E 3 13) :: rest))) : W p l e R s m args below meth c H locs cells slots Q (F0 m pc ls rest) := by
  have hZ : vk_R "LetterRepository" 301 " @" (eA E 3 13) s := (hS s s.heap hC.2.2.2.2.2.2.2.1).2.2.2.2.2.2.2.2.1.1
  intro T hT X
  obtain ⟨t, a1, b1⟩ := kk T hT X
  exact ⟨t, X.ldcStringW hC.1 hC.2.2.2.1 (text := " @") (a := eA E 3 13) hZ.1 hZ.2 (g := F0 m pc ls rest) rfl (by rw [hC.2.1]; exact hdg) t a1, b1⟩
theorem t_ldcw_14 (hS : SF E) (hC : Cx p s m args c meth E "LetterRepository" b n ret) (hI : In E ad V s H locs) (hdg : decode b pc = .ok (.ldc_w 306, 3)) (kk : W p l e R s m args below meth c H locs cells slots Q (F0 m (pc + 3) ls (.ref (eA E 3 14) :: rest))) : W p l e R s m args below meth c H locs cells slots Q (F0 m pc ls rest) := by
  have hZ : vk_R "LetterRepository" 306 " <" (eA E 3 14) s := (hS s s.heap hC.2.2.2.2.2.2.2.1).2.2.2.2.2.2.2.2.1.2.1
  intro T hT X
  obtain ⟨t, a1, b1⟩ := kk T hT X
  exact ⟨t, X.ldcStringW hC.1 hC.2.2.2.1 (text := " <") (a := eA E 3 14) hZ.1 hZ.2 (g := F0 m pc ls rest) rfl (by rw [hC.2.1]; exact hdg) t a1, b1⟩
theorem t_ldcw_15 (hS : SF E) (hC : Cx p s m args c meth E "LetterRepository" b n ret) (hI : In E ad V s H locs) (hdg : decode b pc = .ok (.ldc_w 312, 3)) (kk : W p l e R s m args below meth c H locs cells slots Q (F0 m (pc + 3) ls (.ref (eA E 3 15) :: rest))) : W p l e R s m args below meth c H locs cells slots Q (F0 m pc ls rest) := by
  have hZ : vk_R "LetterRepository" 312 "+" (eA E 3 15) s := (hS s s.heap hC.2.2.2.2.2.2.2.1).2.2.2.2.2.2.2.2.1.2.2.1
  intro T hT X
  obtain ⟨t, a1, b1⟩ := kk T hT X
  exact ⟨t, X.ldcStringW hC.1 hC.2.2.2.1 (text := "+") (a := eA E 3 15) hZ.1 hZ.2 (g := F0 m pc ls rest) rfl (by rw [hC.2.1]; exact hdg) t a1, b1⟩
theorem t_ldcw_16 (hS : SF E) (hC : Cx p s m args c meth E "LetterRepository" b n ret) (hI : In E ad V s H locs) (hdg : decode b pc = .ok (.ldc_w 314, 3)) (kk : W p l e R s m args below meth c H locs cells slots Q (F0 m (pc + 3) ls (.ref (eA E 3 16) :: rest))) : W p l e R s m args below meth c H locs cells slots Q (F0 m pc ls rest) := by
  have hZ : vk_R "LetterRepository" 314 " !" (eA E 3 16) s := (hS s s.heap hC.2.2.2.2.2.2.2.1).2.2.2.2.2.2.2.2.1.2.2.2
  intro T hT X
  obtain ⟨t, a1, b1⟩ := kk T hT X
  exact ⟨t, X.ldcStringW hC.1 hC.2.2.2.1 (text := " !") (a := eA E 3 16) hZ.1 hZ.2 (g := F0 m pc ls rest) rfl (by rw [hC.2.1]; exact hdg) t a1, b1⟩
end R072
