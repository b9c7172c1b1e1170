section R085
variable {p : Program} {l : Launch} {e : Env} {R : Room} {s : State} {m : MethodId} {args : Array Value} {below : List Frame} {meth : Method} {c : Code} {H : Heap} {locs : List Loc} {cells slots : Nat} {Q : State → Prop}
variable {E : En} {ad sa : Nat → Nat} {V V1 Vz : Mem} {ow : String} {b : ByteArray} {n index : Nat} {ret : Option FieldType} {pc : Nat} {ls : Array Slot} {rest : List Value}
def bh {α β : Type} (o : Option (Nat × α × Mem)) (h : Nat → Mem → Option β) (k : α → Mem → Option β) : Option β := match o with
  | none => none
  | some (q, r, V) => if q = 0 then k r V else h q V
theorem gbh {α β : Type} {o : Option (Nat × α × Mem)} {h : Nat → Mem → Option β} {k : α → Mem → Option β} {z : β} (hf : bh o h k = some z) : ∃ q r V, o = some (q, r, V) ∧ (if q = 0 then k r V else h q V) = some z := by
  cases o with
  | none => cases hf
  | some y => exact ⟨y.1, y.2.1, y.2.2, rfl, hf⟩
theorem ce_265 (ad : Nat → Nat) (v : Nat → Int32) : cell E ad 265 v = .inl (eC E 3, 1, .inr (.inl (fun j => (v j).toInt64))) := rfl
theorem r_last (hC : Cx p s m args c meth E ow b n ret) (hI : In E ad V s H locs) {x : Int32} (he : V1 = stv V 265 0 x) (hdg : decode b pc = .ok (.lastore, 1)) (kk : ∀ (H1 : Heap) (locs1 : List Loc), In E ad V1 s H1 locs1 → W p l e R s m args below meth c H1 locs1 cells slots Q (F0 m (pc + 1) ls rest)) : W p l e R s m args below meth c H locs cells slots Q (F0 m pc ls (.long x.toInt64 :: .int 0 :: .ref (ad 265) :: rest)) := by
  subst he
  obtain ⟨⟨sa, hP, hD, hA⟩, hS⟩ := hI
  have e1 : (.inl (eC E 3, 1, .inr (.inl (vp_updL (fun j => (V 265 j).toInt64) (0 : Int32).toNatClampNeg x.toInt64))) : va_E) = cell E (adx ad sa) 265 (upd (V 265) 0 x) := by
    rw [ce_265]
    have : (vp_updL (fun j => (V 265 j).toInt64) (0 : Int32).toNatClampNeg x.toInt64) = fun j => (upd (V 265) 0 x j).toInt64 := by
      funext j
      by_cases h : j = 0 <;> simp [vp_updL, upd, h, show (0 : Int32).toNatClampNeg = 0 from rfl]
    rw [this]
  exact va_last hC.1 hC.2.1 hC.2.2.2.2.2.1 hP hD hS 265 3 ((world_get (by decide)).trans (by rw [ce_265])) rfl (fun h => by rcases h with h | h; exact absurd h (by decide); exact absurd h (by decide)) hdg (fun H1 locs1 hP hD hS => kk H1 locs1 ⟨⟨sa, by rw [e1, world_set (by decide)] at hP; exact hP, by rw [e1, world_set (by decide)] at hD; exact hD, hA⟩, hS⟩)
theorem r_lald (hC : Cx p s m args c meth E ow b n ret) (hI : In E ad V s H locs) (hdg : decode b pc = .ok (.laload, 1)) (kk : W p l e R s m args below meth c H locs cells slots Q (F0 m (pc + 1) ls (.long (V 265 0).toInt64 :: rest))) : W p l e R s m args below meth c H locs cells slots Q (F0 m pc ls (.int 0 :: .ref (ad 265) :: rest)) := by
  obtain ⟨⟨sa, hP, hD, hA⟩, hS⟩ := hI
  exact va_lald (f := fun j => (V 265 j).toInt64) hC.1 hC.2.1 hC.2.2.2.2.2.1 hP 265 3 ((world_get (by decide)).trans (by rw [ce_265])) rfl (fun h => by rcases h with h | h; exact absurd h (by decide); exact absurd h (by decide)) hdg kk
theorem after_callH {mc1 ms1 : Nat} {v : Option Value} {V' : Mem} {a : Array Value} {st : List Value} {k1 : Nat} (hI : In E ad V s H locs) (hr : vx_Run p l e R s m args below meth c H locs cells slots mc1 ms1 (F0 m pc ls st) rest (QRX E ad k1 v V' a) (QX E ad k1 V') (ours E))
    (kx : k1 ≠ 0 → ∀ (H1 : Heap) (locs1 : List Loc) (q : Nat) (ce : Cell), In E ad V' s H1 locs1 → H1[q]? = some ce → ce.vm = .none → s.vm.findClass (exN k1) = some ce.cls → vx_W p l e R s m args below meth c H1 locs1 (cells + mc1) (slots + ms1) Q (F0 m pc ls rest) q)
    (kk : k1 = 0 → ∀ (H1 : Heap) (locs1 : List Loc), In E ad V' s H1 locs1 → W p l e R s m args below meth c H1 locs1 (cells + mc1) (slots + ms1) Q (F0 m (pc + 3) ls (v.toList ++ rest))) : W p l e R s m args below meth c H locs cells slots Q (F0 m pc ls st) := by
  intro T hT X
  rcases hr T hT X with ⟨w, st₀, t, T', L, h0, X', hL, e1, e2, ⟨hk0, ⟨hv, hd⟩, hF⟩, st⟩ | ⟨q, st₀, t, T', L, En, ce, h0, X', hL, e1, e2, ⟨⟨hk0, hX, hd⟩, hF⟩, hce, hcv, hcl, st⟩
  · cases hv
    obtain ⟨t2, a1, b1⟩ := kk hk0 T'.heap (locs ++ L) (in_after hI h0 hd hF e1 hL) T' rfl X'
    exact ⟨t2, st t2 a1, b1⟩
  · obtain ⟨t2, a1, b1⟩ := kx hk0 T'.heap (locs ++ L) q ce (in_after hI h0 hd hF e1 hL) (by rw [e1]; exact hce) hcv (by rw [← hX]; exact hcl) T' rfl X'
    exact ⟨t2, st.trans a1, b1⟩
def MW (l : Launch) (E : En) (ad : Nat → Nat) (y : MethodName) (b : ByteArray) (n : Nat) (ret : Option FieldType) (hh : List (Nat × Nat × Nat × Nat)) (d mc ms : Nat) (av : List Value) (V : Mem) (r : Option Value) (V' : Mem) : Prop :=
  Met l y (.codeWith y b n ret hh :: TB) (rmx d mc ms) (va_Pc av (Pre E ad V)) (QR E ad r V') mc ms (ours E)
theorem entH {l : Launch} {E : En} {ad : Nat → Nat} {y : MethodName} {b : ByteArray} {n : Nat} {ret : Option FieldType} {hh : List (Nat × Nat × Nat × Nat)} {d mc ms : Nat} {av : List Value} {V : Mem} {Q : Array Value → State → Outcome → State → Prop} (ow : String) (hy : plainName y.cls = true) (how : y.cls = ow) (hn : (lg_sl av).length ≤ n)
    (body : ∀ (p : Program) (e : Env) (s : State) (m : MethodId) (below : List Frame) (meth : Method) (c : Code) (ls : Array Slot), Cx p s m av.toArray c meth E ow b n ret → c.exceptionTable.toList = tableOf hh → In E ad V s s.heap [] → lv_has ls n (lv_args 0 av) → W p l e (rmx d mc ms) s m av.toArray below meth c s.heap [] 0 0 (MQ below Q av.toArray s mc ms (ours E)) (F0 m 0 ls [])) :
    Met l y (.codeWith y b n ret hh :: TB) (rmx d mc ms) (va_Pc av (Pre E ad V)) Q mc ms (ours E) := by
  refine va_MetW (cc := b) (maxL := n) (ret := ret) (hh := hh) hy rfl ?_
  intro p e s m args below meth c s₁ B hml hv
  obtain ⟨rfl, hd, hK, hz, hs, hok, hnw⟩ := hv
  have hts := atoms_spec (ws := .codeWith y b n ret hh :: TB) B.pre
  have hown : s.vm.findClass y.cls = some m.cls := findClass_of_methodNamed B.named
  have hl := lv_entry av hn
  rw [lg_entry_eq]
  exact body p e s m below meth c _ ⟨B.exec, B.bytes, hml, by rw [← how]; exact hown, fun w hw => hts w (List.mem_cons_of_mem _ hw), hK, hz, hs, hok, B.returns, B.notSynchronized, hnw⟩ (vx_table (x := y) B (hts _ List.mem_cons_self)) ⟨hd, va_S.rf⟩ hl
theorem runSW_tb {y : MethodName} {bytes : ByteArray} {n1 na index d1 mc ms : Nat} {ret1 : Option FieldType} {hh : List (Nat × Nat × Nat × Nat)} {As st : List Value} {Qc : Array Value → State → Outcome → State → Prop} (hC : Cx p s m args c meth E ow b n ret) (hI : In E ad V s H locs) (hsz : ls.size = n) (hM : Met l y (.codeWith y bytes n1 ret1 hh :: TB) (rmx d1 mc ms) (va_Pc As (Pre E ad V)) Qc mc ms (ours E)) (hy : (y.cls ≠ "java/lang/invoke/MethodHandle" ∧ y.cls ≠ "java/lang/invoke/VarHandle") ∧ Cond.initialized y.cls ∈ TB ∧ Cond.codeWith y bytes n1 ret1 hh ∈ TB ∧ (parseMethodDescriptor y.desc).map (fun d => d.parameters.length) = some na ∧ Cond.static y ∈ TB) (hl : Cond.methodLink ow index y ∈ TB) (hn : As.length = na) (hst : st = As.reverse ++ rest) (hR : d1 + 1 ≤ R.frames ∧ 8 + (n1 + 11) + 40 * d1 ≤ R.locals) (hcs : cells + mc ≤ R.cells ∧ slots + ms ≤ R.slots) (hw : (rest.map fun v => v.category).sum ≤ 8) (hdg : decode b pc = .ok (.invokestatic index, 3)) :
    va_Run p l e R s m args below meth c H locs cells slots mc ms (F0 m pc ls st) rest (Qc As.toArray) (ours E) := by
  have ht := hC.2.2.2.2.1
  obtain ⟨h1, h2, h3, h4, h5⟩ := hy
  exact vx_runSW (Ts := TB) (As := As) (rest := rest) ⟨hC.1, hC.2.1, hC.2.2.1, hC.2.2.2.1, ht⟩ hM (vx_cwSW na ht (good_cons hl (good_cons h5 (good_cons h2 (good_cons h3 good_tb)))) rfl rfl rfl ⟨h1.1, h1.2, h4⟩ hR) ⟨pre_blind, fun U hU hW => ⟨rfl, In.pre hC hI U hU hW⟩⟩ rfl hn hsz hst (lv_room (rest := st) (ls := ls) (pc := pc) (m := m) hw) hdg hcs
theorem nc_of (hS : SF E) (hC : Cx p s m args c meth E ow b n ret) {C D : String} (h1 : C ∈ EXL) (h2 : D ∈ EXL) (h : C ≠ D) : va_Nc C D s := (hS s s.heap hC.2.2.2.2.2.2.2.1).2.2.2.2.2.2.2.2.2.2.2.2.2.1 C h1 D h2 h
end R085
theorem dL_edit_0 : decode cL_edit 0 = .ok (.aload 4, 2) := by decide +kernel
theorem dL_edit_2 : decode cL_edit 2 = .ok (.iconst 0, 1) := by decide +kernel
theorem dL_edit_3 : decode cL_edit 3 = .ok (.aload_n 0, 1) := by decide +kernel
theorem dL_edit_4 : decode cL_edit 4 = .ok (.iload_n 1, 1) := by decide +kernel
theorem dL_edit_5 : decode cL_edit 5 = .ok (.iload_n 2, 1) := by decide +kernel
theorem dL_edit_6 : decode cL_edit 6 = .ok (.iload_n 3, 1) := by decide +kernel
theorem dL_edit_7 : decode cL_edit 7 = .ok (.invokevirtual 7, 3) := by decide +kernel
theorem dL_edit_10 : decode cL_edit 10 = .ok (.i2l, 1) := by decide +kernel
theorem dL_edit_11 : decode cL_edit 11 = .ok (.lastore, 1) := by decide +kernel
theorem dL_edit_12 : decode cL_edit 12 = .ok (.goto 11, 3) := by decide +kernel
theorem dL_edit_15 : decode cL_edit 15 = .ok (.astore 5, 2) := by decide +kernel
theorem dL_edit_17 : decode cL_edit 17 = .ok (.iconst 1, 1) := by decide +kernel
theorem dL_edit_18 : decode cL_edit 18 = .ok (.ireturn, 1) := by decide +kernel
theorem dL_edit_19 : decode cL_edit 19 = .ok (.astore 5, 2) := by decide +kernel
theorem dL_edit_21 : decode cL_edit 21 = .ok (.iconst 2, 1) := by decide +kernel
theorem dL_edit_22 : decode cL_edit 22 = .ok (.ireturn, 1) := by decide +kernel
theorem dL_edit_23 : decode cL_edit 23 = .ok (.iconst 0, 1) := by decide +kernel
theorem dL_edit_24 : decode cL_edit 24 = .ok (.ireturn, 1) := by decide +kernel
def f_L_edit (V : Mem) (a1 : Int32) (a2 : Int32) (a3 : Int32) : Option (Int32 × Mem) :=
  bh (f_X9_edit V a1 a2 a3) (fun q V => if q = 1 then some (1, V) else if q = 2 then some (2, V) else none) fun r V1 =>
  lt (stv V1 265 0 r) fun V2 => some (0, V2)
theorem cv_L_edit : (yL_edit.cls ≠ "java/lang/invoke/MethodHandle" ∧ yL_edit.cls ≠ "java/lang/invoke/VarHandle") ∧ Cond.initialized yL_edit.cls ∈ TB ∧ Cond.codeWith yL_edit cL_edit 6 (some .int) [(0, 12, 15, 13), (0, 12, 19, 15)] ∈ TB ∧ (parseMethodDescriptor yL_edit.desc).map (fun d => d.parameters.length) = some 5 ∧ Cond.static yL_edit ∈ TB := ⟨⟨by decide +kernel, by decide +kernel⟩, tw_1_0, tw_2_212, by decide +kernel, tw_2_211⟩
set_option maxRecDepth 100000 in
set_option maxHeartbeats 4000000 in
theorem m_L_edit (l : Launch) (hT : l.stackTraces = false) (E : En) (ad : Nat → Nat) (V : Mem) (a1 : Int32) (a2 : Int32) (a3 : Int32) (hS : SF E) (r : Int32) (Vz : Mem) (hf : f_L_edit V a1 a2 a3 = some (r, Vz)) : MW l E ad yL_edit cL_edit 6 (some .int) [(0, 12, 15, 13), (0, 12, 19, 15)] 8 1 6 [.ref (ad 248), .int a1, .int a2, .int a3, .ref (ad 265)] V (some (.int r)) Vz := by
  refine entH (E := E) (ad := ad) (V := V) "LetterRepositoryLaw" (by decide +kernel) rfl (Nat.le_of_ble_eq_true rfl) ?_
  intro p e s m below meth c ls hC hTab hI hl
  have hx := hC.1
  have hb := hC.2.1
  have hl : lv_has ls 6 [(0, .ref (ad 248)), (1, .int a1), (2, .int a2), (3, .int a3), (4, .ref (ad 265))] := hl
  unfold f_L_edit at hf
  obtain ⟨q, rr, V1, e1, hf⟩ := gbh hf
  refine lv_aload hx hb dL_edit_0 (lv_at hl 4 rfl) ?_
  refine lv_iconst (v := 0) hx hb dL_edit_2 rfl ?_
  refine lv_aload_n hx hb dL_edit_3 rfl (lv_at hl 0 rfl) ?_
  refine lv_iload_n hx hb dL_edit_4 rfl (lv_at hl 1 rfl) ?_
  refine lv_iload_n hx hb dL_edit_5 rfl (lv_at hl 2 rfl) ?_
  refine lv_iload_n hx hb dL_edit_6 rfl (lv_at hl 3 rfl) ?_
  refine after_callH hI (xrunV_tb (As := [.int a1, .int a2, .int a3]) (rest := [.int 0, .ref (ad 265)]) hC hI hl.1 (m_X9_edit l hT E ad V a1 a2 a3 hS q rr V1 e1) cv_X9_edit tw_2_215 (by decide) (ce_248 _) rfl rfl rfl ⟨Nat.le_of_ble_eq_true rfl, Nat.le_of_ble_eq_true rfl⟩ ⟨Nat.le_of_ble_eq_true rfl, Nat.le_of_ble_eq_true rfl⟩ (Nat.le_of_ble_eq_true rfl) dL_edit_7) (fun hq H locs q9 ce hI hcell hcv hcl => ?_) (fun hq H locs hI => ?_)
  · have hf := (if_neg hq).symm.trans hf
    rcases Decidable.em (q = 1) with c0 | c0
    · have hf := gt hf c0
      have hcl : s.vm.findClass "java/lang/IndexOutOfBoundsException" = some ce.cls := by rw [c0] at hcl; exact hcl
      refine vx_catch (own := "LetterRepositoryLaw") (name := "java/lang/IndexOutOfBoundsException") (E := "java/lang/IndexOutOfBoundsException") hC.2.2.2.1 [] (⟨0, 12, 15, 13⟩ : ExceptionTableEntry) [(⟨0, 12, 19, 15⟩ : ExceptionTableEntry)] (hTab.trans rfl) (fun _ h => nomatch h) (by decide) (by decide) (hC.2.2.2.2.1 _ tw_2_213) (ot_before hC (.inr tw_3_5) (fun _ => rfl)) hcell hcv hcl ?_
      refine lv_astore (lv' := [(5, .ref q9), (0, .ref (ad 248)), (1, .int a1), (2, .int a2), (3, .int a3), (4, .ref (ad 265))]) hx hb dL_edit_15 hl (Nat.lt_of_lt_of_eq (by decide) rfl) rfl (fun ls hl => ?_)
      refine lv_iconst (v := 1) hx hb dL_edit_17 rfl ?_
      refine x_wid (c2 := 1) (s2 := 6) (Nat.le_of_ble_eq_true rfl) (Nat.le_of_ble_eq_true rfl) ?_
      exact r_iret2 hC hI hf dL_edit_18
    have hf := gf hf c0
    rcases Decidable.em (q = 2) with c1 | c1
    · have hf := gt hf c1
      have hcl : s.vm.findClass "java/lang/IllegalArgumentException" = some ce.cls := by rw [c1] at hcl; exact hcl
      refine vx_catch (own := "LetterRepositoryLaw") (name := "java/lang/IllegalArgumentException") (E := "java/lang/IllegalArgumentException") hC.2.2.2.1 [(⟨0, 12, 15, 13⟩ : ExceptionTableEntry)] (⟨0, 12, 19, 15⟩ : ExceptionTableEntry) [] (hTab.trans rfl) (fun z hz => by
      rcases List.mem_cons.mp hz with rfl | hz
      · exact .inr ⟨by decide, "java/lang/IndexOutOfBoundsException", hC.2.2.2.2.1 _ tw_2_213, nc_of hS hC (List.mem_cons_of_mem _ List.mem_cons_self) List.mem_cons_self (by decide)⟩
      exact absurd hz List.not_mem_nil) (by decide) (by decide) (hC.2.2.2.2.1 _ tw_2_214) (ot_before hC (.inr tw_3_76) (fun _ => rfl)) hcell hcv hcl ?_
      refine lv_astore (lv' := [(5, .ref q9), (0, .ref (ad 248)), (1, .int a1), (2, .int a2), (3, .int a3), (4, .ref (ad 265))]) hx hb dL_edit_19 hl (Nat.lt_of_lt_of_eq (by decide) rfl) rfl (fun ls hl => ?_)
      refine lv_iconst (v := 2) hx hb dL_edit_21 rfl ?_
      refine x_wid (c2 := 1) (s2 := 6) (Nat.le_of_ble_eq_true rfl) (Nat.le_of_ble_eq_true rfl) ?_
      exact r_iret2 hC hI hf dL_edit_22
    have hf := gf hf c1
    cases hf
  · have hf := (if_pos hq).symm.trans hf
    refine lv_i2l (v := rr.toInt64) hx hb dL_edit_10 rfl ?_
    obtain ⟨V2, e2, hf⟩ := gl hf
    refine r_last (x := rr) hC hI e2 dL_edit_11 (fun H locs hI => ?_)
    refine lv_goto (tgt := 23) hx hb dL_edit_12 (by decide) ?_
    refine lv_iconst (v := 0) hx hb dL_edit_23 rfl ?_
    refine x_wid (c2 := 1) (s2 := 6) (Nat.le_of_ble_eq_true rfl) (Nat.le_of_ble_eq_true rfl) ?_
    exact r_iret2 hC hI hf dL_edit_24
theorem kl_L_edit {p : Program} {l : Launch} {e : Env} {R : Room} {cells slots : Nat} {s : State} {m : MethodId} {args : Array Value} {below : List Frame} {meth : Method} {c : Code} {H : Heap} {locs : List Loc} {Q : State → Prop} {E : En} {ad : Nat → Nat} {V : Mem} {ow : String} {b : ByteArray} {n : Nat} {ret : Option FieldType} {pc index : Nat} {ls : Array Slot} {rest : List Value} {a1 : Int32} {a2 : Int32} {a3 : Int32} {r : Int32} {V1 : Mem} (hS : SF E) (hT : l.stackTraces = false) (hC : Cx p s m args c meth E ow b n ret) (hI : In E ad V s H locs) (hsz : ls.size = n) (hf : f_L_edit V a1 a2 a3 = some (r, V1)) (hl : Cond.methodLink ow index yL_edit ∈ TB) (hR : 8 + 1 ≤ R.frames ∧ 8 + (6 + 11) + 40 * 8 ≤ R.locals) (hcs : cells + 1 ≤ R.cells ∧ slots + 6 ≤ R.slots) (hw : (rest.map fun v => v.category).sum ≤ 8) (hdg : decode b pc = .ok (.invokestatic index, 3)) (kk : ∀ (H1 : Heap) (locs1 : List Loc), In E ad V1 s H1 locs1 → W p l e R s m args below meth c H1 locs1 (cells + 1) (slots + 6) Q (F0 m (pc + 3) ls (.int r :: rest))) : W p l e R s m args below meth c H locs cells slots Q (F0 m pc ls (.ref (ad 265) :: .int a3 :: .int a2 :: .int a1 :: .ref (ad 248) :: rest)) :=
  after_callA hI (runSW_tb (As := [.ref (ad 248), .int a1, .int a2, .int a3, .ref (ad 265)]) (rest := rest) hC hI hsz (m_L_edit l hT E ad V a1 a2 a3 hS r V1 hf) cv_L_edit hl rfl rfl hR hcs hw hdg) kk

theorem dL_revert_0 : decode cL_revert 0 = .ok (.aload_n 2, 1) := by decide +kernel
theorem dL_revert_1 : decode cL_revert 1 = .ok (.iconst 0, 1) := by decide +kernel
theorem dL_revert_2 : decode cL_revert 2 = .ok (.aload_n 0, 1) := by decide +kernel
theorem dL_revert_3 : decode cL_revert 3 = .ok (.iload_n 1, 1) := by decide +kernel
theorem dL_revert_4 : decode cL_revert 4 = .ok (.invokevirtual 17, 3) := by decide +kernel
theorem dL_revert_7 : decode cL_revert 7 = .ok (.i2l, 1) := by decide +kernel
theorem dL_revert_8 : decode cL_revert 8 = .ok (.lastore, 1) := by decide +kernel
theorem dL_revert_9 : decode cL_revert 9 = .ok (.goto 6, 3) := by decide +kernel
theorem dL_revert_12 : decode cL_revert 12 = .ok (.astore_n 3, 1) := by decide +kernel
theorem dL_revert_13 : decode cL_revert 13 = .ok (.iconst 1, 1) := by decide +kernel
theorem dL_revert_14 : decode cL_revert 14 = .ok (.ireturn, 1) := by decide +kernel
theorem dL_revert_15 : decode cL_revert 15 = .ok (.iconst 0, 1) := by decide +kernel
theorem dL_revert_16 : decode cL_revert 16 = .ok (.ireturn, 1) := by decide +kernel
def f_L_revert (V : Mem) (a1 : Int32) : Option (Int32 × Mem) :=
  bh (f_X9_revert V a1) (fun q V => if q = 1 then some (1, V) else none) fun r V1 =>
  lt (stv V1 265 0 r) fun V2 => some (0, V2)
theorem cv_L_revert : (yL_revert.cls ≠ "java/lang/invoke/MethodHandle" ∧ yL_revert.cls ≠ "java/lang/invoke/VarHandle") ∧ Cond.initialized yL_revert.cls ∈ TB ∧ Cond.codeWith yL_revert cL_revert 4 (some .int) [(0, 9, 12, 13)] ∈ TB ∧ (parseMethodDescriptor yL_revert.desc).map (fun d => d.parameters.length) = some 3 ∧ Cond.static yL_revert ∈ TB := ⟨⟨by decide +kernel, by decide +kernel⟩, tw_1_0, tw_3_153, by decide +kernel, tw_3_152⟩
set_option maxRecDepth 100000 in
set_option maxHeartbeats 4000000 in
theorem m_L_revert (l : Launch) (hT : l.stackTraces = false) (E : En) (ad : Nat → Nat) (V : Mem) (a1 : Int32) (hS : SF E) (r : Int32) (Vz : Mem) (hf : f_L_revert V a1 = some (r, Vz)) : MW l E ad yL_revert cL_revert 4 (some .int) [(0, 9, 12, 13)] 8 1 6 [.ref (ad 248), .int a1, .ref (ad 265)] V (some (.int r)) Vz := by
  refine entH (E := E) (ad := ad) (V := V) "LetterRepositoryLaw" (by decide +kernel) rfl (Nat.le_of_ble_eq_true rfl) ?_
  intro p e s m below meth c ls hC hTab hI hl
  have hx := hC.1
  have hb := hC.2.1
  have hl : lv_has ls 4 [(0, .ref (ad 248)), (1, .int a1), (2, .ref (ad 265))] := hl
  unfold f_L_revert at hf
  obtain ⟨q, rr, V1, e1, hf⟩ := gbh hf
  refine lv_aload_n hx hb dL_revert_0 rfl (lv_at hl 2 rfl) ?_
  refine lv_iconst (v := 0) hx hb dL_revert_1 rfl ?_
  refine lv_aload_n hx hb dL_revert_2 rfl (lv_at hl 0 rfl) ?_
  refine lv_iload_n hx hb dL_revert_3 rfl (lv_at hl 1 rfl) ?_
  refine after_callH hI (xrunV_tb (As := [.int a1]) (rest := [.int 0, .ref (ad 265)]) hC hI hl.1 (m_X9_revert l hT E ad V a1 hS q rr V1 e1) cv_X9_revert tw_3_154 (by decide) (ce_248 _) rfl rfl rfl ⟨Nat.le_of_ble_eq_true rfl, Nat.le_of_ble_eq_true rfl⟩ ⟨Nat.le_of_ble_eq_true rfl, Nat.le_of_ble_eq_true rfl⟩ (Nat.le_of_ble_eq_true rfl) dL_revert_4) (fun hq H locs q9 ce hI hcell hcv hcl => ?_) (fun hq H locs hI => ?_)
  · have hf := (if_neg hq).symm.trans hf
    rcases Decidable.em (q = 1) with c0 | c0
    · have hf := gt hf c0
      have hcl : s.vm.findClass "java/lang/IndexOutOfBoundsException" = some ce.cls := by rw [c0] at hcl; exact hcl
      refine vx_catch (own := "LetterRepositoryLaw") (name := "java/lang/IndexOutOfBoundsException") (E := "java/lang/IndexOutOfBoundsException") hC.2.2.2.1 [] (⟨0, 9, 12, 13⟩ : ExceptionTableEntry) [] (hTab.trans rfl) (fun _ h => nomatch h) (by decide) (by decide) (hC.2.2.2.2.1 _ tw_2_213) (ot_before hC (.inr tw_3_5) (fun _ => rfl)) hcell hcv hcl ?_
      refine lv_astore_n (lv' := [(3, .ref q9), (0, .ref (ad 248)), (1, .int a1), (2, .ref (ad 265))]) hx hb dL_revert_12 rfl hl (Nat.lt_of_lt_of_eq (by decide) rfl) rfl (fun ls hl => ?_)
      refine lv_iconst (v := 1) hx hb dL_revert_13 rfl ?_
      refine x_wid (c2 := 1) (s2 := 6) (Nat.le_of_ble_eq_true rfl) (Nat.le_of_ble_eq_true rfl) ?_
      exact r_iret2 hC hI hf dL_revert_14
    have hf := gf hf c0
    cases hf
  · have hf := (if_pos hq).symm.trans hf
    refine lv_i2l (v := rr.toInt64) hx hb dL_revert_7 rfl ?_
    obtain ⟨V2, e2, hf⟩ := gl hf
    refine r_last (x := rr) hC hI e2 dL_revert_8 (fun H locs hI => ?_)
    refine lv_goto (tgt := 15) hx hb dL_revert_9 (by decide) ?_
    refine lv_iconst (v := 0) hx hb dL_revert_15 rfl ?_
    refine x_wid (c2 := 1) (s2 := 6) (Nat.le_of_ble_eq_true rfl) (Nat.le_of_ble_eq_true rfl) ?_
    exact r_iret2 hC hI hf dL_revert_16
theorem kl_L_revert {p : Program} {l : Launch} {e : Env} {R : Room} {cells slots : Nat} {s : State} {m : MethodId} {args : Array Value} {below : List Frame} {meth : Method} {c : Code} {H : Heap} {locs : List Loc} {Q : State → Prop} {E : En} {ad : Nat → Nat} {V : Mem} {ow : String} {b : ByteArray} {n : Nat} {ret : Option FieldType} {pc index : Nat} {ls : Array Slot} {rest : List Value} {a1 : Int32} {r : Int32} {V1 : Mem} (hS : SF E) (hT : l.stackTraces = false) (hC : Cx p s m args c meth E ow b n ret) (hI : In E ad V s H locs) (hsz : ls.size = n) (hf : f_L_revert V a1 = some (r, V1)) (hl : Cond.methodLink ow index yL_revert ∈ TB) (hR : 8 + 1 ≤ R.frames ∧ 8 + (4 + 11) + 40 * 8 ≤ R.locals) (hcs : cells + 1 ≤ R.cells ∧ slots + 6 ≤ R.slots) (hw : (rest.map fun v => v.category).sum ≤ 8) (hdg : decode b pc = .ok (.invokestatic index, 3)) (kk : ∀ (H1 : Heap) (locs1 : List Loc), In E ad V1 s H1 locs1 → W p l e R s m args below meth c H1 locs1 (cells + 1) (slots + 6) Q (F0 m (pc + 3) ls (.int r :: rest))) : W p l e R s m args below meth c H locs cells slots Q (F0 m pc ls (.ref (ad 265) :: .int a1 :: .ref (ad 248) :: rest)) :=
  after_callA hI (runSW_tb (As := [.ref (ad 248), .int a1, .ref (ad 265)]) (rest := rest) hC hI hsz (m_L_revert l hT E ad V a1 hS r V1 hf) cv_L_revert hl rfl rfl hR hcs hw hdg) kk

theorem dL_commit_0 : decode cL_commit 0 = .ok (.aload_n 3, 1) := by decide +kernel
theorem dL_commit_1 : decode cL_commit 1 = .ok (.iconst 0, 1) := by decide +kernel
theorem dL_commit_2 : decode cL_commit 2 = .ok (.aload_n 0, 1) := by decide +kernel
theorem dL_commit_3 : decode cL_commit 3 = .ok (.iload_n 1, 1) := by decide +kernel
theorem dL_commit_4 : decode cL_commit 4 = .ok (.iload_n 2, 1) := by decide +kernel
theorem dL_commit_5 : decode cL_commit 5 = .ok (.invokevirtual 21, 3) := by decide +kernel
theorem dL_commit_8 : decode cL_commit 8 = .ok (.i2l, 1) := by decide +kernel
theorem dL_commit_9 : decode cL_commit 9 = .ok (.lastore, 1) := by decide +kernel
theorem dL_commit_10 : decode cL_commit 10 = .ok (.goto 15, 3) := by decide +kernel
theorem dL_commit_13 : decode cL_commit 13 = .ok (.astore 4, 2) := by decide +kernel
theorem dL_commit_15 : decode cL_commit 15 = .ok (.iconst 1, 1) := by decide +kernel
theorem dL_commit_16 : decode cL_commit 16 = .ok (.ireturn, 1) := by decide +kernel
theorem dL_commit_17 : decode cL_commit 17 = .ok (.astore 4, 2) := by decide +kernel
theorem dL_commit_19 : decode cL_commit 19 = .ok (.iconst 2, 1) := by decide +kernel
theorem dL_commit_20 : decode cL_commit 20 = .ok (.ireturn, 1) := by decide +kernel
theorem dL_commit_21 : decode cL_commit 21 = .ok (.astore 4, 2) := by decide +kernel
theorem dL_commit_23 : decode cL_commit 23 = .ok (.iconst 3, 1) := by decide +kernel
theorem dL_commit_24 : decode cL_commit 24 = .ok (.ireturn, 1) := by decide +kernel
theorem dL_commit_25 : decode cL_commit 25 = .ok (.iconst 0, 1) := by decide +kernel
theorem dL_commit_26 : decode cL_commit 26 = .ok (.ireturn, 1) := by decide +kernel
def f_L_commit (V : Mem) (a1 : Int32) (a2 : Int32) : Option (Int32 × Mem) :=
  bh (f_X9_commit V a1 a2) (fun q V => if q = 1 then some (1, V) else if q = 2 then some (2, V) else if q = 4 then some (3, V) else none) fun r V1 =>
  lt (stv V1 265 0 r) fun V2 => some (0, V2)
theorem cv_L_commit : (yL_commit.cls ≠ "java/lang/invoke/MethodHandle" ∧ yL_commit.cls ≠ "java/lang/invoke/VarHandle") ∧ Cond.initialized yL_commit.cls ∈ TB ∧ Cond.codeWith yL_commit cL_commit 5 (some .int) [(0, 10, 13, 13), (0, 10, 17, 15), (0, 10, 21, 25)] ∈ TB ∧ (parseMethodDescriptor yL_commit.desc).map (fun d => d.parameters.length) = some 4 ∧ Cond.static yL_commit ∈ TB := ⟨⟨by decide +kernel, by decide +kernel⟩, tw_1_0, tw_3_172, by decide +kernel, tw_3_171⟩
set_option maxRecDepth 100000 in
set_option maxHeartbeats 4000000 in
theorem m_L_commit (l : Launch) (hT : l.stackTraces = false) (E : En) (ad : Nat → Nat) (V : Mem) (a1 : Int32) (a2 : Int32) (hS : SF E) (r : Int32) (Vz : Mem) (hf : f_L_commit V a1 a2 = some (r, Vz)) : MW l E ad yL_commit cL_commit 5 (some .int) [(0, 10, 13, 13), (0, 10, 17, 15), (0, 10, 21, 25)] 8 1 6 [.ref (ad 248), .int a1, .int a2, .ref (ad 265)] V (some (.int r)) Vz := by
  refine entH (E := E) (ad := ad) (V := V) "LetterRepositoryLaw" (by decide +kernel) rfl (Nat.le_of_ble_eq_true rfl) ?_
  intro p e s m below meth c ls hC hTab hI hl
  have hx := hC.1
  have hb := hC.2.1
  have hl : lv_has ls 5 [(0, .ref (ad 248)), (1, .int a1), (2, .int a2), (3, .ref (ad 265))] := hl
  unfold f_L_commit at hf
  obtain ⟨q, rr, V1, e1, hf⟩ := gbh hf
  refine lv_aload_n hx hb dL_commit_0 rfl (lv_at hl 3 rfl) ?_
  refine lv_iconst (v := 0) hx hb dL_commit_1 rfl ?_
  refine lv_aload_n hx hb dL_commit_2 rfl (lv_at hl 0 rfl) ?_
  refine lv_iload_n hx hb dL_commit_3 rfl (lv_at hl 1 rfl) ?_
  refine lv_iload_n hx hb dL_commit_4 rfl (lv_at hl 2 rfl) ?_
  refine after_callH hI (xrunV_tb (As := [.int a1, .int a2]) (rest := [.int 0, .ref (ad 265)]) hC hI hl.1 (m_X9_commit l hT E ad V a1 a2 hS q rr V1 e1) cv_X9_commit tw_3_174 (by decide) (ce_248 _) rfl rfl rfl ⟨Nat.le_of_ble_eq_true rfl, Nat.le_of_ble_eq_true rfl⟩ ⟨Nat.le_of_ble_eq_true rfl, Nat.le_of_ble_eq_true rfl⟩ (Nat.le_of_ble_eq_true rfl) dL_commit_5) (fun hq H locs q9 ce hI hcell hcv hcl => ?_) (fun hq H locs hI => ?_)
  · have hf := (if_neg hq).symm.trans hf
    rcases Decidable.em (q = 1) with c0 | c0
    · have hf := gt hf c0
      have hcl : s.vm.findClass "java/lang/IndexOutOfBoundsException" = some ce.cls := by rw [c0] at hcl; exact hcl
      refine vx_catch (own := "LetterRepositoryLaw") (name := "java/lang/IndexOutOfBoundsException") (E := "java/lang/IndexOutOfBoundsException") hC.2.2.2.1 [] (⟨0, 10, 13, 13⟩ : ExceptionTableEntry) [(⟨0, 10, 17, 15⟩ : ExceptionTableEntry), (⟨0, 10, 21, 25⟩ : ExceptionTableEntry)] (hTab.trans rfl) (fun _ h => nomatch h) (by decide) (by decide) (hC.2.2.2.2.1 _ tw_2_213) (ot_before hC (.inr tw_3_5) (fun _ => rfl)) hcell hcv hcl ?_
      refine lv_astore (lv' := [(4, .ref q9), (0, .ref (ad 248)), (1, .int a1), (2, .int a2), (3, .ref (ad 265))]) hx hb dL_commit_13 hl (Nat.lt_of_lt_of_eq (by decide) rfl) rfl (fun ls hl => ?_)
      refine lv_iconst (v := 1) hx hb dL_commit_15 rfl ?_
      refine x_wid (c2 := 1) (s2 := 6) (Nat.le_of_ble_eq_true rfl) (Nat.le_of_ble_eq_true rfl) ?_
      exact r_iret2 hC hI hf dL_commit_16
    have hf := gf hf c0
    rcases Decidable.em (q = 2) with c1 | c1
    · have hf := gt hf c1
      have hcl : s.vm.findClass "java/lang/IllegalArgumentException" = some ce.cls := by rw [c1] at hcl; exact hcl
      refine vx_catch (own := "LetterRepositoryLaw") (name := "java/lang/IllegalArgumentException") (E := "java/lang/IllegalArgumentException") hC.2.2.2.1 [(⟨0, 10, 13, 13⟩ : ExceptionTableEntry)] (⟨0, 10, 17, 15⟩ : ExceptionTableEntry) [(⟨0, 10, 21, 25⟩ : ExceptionTableEntry)] (hTab.trans rfl) (fun z hz => by
      rcases List.mem_cons.mp hz with rfl | hz
      · exact .inr ⟨by decide, "java/lang/IndexOutOfBoundsException", hC.2.2.2.2.1 _ tw_2_213, nc_of hS hC (List.mem_cons_of_mem _ List.mem_cons_self) List.mem_cons_self (by decide)⟩
      exact absurd hz List.not_mem_nil) (by decide) (by decide) (hC.2.2.2.2.1 _ tw_2_214) (ot_before hC (.inr tw_3_76) (fun _ => rfl)) hcell hcv hcl ?_
      refine lv_astore (lv' := [(4, .ref q9), (0, .ref (ad 248)), (1, .int a1), (2, .int a2), (3, .ref (ad 265))]) hx hb dL_commit_17 hl (Nat.lt_of_lt_of_eq (by decide) rfl) rfl (fun ls hl => ?_)
      refine lv_iconst (v := 2) hx hb dL_commit_19 rfl ?_
      refine x_wid (c2 := 1) (s2 := 6) (Nat.le_of_ble_eq_true rfl) (Nat.le_of_ble_eq_true rfl) ?_
      exact r_iret2 hC hI hf dL_commit_20
    have hf := gf hf c1
    rcases Decidable.em (q = 4) with c2 | c2
    · have hf := gt hf c2
      have hcl : s.vm.findClass "java/lang/IllegalStateException" = some ce.cls := by rw [c2] at hcl; exact hcl
      refine vx_catch (own := "LetterRepositoryLaw") (name := "java/lang/IllegalStateException") (E := "java/lang/IllegalStateException") hC.2.2.2.1 [(⟨0, 10, 13, 13⟩ : ExceptionTableEntry), (⟨0, 10, 17, 15⟩ : ExceptionTableEntry)] (⟨0, 10, 21, 25⟩ : ExceptionTableEntry) [] (hTab.trans rfl) (fun z hz => by
      rcases List.mem_cons.mp hz with rfl | hz
      · exact .inr ⟨by decide, "java/lang/IndexOutOfBoundsException", hC.2.2.2.2.1 _ tw_2_213, nc_of hS hC (List.mem_cons_of_mem _ (List.mem_cons_of_mem _ (List.mem_cons_of_mem _ List.mem_cons_self))) List.mem_cons_self (by decide)⟩
      rcases List.mem_cons.mp hz with rfl | hz
      · exact .inr ⟨by decide, "java/lang/IllegalArgumentException", hC.2.2.2.2.1 _ tw_2_214, nc_of hS hC (List.mem_cons_of_mem _ (List.mem_cons_of_mem _ (List.mem_cons_of_mem _ List.mem_cons_self))) (List.mem_cons_of_mem _ List.mem_cons_self) (by decide)⟩
      exact absurd hz List.not_mem_nil) (by decide) (by decide) (hC.2.2.2.2.1 _ tw_3_173) (ot_before hC (.inr tw_3_112) (fun _ => rfl)) hcell hcv hcl ?_
      refine lv_astore (lv' := [(4, .ref q9), (0, .ref (ad 248)), (1, .int a1), (2, .int a2), (3, .ref (ad 265))]) hx hb dL_commit_21 hl (Nat.lt_of_lt_of_eq (by decide) rfl) rfl (fun ls hl => ?_)
      refine lv_iconst (v := 3) hx hb dL_commit_23 rfl ?_
      refine x_wid (c2 := 1) (s2 := 6) (Nat.le_of_ble_eq_true rfl) (Nat.le_of_ble_eq_true rfl) ?_
      exact r_iret2 hC hI hf dL_commit_24
    have hf := gf hf c2
    cases hf
  · have hf := (if_pos hq).symm.trans hf
    refine lv_i2l (v := rr.toInt64) hx hb dL_commit_8 rfl ?_
    obtain ⟨V2, e2, hf⟩ := gl hf
    refine r_last (x := rr) hC hI e2 dL_commit_9 (fun H locs hI => ?_)
    refine lv_goto (tgt := 25) hx hb dL_commit_10 (by decide) ?_
    refine lv_iconst (v := 0) hx hb dL_commit_25 rfl ?_
    refine x_wid (c2 := 1) (s2 := 6) (Nat.le_of_ble_eq_true rfl) (Nat.le_of_ble_eq_true rfl) ?_
    exact r_iret2 hC hI hf dL_commit_26
theorem kl_L_commit {p : Program} {l : Launch} {e : Env} {R : Room} {cells slots : Nat} {s : State} {m : MethodId} {args : Array Value} {below : List Frame} {meth : Method} {c : Code} {H : Heap} {locs : List Loc} {Q : State → Prop} {E : En} {ad : Nat → Nat} {V : Mem} {ow : String} {b : ByteArray} {n : Nat} {ret : Option FieldType} {pc index : Nat} {ls : Array Slot} {rest : List Value} {a1 : Int32} {a2 : Int32} {r : Int32} {V1 : Mem} (hS : SF E) (hT : l.stackTraces = false) (hC : Cx p s m args c meth E ow b n ret) (hI : In E ad V s H locs) (hsz : ls.size = n) (hf : f_L_commit V a1 a2 = some (r, V1)) (hl : Cond.methodLink ow index yL_commit ∈ TB) (hR : 8 + 1 ≤ R.frames ∧ 8 + (5 + 11) + 40 * 8 ≤ R.locals) (hcs : cells + 1 ≤ R.cells ∧ slots + 6 ≤ R.slots) (hw : (rest.map fun v => v.category).sum ≤ 8) (hdg : decode b pc = .ok (.invokestatic index, 3)) (kk : ∀ (H1 : Heap) (locs1 : List Loc), In E ad V1 s H1 locs1 → W p l e R s m args below meth c H1 locs1 (cells + 1) (slots + 6) Q (F0 m (pc + 3) ls (.int r :: rest))) : W p l e R s m args below meth c H locs cells slots Q (F0 m pc ls (.ref (ad 265) :: .int a2 :: .int a1 :: .ref (ad 248) :: rest)) :=
  after_callA hI (runSW_tb (As := [.ref (ad 248), .int a1, .int a2, .ref (ad 265)]) (rest := rest) hC hI hsz (m_L_commit l hT E ad V a1 a2 hS r V1 hf) cv_L_commit hl rfl rfl hR hcs hw hdg) kk

theorem dL_createBranch_0 : decode cL_createBranch 0 = .ok (.aload_n 2, 1) := by decide +kernel
theorem dL_createBranch_1 : decode cL_createBranch 1 = .ok (.iconst 0, 1) := by decide +kernel
theorem dL_createBranch_2 : decode cL_createBranch 2 = .ok (.aload_n 0, 1) := by decide +kernel
theorem dL_createBranch_3 : decode cL_createBranch 3 = .ok (.iload_n 1, 1) := by decide +kernel
theorem dL_createBranch_4 : decode cL_createBranch 4 = .ok (.invokevirtual 27, 3) := by decide +kernel
theorem dL_createBranch_7 : decode cL_createBranch 7 = .ok (.i2l, 1) := by decide +kernel
theorem dL_createBranch_8 : decode cL_createBranch 8 = .ok (.lastore, 1) := by decide +kernel
theorem dL_createBranch_9 : decode cL_createBranch 9 = .ok (.goto 9, 3) := by decide +kernel
theorem dL_createBranch_12 : decode cL_createBranch 12 = .ok (.astore_n 3, 1) := by decide +kernel
theorem dL_createBranch_13 : decode cL_createBranch 13 = .ok (.iconst 1, 1) := by decide +kernel
theorem dL_createBranch_14 : decode cL_createBranch 14 = .ok (.ireturn, 1) := by decide +kernel
theorem dL_createBranch_15 : decode cL_createBranch 15 = .ok (.astore_n 3, 1) := by decide +kernel
theorem dL_createBranch_16 : decode cL_createBranch 16 = .ok (.iconst 2, 1) := by decide +kernel
theorem dL_createBranch_17 : decode cL_createBranch 17 = .ok (.ireturn, 1) := by decide +kernel
theorem dL_createBranch_18 : decode cL_createBranch 18 = .ok (.iconst 0, 1) := by decide +kernel
theorem dL_createBranch_19 : decode cL_createBranch 19 = .ok (.ireturn, 1) := by decide +kernel
def f_L_createBranch (V : Mem) (a1 : Int32) : Option (Int32 × Mem) :=
  bh (f_X9_createBranch V a1) (fun q V => if q = 3 then some (1, V) else if q = 4 then some (2, V) else none) fun r V1 =>
  lt (stv V1 265 0 r) fun V2 => some (0, V2)
theorem cv_L_createBranch : (yL_createBranch.cls ≠ "java/lang/invoke/MethodHandle" ∧ yL_createBranch.cls ≠ "java/lang/invoke/VarHandle") ∧ Cond.initialized yL_createBranch.cls ∈ TB ∧ Cond.codeWith yL_createBranch cL_createBranch 4 (some .int) [(0, 9, 12, 30), (0, 9, 15, 25)] ∈ TB ∧ (parseMethodDescriptor yL_createBranch.desc).map (fun d => d.parameters.length) = some 3 ∧ Cond.static yL_createBranch ∈ TB := ⟨⟨by decide +kernel, by decide +kernel⟩, tw_1_0, tw_3_208, by decide +kernel, tw_3_207⟩
set_option maxRecDepth 100000 in
set_option maxHeartbeats 4000000 in
theorem m_L_createBranch (l : Launch) (hT : l.stackTraces = false) (E : En) (ad : Nat → Nat) (V : Mem) (a1 : Int32) (hS : SF E) (r : Int32) (Vz : Mem) (hf : f_L_createBranch V a1 = some (r, Vz)) : MW l E ad yL_createBranch cL_createBranch 4 (some .int) [(0, 9, 12, 30), (0, 9, 15, 25)] 8 1 6 [.ref (ad 248), .int a1, .ref (ad 265)] V (some (.int r)) Vz := by
  refine entH (E := E) (ad := ad) (V := V) "LetterRepositoryLaw" (by decide +kernel) rfl (Nat.le_of_ble_eq_true rfl) ?_
  intro p e s m below meth c ls hC hTab hI hl
  have hx := hC.1
  have hb := hC.2.1
  have hl : lv_has ls 4 [(0, .ref (ad 248)), (1, .int a1), (2, .ref (ad 265))] := hl
  unfold f_L_createBranch at hf
  obtain ⟨q, rr, V1, e1, hf⟩ := gbh hf
  refine lv_aload_n hx hb dL_createBranch_0 rfl (lv_at hl 2 rfl) ?_
  refine lv_iconst (v := 0) hx hb dL_createBranch_1 rfl ?_
  refine lv_aload_n hx hb dL_createBranch_2 rfl (lv_at hl 0 rfl) ?_
  refine lv_iload_n hx hb dL_createBranch_3 rfl (lv_at hl 1 rfl) ?_
  refine after_callH hI (xrunV_tb (As := [.int a1]) (rest := [.int 0, .ref (ad 265)]) hC hI hl.1 (m_X9_createBranch l hT E ad V a1 hS q rr V1 e1) cv_X9_createBranch tw_3_210 (by decide) (ce_248 _) rfl rfl rfl ⟨Nat.le_of_ble_eq_true rfl, Nat.le_of_ble_eq_true rfl⟩ ⟨Nat.le_of_ble_eq_true rfl, Nat.le_of_ble_eq_true rfl⟩ (Nat.le_of_ble_eq_true rfl) dL_createBranch_4) (fun hq H locs q9 ce hI hcell hcv hcl => ?_) (fun hq H locs hI => ?_)
  · have hf := (if_neg hq).symm.trans hf
    rcases Decidable.em (q = 3) with c0 | c0
    · have hf := gt hf c0
      have hcl : s.vm.findClass "java/util/NoSuchElementException" = some ce.cls := by rw [c0] at hcl; exact hcl
      refine vx_catch (own := "LetterRepositoryLaw") (name := "java/util/NoSuchElementException") (E := "java/util/NoSuchElementException") hC.2.2.2.1 [] (⟨0, 9, 12, 30⟩ : ExceptionTableEntry) [(⟨0, 9, 15, 25⟩ : ExceptionTableEntry)] (hTab.trans rfl) (fun _ h => nomatch h) (by decide) (by decide) (hC.2.2.2.2.1 _ tw_3_209) (ot_before hC (.inr tw_3_94) (fun _ => rfl)) hcell hcv hcl ?_
      refine lv_astore_n (lv' := [(3, .ref q9), (0, .ref (ad 248)), (1, .int a1), (2, .ref (ad 265))]) hx hb dL_createBranch_12 rfl hl (Nat.lt_of_lt_of_eq (by decide) rfl) rfl (fun ls hl => ?_)
      refine lv_iconst (v := 1) hx hb dL_createBranch_13 rfl ?_
      refine x_wid (c2 := 1) (s2 := 6) (Nat.le_of_ble_eq_true rfl) (Nat.le_of_ble_eq_true rfl) ?_
      exact r_iret2 hC hI hf dL_createBranch_14
    have hf := gf hf c0
    rcases Decidable.em (q = 4) with c1 | c1
    · have hf := gt hf c1
      have hcl : s.vm.findClass "java/lang/IllegalStateException" = some ce.cls := by rw [c1] at hcl; exact hcl
      refine vx_catch (own := "LetterRepositoryLaw") (name := "java/lang/IllegalStateException") (E := "java/lang/IllegalStateException") hC.2.2.2.1 [(⟨0, 9, 12, 30⟩ : ExceptionTableEntry)] (⟨0, 9, 15, 25⟩ : ExceptionTableEntry) [] (hTab.trans rfl) (fun z hz => by
      rcases List.mem_cons.mp hz with rfl | hz
      · exact .inr ⟨by decide, "java/util/NoSuchElementException", hC.2.2.2.2.1 _ tw_3_209, nc_of hS hC (List.mem_cons_of_mem _ (List.mem_cons_of_mem _ (List.mem_cons_of_mem _ List.mem_cons_self))) (List.mem_cons_of_mem _ (List.mem_cons_of_mem _ List.mem_cons_self)) (by decide)⟩
      exact absurd hz List.not_mem_nil) (by decide) (by decide) (hC.2.2.2.2.1 _ tw_3_173) (ot_before hC (.inr tw_3_112) (fun _ => rfl)) hcell hcv hcl ?_
      refine lv_astore_n (lv' := [(3, .ref q9), (0, .ref (ad 248)), (1, .int a1), (2, .ref (ad 265))]) hx hb dL_createBranch_15 rfl hl (Nat.lt_of_lt_of_eq (by decide) rfl) rfl (fun ls hl => ?_)
      refine lv_iconst (v := 2) hx hb dL_createBranch_16 rfl ?_
      refine x_wid (c2 := 1) (s2 := 6) (Nat.le_of_ble_eq_true rfl) (Nat.le_of_ble_eq_true rfl) ?_
      exact r_iret2 hC hI hf dL_createBranch_17
    have hf := gf hf c1
    cases hf
  · have hf := (if_pos hq).symm.trans hf
    refine lv_i2l (v := rr.toInt64) hx hb dL_createBranch_7 rfl ?_
    obtain ⟨V2, e2, hf⟩ := gl hf
    refine r_last (x := rr) hC hI e2 dL_createBranch_8 (fun H locs hI => ?_)
    refine lv_goto (tgt := 18) hx hb dL_createBranch_9 (by decide) ?_
    refine lv_iconst (v := 0) hx hb dL_createBranch_18 rfl ?_
    refine x_wid (c2 := 1) (s2 := 6) (Nat.le_of_ble_eq_true rfl) (Nat.le_of_ble_eq_true rfl) ?_
    exact r_iret2 hC hI hf dL_createBranch_19
theorem kl_L_createBranch {p : Program} {l : Launch} {e : Env} {R : Room} {cells slots : Nat} {s : State} {m : MethodId} {args : Array Value} {below : List Frame} {meth : Method} {c : Code} {H : Heap} {locs : List Loc} {Q : State → Prop} {E : En} {ad : Nat → Nat} {V : Mem} {ow : String} {b : ByteArray} {n : Nat} {ret : Option FieldType} {pc index : Nat} {ls : Array Slot} {rest : List Value} {a1 : Int32} {r : Int32} {V1 : Mem} (hS : SF E) (hT : l.stackTraces = false) (hC : Cx p s m args c meth E ow b n ret) (hI : In E ad V s H locs) (hsz : ls.size = n) (hf : f_L_createBranch V a1 = some (r, V1)) (hl : Cond.methodLink ow index yL_createBranch ∈ TB) (hR : 8 + 1 ≤ R.frames ∧ 8 + (4 + 11) + 40 * 8 ≤ R.locals) (hcs : cells + 1 ≤ R.cells ∧ slots + 6 ≤ R.slots) (hw : (rest.map fun v => v.category).sum ≤ 8) (hdg : decode b pc = .ok (.invokestatic index, 3)) (kk : ∀ (H1 : Heap) (locs1 : List Loc), In E ad V1 s H1 locs1 → W p l e R s m args below meth c H1 locs1 (cells + 1) (slots + 6) Q (F0 m (pc + 3) ls (.int r :: rest))) : W p l e R s m args below meth c H locs cells slots Q (F0 m pc ls (.ref (ad 265) :: .int a1 :: .ref (ad 248) :: rest)) :=
  after_callA hI (runSW_tb (As := [.ref (ad 248), .int a1, .ref (ad 265)]) (rest := rest) hC hI hsz (m_L_createBranch l hT E ad V a1 hS r V1 hf) cv_L_createBranch hl rfl rfl hR hcs hw hdg) kk

theorem dL_closeBranch_0 : decode cL_closeBranch 0 = .ok (.aload_n 2, 1) := by decide +kernel
theorem dL_closeBranch_1 : decode cL_closeBranch 1 = .ok (.iconst 0, 1) := by decide +kernel
theorem dL_closeBranch_2 : decode cL_closeBranch 2 = .ok (.aload_n 0, 1) := by decide +kernel
theorem dL_closeBranch_3 : decode cL_closeBranch 3 = .ok (.iload_n 1, 1) := by decide +kernel
theorem dL_closeBranch_4 : decode cL_closeBranch 4 = .ok (.invokevirtual 32, 3) := by decide +kernel
theorem dL_closeBranch_7 : decode cL_closeBranch 7 = .ok (.i2l, 1) := by decide +kernel
theorem dL_closeBranch_8 : decode cL_closeBranch 8 = .ok (.lastore, 1) := by decide +kernel
theorem dL_closeBranch_9 : decode cL_closeBranch 9 = .ok (.goto 9, 3) := by decide +kernel
theorem dL_closeBranch_12 : decode cL_closeBranch 12 = .ok (.astore_n 3, 1) := by decide +kernel
theorem dL_closeBranch_13 : decode cL_closeBranch 13 = .ok (.iconst 1, 1) := by decide +kernel
theorem dL_closeBranch_14 : decode cL_closeBranch 14 = .ok (.ireturn, 1) := by decide +kernel
theorem dL_closeBranch_15 : decode cL_closeBranch 15 = .ok (.astore_n 3, 1) := by decide +kernel
theorem dL_closeBranch_16 : decode cL_closeBranch 16 = .ok (.iconst 2, 1) := by decide +kernel
theorem dL_closeBranch_17 : decode cL_closeBranch 17 = .ok (.ireturn, 1) := by decide +kernel
theorem dL_closeBranch_18 : decode cL_closeBranch 18 = .ok (.iconst 0, 1) := by decide +kernel
theorem dL_closeBranch_19 : decode cL_closeBranch 19 = .ok (.ireturn, 1) := by decide +kernel
def f_L_closeBranch (V : Mem) (a1 : Int32) : Option (Int32 × Mem) :=
  bh (f_X9_closeBranch V a1) (fun q V => if q = 1 then some (1, V) else if q = 4 then some (2, V) else none) fun r V1 =>
  lt (stv V1 265 0 r) fun V2 => some (0, V2)
theorem cv_L_closeBranch : (yL_closeBranch.cls ≠ "java/lang/invoke/MethodHandle" ∧ yL_closeBranch.cls ≠ "java/lang/invoke/VarHandle") ∧ Cond.initialized yL_closeBranch.cls ∈ TB ∧ Cond.codeWith yL_closeBranch cL_closeBranch 4 (some .int) [(0, 9, 12, 13), (0, 9, 15, 25)] ∈ TB ∧ (parseMethodDescriptor yL_closeBranch.desc).map (fun d => d.parameters.length) = some 3 ∧ Cond.static yL_closeBranch ∈ TB := ⟨⟨by decide +kernel, by decide +kernel⟩, tw_1_0, tw_3_233, by decide +kernel, tw_3_232⟩
set_option maxRecDepth 100000 in
set_option maxHeartbeats 4000000 in
theorem m_L_closeBranch (l : Launch) (hT : l.stackTraces = false) (E : En) (ad : Nat → Nat) (V : Mem) (a1 : Int32) (hS : SF E) (r : Int32) (Vz : Mem) (hf : f_L_closeBranch V a1 = some (r, Vz)) : MW l E ad yL_closeBranch cL_closeBranch 4 (some .int) [(0, 9, 12, 13), (0, 9, 15, 25)] 8 1 6 [.ref (ad 248), .int a1, .ref (ad 265)] V (some (.int r)) Vz := by
  refine entH (E := E) (ad := ad) (V := V) "LetterRepositoryLaw" (by decide +kernel) rfl (Nat.le_of_ble_eq_true rfl) ?_
  intro p e s m below meth c ls hC hTab hI hl
  have hx := hC.1
  have hb := hC.2.1
  have hl : lv_has ls 4 [(0, .ref (ad 248)), (1, .int a1), (2, .ref (ad 265))] := hl
  unfold f_L_closeBranch at hf
  obtain ⟨q, rr, V1, e1, hf⟩ := gbh hf
  refine lv_aload_n hx hb dL_closeBranch_0 rfl (lv_at hl 2 rfl) ?_
  refine lv_iconst (v := 0) hx hb dL_closeBranch_1 rfl ?_
  refine lv_aload_n hx hb dL_closeBranch_2 rfl (lv_at hl 0 rfl) ?_
  refine lv_iload_n hx hb dL_closeBranch_3 rfl (lv_at hl 1 rfl) ?_
  refine after_callH hI (xrunV_tb (As := [.int a1]) (rest := [.int 0, .ref (ad 265)]) hC hI hl.1 (m_X9_closeBranch l hT E ad V a1 hS q rr V1 e1) cv_X9_closeBranch tw_3_234 (by decide) (ce_248 _) rfl rfl rfl ⟨Nat.le_of_ble_eq_true rfl, Nat.le_of_ble_eq_true rfl⟩ ⟨Nat.le_of_ble_eq_true rfl, Nat.le_of_ble_eq_true rfl⟩ (Nat.le_of_ble_eq_true rfl) dL_closeBranch_4) (fun hq H locs q9 ce hI hcell hcv hcl => ?_) (fun hq H locs hI => ?_)
  · have hf := (if_neg hq).symm.trans hf
    rcases Decidable.em (q = 1) with c0 | c0
    · have hf := gt hf c0
      have hcl : s.vm.findClass "java/lang/IndexOutOfBoundsException" = some ce.cls := by rw [c0] at hcl; exact hcl
      refine vx_catch (own := "LetterRepositoryLaw") (name := "java/lang/IndexOutOfBoundsException") (E := "java/lang/IndexOutOfBoundsException") hC.2.2.2.1 [] (⟨0, 9, 12, 13⟩ : ExceptionTableEntry) [(⟨0, 9, 15, 25⟩ : ExceptionTableEntry)] (hTab.trans rfl) (fun _ h => nomatch h) (by decide) (by decide) (hC.2.2.2.2.1 _ tw_2_213) (ot_before hC (.inr tw_3_5) (fun _ => rfl)) hcell hcv hcl ?_
      refine lv_astore_n (lv' := [(3, .ref q9), (0, .ref (ad 248)), (1, .int a1), (2, .ref (ad 265))]) hx hb dL_closeBranch_12 rfl hl (Nat.lt_of_lt_of_eq (by decide) rfl) rfl (fun ls hl => ?_)
      refine lv_iconst (v := 1) hx hb dL_closeBranch_13 rfl ?_
      refine x_wid (c2 := 1) (s2 := 6) (Nat.le_of_ble_eq_true rfl) (Nat.le_of_ble_eq_true rfl) ?_
      exact r_iret2 hC hI hf dL_closeBranch_14
    have hf := gf hf c0
    rcases Decidable.em (q = 4) with c1 | c1
    · have hf := gt hf c1
      have hcl : s.vm.findClass "java/lang/IllegalStateException" = some ce.cls := by rw [c1] at hcl; exact hcl
      refine vx_catch (own := "LetterRepositoryLaw") (name := "java/lang/IllegalStateException") (E := "java/lang/IllegalStateException") hC.2.2.2.1 [(⟨0, 9, 12, 13⟩ : ExceptionTableEntry)] (⟨0, 9, 15, 25⟩ : ExceptionTableEntry) [] (hTab.trans rfl) (fun z hz => by
      rcases List.mem_cons.mp hz with rfl | hz
      · exact .inr ⟨by decide, "java/lang/IndexOutOfBoundsException", hC.2.2.2.2.1 _ tw_2_213, nc_of hS hC (List.mem_cons_of_mem _ (List.mem_cons_of_mem _ (List.mem_cons_of_mem _ List.mem_cons_self))) List.mem_cons_self (by decide)⟩
      exact absurd hz List.not_mem_nil) (by decide) (by decide) (hC.2.2.2.2.1 _ tw_3_173) (ot_before hC (.inr tw_3_112) (fun _ => rfl)) hcell hcv hcl ?_
      refine lv_astore_n (lv' := [(3, .ref q9), (0, .ref (ad 248)), (1, .int a1), (2, .ref (ad 265))]) hx hb dL_closeBranch_15 rfl hl (Nat.lt_of_lt_of_eq (by decide) rfl) rfl (fun ls hl => ?_)
      refine lv_iconst (v := 2) hx hb dL_closeBranch_16 rfl ?_
      refine x_wid (c2 := 1) (s2 := 6) (Nat.le_of_ble_eq_true rfl) (Nat.le_of_ble_eq_true rfl) ?_
      exact r_iret2 hC hI hf dL_closeBranch_17
    have hf := gf hf c1
    cases hf
  · have hf := (if_pos hq).symm.trans hf
    refine lv_i2l (v := rr.toInt64) hx hb dL_closeBranch_7 rfl ?_
    obtain ⟨V2, e2, hf⟩ := gl hf
    refine r_last (x := rr) hC hI e2 dL_closeBranch_8 (fun H locs hI => ?_)
    refine lv_goto (tgt := 18) hx hb dL_closeBranch_9 (by decide) ?_
    refine lv_iconst (v := 0) hx hb dL_closeBranch_18 rfl ?_
    refine x_wid (c2 := 1) (s2 := 6) (Nat.le_of_ble_eq_true rfl) (Nat.le_of_ble_eq_true rfl) ?_
    exact r_iret2 hC hI hf dL_closeBranch_19
theorem kl_L_closeBranch {p : Program} {l : Launch} {e : Env} {R : Room} {cells slots : Nat} {s : State} {m : MethodId} {args : Array Value} {below : List Frame} {meth : Method} {c : Code} {H : Heap} {locs : List Loc} {Q : State → Prop} {E : En} {ad : Nat → Nat} {V : Mem} {ow : String} {b : ByteArray} {n : Nat} {ret : Option FieldType} {pc index : Nat} {ls : Array Slot} {rest : List Value} {a1 : Int32} {r : Int32} {V1 : Mem} (hS : SF E) (hT : l.stackTraces = false) (hC : Cx p s m args c meth E ow b n ret) (hI : In E ad V s H locs) (hsz : ls.size = n) (hf : f_L_closeBranch V a1 = some (r, V1)) (hl : Cond.methodLink ow index yL_closeBranch ∈ TB) (hR : 8 + 1 ≤ R.frames ∧ 8 + (4 + 11) + 40 * 8 ≤ R.locals) (hcs : cells + 1 ≤ R.cells ∧ slots + 6 ≤ R.slots) (hw : (rest.map fun v => v.category).sum ≤ 8) (hdg : decode b pc = .ok (.invokestatic index, 3)) (kk : ∀ (H1 : Heap) (locs1 : List Loc), In E ad V1 s H1 locs1 → W p l e R s m args below meth c H1 locs1 (cells + 1) (slots + 6) Q (F0 m (pc + 3) ls (.int r :: rest))) : W p l e R s m args below meth c H locs cells slots Q (F0 m pc ls (.ref (ad 265) :: .int a1 :: .ref (ad 248) :: rest)) :=
  after_callA hI (runSW_tb (As := [.ref (ad 248), .int a1, .ref (ad 265)]) (rest := rest) hC hI hsz (m_L_closeBranch l hT E ad V a1 hS r V1 hf) cv_L_closeBranch hl rfl rfl hR hcs hw hdg) kk

theorem dL_merge_0 : decode cL_merge 0 = .ok (.aload_n 3, 1) := by decide +kernel
theorem dL_merge_1 : decode cL_merge 1 = .ok (.iconst 0, 1) := by decide +kernel
theorem dL_merge_2 : decode cL_merge 2 = .ok (.aload_n 0, 1) := by decide +kernel
theorem dL_merge_3 : decode cL_merge 3 = .ok (.iload_n 1, 1) := by decide +kernel
theorem dL_merge_4 : decode cL_merge 4 = .ok (.iload_n 2, 1) := by decide +kernel
theorem dL_merge_5 : decode cL_merge 5 = .ok (.invokevirtual 35, 3) := by decide +kernel
theorem dL_merge_8 : decode cL_merge 8 = .ok (.i2l, 1) := by decide +kernel
theorem dL_merge_9 : decode cL_merge 9 = .ok (.lastore, 1) := by decide +kernel
theorem dL_merge_10 : decode cL_merge 10 = .ok (.goto 15, 3) := by decide +kernel
theorem dL_merge_13 : decode cL_merge 13 = .ok (.astore 4, 2) := by decide +kernel
theorem dL_merge_15 : decode cL_merge 15 = .ok (.iconst 1, 1) := by decide +kernel
theorem dL_merge_16 : decode cL_merge 16 = .ok (.ireturn, 1) := by decide +kernel
theorem dL_merge_17 : decode cL_merge 17 = .ok (.astore 4, 2) := by decide +kernel
theorem dL_merge_19 : decode cL_merge 19 = .ok (.iconst 2, 1) := by decide +kernel
theorem dL_merge_20 : decode cL_merge 20 = .ok (.ireturn, 1) := by decide +kernel
theorem dL_merge_21 : decode cL_merge 21 = .ok (.astore 4, 2) := by decide +kernel
theorem dL_merge_23 : decode cL_merge 23 = .ok (.iconst 3, 1) := by decide +kernel
theorem dL_merge_24 : decode cL_merge 24 = .ok (.ireturn, 1) := by decide +kernel
theorem dL_merge_25 : decode cL_merge 25 = .ok (.iconst 0, 1) := by decide +kernel
theorem dL_merge_26 : decode cL_merge 26 = .ok (.ireturn, 1) := by decide +kernel
def f_L_merge (V : Mem) (a1 : Int32) (a2 : Int32) : Option (Int32 × Mem) :=
  bh (f_X9_merge V a1 a2) (fun q V => if q = 1 then some (1, V) else if q = 2 then some (2, V) else if q = 4 then some (3, V) else none) fun r V1 =>
  lt (stv V1 265 0 r) fun V2 => some (0, V2)
theorem cv_L_merge : (yL_merge.cls ≠ "java/lang/invoke/MethodHandle" ∧ yL_merge.cls ≠ "java/lang/invoke/VarHandle") ∧ Cond.initialized yL_merge.cls ∈ TB ∧ Cond.codeWith yL_merge cL_merge 5 (some .int) [(0, 10, 13, 13), (0, 10, 17, 15), (0, 10, 21, 25)] ∈ TB ∧ (parseMethodDescriptor yL_merge.desc).map (fun d => d.parameters.length) = some 4 ∧ Cond.static yL_merge ∈ TB := ⟨⟨by decide +kernel, by decide +kernel⟩, tw_1_0, tw_4_8, by decide +kernel, tw_4_7⟩
set_option maxRecDepth 100000 in
set_option maxHeartbeats 4000000 in
theorem m_L_merge (l : Launch) (hT : l.stackTraces = false) (E : En) (ad : Nat → Nat) (V : Mem) (a1 : Int32) (a2 : Int32) (hS : SF E) (r : Int32) (Vz : Mem) (hf : f_L_merge V a1 a2 = some (r, Vz)) : MW l E ad yL_merge cL_merge 5 (some .int) [(0, 10, 13, 13), (0, 10, 17, 15), (0, 10, 21, 25)] 8 1 6 [.ref (ad 248), .int a1, .int a2, .ref (ad 265)] V (some (.int r)) Vz := by
  refine entH (E := E) (ad := ad) (V := V) "LetterRepositoryLaw" (by decide +kernel) rfl (Nat.le_of_ble_eq_true rfl) ?_
  intro p e s m below meth c ls hC hTab hI hl
  have hx := hC.1
  have hb := hC.2.1
  have hl : lv_has ls 5 [(0, .ref (ad 248)), (1, .int a1), (2, .int a2), (3, .ref (ad 265))] := hl
  unfold f_L_merge at hf
  obtain ⟨q, rr, V1, e1, hf⟩ := gbh hf
  refine lv_aload_n hx hb dL_merge_0 rfl (lv_at hl 3 rfl) ?_
  refine lv_iconst (v := 0) hx hb dL_merge_1 rfl ?_
  refine lv_aload_n hx hb dL_merge_2 rfl (lv_at hl 0 rfl) ?_
  refine lv_iload_n hx hb dL_merge_3 rfl (lv_at hl 1 rfl) ?_
  refine lv_iload_n hx hb dL_merge_4 rfl (lv_at hl 2 rfl) ?_
  refine after_callH hI (xrunV_tb (As := [.int a1, .int a2]) (rest := [.int 0, .ref (ad 265)]) hC hI hl.1 (m_X9_merge l hT E ad V a1 a2 hS q rr V1 e1) cv_X9_merge tw_4_9 (by decide) (ce_248 _) rfl rfl rfl ⟨Nat.le_of_ble_eq_true rfl, Nat.le_of_ble_eq_true rfl⟩ ⟨Nat.le_of_ble_eq_true rfl, Nat.le_of_ble_eq_true rfl⟩ (Nat.le_of_ble_eq_true rfl) dL_merge_5) (fun hq H locs q9 ce hI hcell hcv hcl => ?_) (fun hq H locs hI => ?_)
  · have hf := (if_neg hq).symm.trans hf
    rcases Decidable.em (q = 1) with c0 | c0
    · have hf := gt hf c0
      have hcl : s.vm.findClass "java/lang/IndexOutOfBoundsException" = some ce.cls := by rw [c0] at hcl; exact hcl
      refine vx_catch (own := "LetterRepositoryLaw") (name := "java/lang/IndexOutOfBoundsException") (E := "java/lang/IndexOutOfBoundsException") hC.2.2.2.1 [] (⟨0, 10, 13, 13⟩ : ExceptionTableEntry) [(⟨0, 10, 17, 15⟩ : ExceptionTableEntry), (⟨0, 10, 21, 25⟩ : ExceptionTableEntry)] (hTab.trans rfl) (fun _ h => nomatch h) (by decide) (by decide) (hC.2.2.2.2.1 _ tw_2_213) (ot_before hC (.inr tw_3_5) (fun _ => rfl)) hcell hcv hcl ?_
      refine lv_astore (lv' := [(4, .ref q9), (0, .ref (ad 248)), (1, .int a1), (2, .int a2), (3, .ref (ad 265))]) hx hb dL_merge_13 hl (Nat.lt_of_lt_of_eq (by decide) rfl) rfl (fun ls hl => ?_)
      refine lv_iconst (v := 1) hx hb dL_merge_15 rfl ?_
      refine x_wid (c2 := 1) (s2 := 6) (Nat.le_of_ble_eq_true rfl) (Nat.le_of_ble_eq_true rfl) ?_
      exact r_iret2 hC hI hf dL_merge_16
    have hf := gf hf c0
    rcases Decidable.em (q = 2) with c1 | c1
    · have hf := gt hf c1
      have hcl : s.vm.findClass "java/lang/IllegalArgumentException" = some ce.cls := by rw [c1] at hcl; exact hcl
      refine vx_catch (own := "LetterRepositoryLaw") (name := "java/lang/IllegalArgumentException") (E := "java/lang/IllegalArgumentException") hC.2.2.2.1 [(⟨0, 10, 13, 13⟩ : ExceptionTableEntry)] (⟨0, 10, 17, 15⟩ : ExceptionTableEntry) [(⟨0, 10, 21, 25⟩ : ExceptionTableEntry)] (hTab.trans rfl) (fun z hz => by
      rcases List.mem_cons.mp hz with rfl | hz
      · exact .inr ⟨by decide, "java/lang/IndexOutOfBoundsException", hC.2.2.2.2.1 _ tw_2_213, nc_of hS hC (List.mem_cons_of_mem _ List.mem_cons_self) List.mem_cons_self (by decide)⟩
      exact absurd hz List.not_mem_nil) (by decide) (by decide) (hC.2.2.2.2.1 _ tw_2_214) (ot_before hC (.inr tw_3_76) (fun _ => rfl)) hcell hcv hcl ?_
      refine lv_astore (lv' := [(4, .ref q9), (0, .ref (ad 248)), (1, .int a1), (2, .int a2), (3, .ref (ad 265))]) hx hb dL_merge_17 hl (Nat.lt_of_lt_of_eq (by decide) rfl) rfl (fun ls hl => ?_)
      refine lv_iconst (v := 2) hx hb dL_merge_19 rfl ?_
      refine x_wid (c2 := 1) (s2 := 6) (Nat.le_of_ble_eq_true rfl) (Nat.le_of_ble_eq_true rfl) ?_
      exact r_iret2 hC hI hf dL_merge_20
    have hf := gf hf c1
    rcases Decidable.em (q = 4) with c2 | c2
    · have hf := gt hf c2
      have hcl : s.vm.findClass "java/lang/IllegalStateException" = some ce.cls := by rw [c2] at hcl; exact hcl
      refine vx_catch (own := "LetterRepositoryLaw") (name := "java/lang/IllegalStateException") (E := "java/lang/IllegalStateException") hC.2.2.2.1 [(⟨0, 10, 13, 13⟩ : ExceptionTableEntry), (⟨0, 10, 17, 15⟩ : ExceptionTableEntry)] (⟨0, 10, 21, 25⟩ : ExceptionTableEntry) [] (hTab.trans rfl) (fun z hz => by
      rcases List.mem_cons.mp hz with rfl | hz
      · exact .inr ⟨by decide, "java/lang/IndexOutOfBoundsException", hC.2.2.2.2.1 _ tw_2_213, nc_of hS hC (List.mem_cons_of_mem _ (List.mem_cons_of_mem _ (List.mem_cons_of_mem _ List.mem_cons_self))) List.mem_cons_self (by decide)⟩
      rcases List.mem_cons.mp hz with rfl | hz
      · exact .inr ⟨by decide, "java/lang/IllegalArgumentException", hC.2.2.2.2.1 _ tw_2_214, nc_of hS hC (List.mem_cons_of_mem _ (List.mem_cons_of_mem _ (List.mem_cons_of_mem _ List.mem_cons_self))) (List.mem_cons_of_mem _ List.mem_cons_self) (by decide)⟩
      exact absurd hz List.not_mem_nil) (by decide) (by decide) (hC.2.2.2.2.1 _ tw_3_173) (ot_before hC (.inr tw_3_112) (fun _ => rfl)) hcell hcv hcl ?_
      refine lv_astore (lv' := [(4, .ref q9), (0, .ref (ad 248)), (1, .int a1), (2, .int a2), (3, .ref (ad 265))]) hx hb dL_merge_21 hl (Nat.lt_of_lt_of_eq (by decide) rfl) rfl (fun ls hl => ?_)
      refine lv_iconst (v := 3) hx hb dL_merge_23 rfl ?_
      refine x_wid (c2 := 1) (s2 := 6) (Nat.le_of_ble_eq_true rfl) (Nat.le_of_ble_eq_true rfl) ?_
      exact r_iret2 hC hI hf dL_merge_24
    have hf := gf hf c2
    cases hf
  · have hf := (if_pos hq).symm.trans hf
    refine lv_i2l (v := rr.toInt64) hx hb dL_merge_8 rfl ?_
    obtain ⟨V2, e2, hf⟩ := gl hf
    refine r_last (x := rr) hC hI e2 dL_merge_9 (fun H locs hI => ?_)
    refine lv_goto (tgt := 25) hx hb dL_merge_10 (by decide) ?_
    refine lv_iconst (v := 0) hx hb dL_merge_25 rfl ?_
    refine x_wid (c2 := 1) (s2 := 6) (Nat.le_of_ble_eq_true rfl) (Nat.le_of_ble_eq_true rfl) ?_
    exact r_iret2 hC hI hf dL_merge_26
theorem kl_L_merge {p : Program} {l : Launch} {e : Env} {R : Room} {cells slots : Nat} {s : State} {m : MethodId} {args : Array Value} {below : List Frame} {meth : Method} {c : Code} {H : Heap} {locs : List Loc} {Q : State → Prop} {E : En} {ad : Nat → Nat} {V : Mem} {ow : String} {b : ByteArray} {n : Nat} {ret : Option FieldType} {pc index : Nat} {ls : Array Slot} {rest : List Value} {a1 : Int32} {a2 : Int32} {r : Int32} {V1 : Mem} (hS : SF E) (hT : l.stackTraces = false) (hC : Cx p s m args c meth E ow b n ret) (hI : In E ad V s H locs) (hsz : ls.size = n) (hf : f_L_merge V a1 a2 = some (r, V1)) (hl : Cond.methodLink ow index yL_merge ∈ TB) (hR : 8 + 1 ≤ R.frames ∧ 8 + (5 + 11) + 40 * 8 ≤ R.locals) (hcs : cells + 1 ≤ R.cells ∧ slots + 6 ≤ R.slots) (hw : (rest.map fun v => v.category).sum ≤ 8) (hdg : decode b pc = .ok (.invokestatic index, 3)) (kk : ∀ (H1 : Heap) (locs1 : List Loc), In E ad V1 s H1 locs1 → W p l e R s m args below meth c H1 locs1 (cells + 1) (slots + 6) Q (F0 m (pc + 3) ls (.int r :: rest))) : W p l e R s m args below meth c H locs cells slots Q (F0 m pc ls (.ref (ad 265) :: .int a2 :: .int a1 :: .ref (ad 248) :: rest)) :=
  after_callA hI (runSW_tb (As := [.ref (ad 248), .int a1, .int a2, .ref (ad 265)]) (rest := rest) hC hI hsz (m_L_merge l hT E ad V a1 a2 hS r V1 hf) cv_L_merge hl rfl rfl hR hcs hw hdg) kk

theorem dL_mergeKeeping_0 : decode cL_mergeKeeping 0 = .ok (.aload 4, 2) := by decide +kernel
theorem dL_mergeKeeping_2 : decode cL_mergeKeeping 2 = .ok (.iconst 0, 1) := by decide +kernel
theorem dL_mergeKeeping_3 : decode cL_mergeKeeping 3 = .ok (.aload_n 0, 1) := by decide +kernel
theorem dL_mergeKeeping_4 : decode cL_mergeKeeping 4 = .ok (.iload_n 1, 1) := by decide +kernel
theorem dL_mergeKeeping_5 : decode cL_mergeKeeping 5 = .ok (.iload_n 2, 1) := by decide +kernel
theorem dL_mergeKeeping_6 : decode cL_mergeKeeping 6 = .ok (.iload_n 3, 1) := by decide +kernel
theorem dL_mergeKeeping_7 : decode cL_mergeKeeping 7 = .ok (.invokevirtual 38, 3) := by decide +kernel
theorem dL_mergeKeeping_10 : decode cL_mergeKeeping 10 = .ok (.i2l, 1) := by decide +kernel
theorem dL_mergeKeeping_11 : decode cL_mergeKeeping 11 = .ok (.lastore, 1) := by decide +kernel
theorem dL_mergeKeeping_12 : decode cL_mergeKeeping 12 = .ok (.goto 15, 3) := by decide +kernel
theorem dL_mergeKeeping_15 : decode cL_mergeKeeping 15 = .ok (.astore 5, 2) := by decide +kernel
theorem dL_mergeKeeping_17 : decode cL_mergeKeeping 17 = .ok (.iconst 1, 1) := by decide +kernel
theorem dL_mergeKeeping_18 : decode cL_mergeKeeping 18 = .ok (.ireturn, 1) := by decide +kernel
theorem dL_mergeKeeping_19 : decode cL_mergeKeeping 19 = .ok (.astore 5, 2) := by decide +kernel
theorem dL_mergeKeeping_21 : decode cL_mergeKeeping 21 = .ok (.iconst 2, 1) := by decide +kernel
theorem dL_mergeKeeping_22 : decode cL_mergeKeeping 22 = .ok (.ireturn, 1) := by decide +kernel
theorem dL_mergeKeeping_23 : decode cL_mergeKeeping 23 = .ok (.astore 5, 2) := by decide +kernel
theorem dL_mergeKeeping_25 : decode cL_mergeKeeping 25 = .ok (.iconst 3, 1) := by decide +kernel
theorem dL_mergeKeeping_26 : decode cL_mergeKeeping 26 = .ok (.ireturn, 1) := by decide +kernel
theorem dL_mergeKeeping_27 : decode cL_mergeKeeping 27 = .ok (.iconst 0, 1) := by decide +kernel
theorem dL_mergeKeeping_28 : decode cL_mergeKeeping 28 = .ok (.ireturn, 1) := by decide +kernel
def f_L_mergeKeeping (V : Mem) (a1 : Int32) (a2 : Int32) (a3 : Int32) : Option (Int32 × Mem) :=
  bh (f_X9_mergeKeeping V a1 a2 a3) (fun q V => if q = 1 then some (1, V) else if q = 2 then some (2, V) else if q = 4 then some (3, V) else none) fun r V1 =>
  lt (stv V1 265 0 r) fun V2 => some (0, V2)
theorem cv_L_mergeKeeping : (yL_mergeKeeping.cls ≠ "java/lang/invoke/MethodHandle" ∧ yL_mergeKeeping.cls ≠ "java/lang/invoke/VarHandle") ∧ Cond.initialized yL_mergeKeeping.cls ∈ TB ∧ Cond.codeWith yL_mergeKeeping cL_mergeKeeping 6 (some .int) [(0, 12, 15, 13), (0, 12, 19, 15), (0, 12, 23, 25)] ∈ TB ∧ (parseMethodDescriptor yL_mergeKeeping.desc).map (fun d => d.parameters.length) = some 5 ∧ Cond.static yL_mergeKeeping ∈ TB := ⟨⟨by decide +kernel, by decide +kernel⟩, tw_1_0, tw_4_41, by decide +kernel, tw_4_40⟩
set_option maxRecDepth 100000 in
set_option maxHeartbeats 4000000 in
theorem m_L_mergeKeeping (l : Launch) (hT : l.stackTraces = false) (E : En) (ad : Nat → Nat) (V : Mem) (a1 : Int32) (a2 : Int32) (a3 : Int32) (hS : SF E) (r : Int32) (Vz : Mem) (hf : f_L_mergeKeeping V a1 a2 a3 = some (r, Vz)) : MW l E ad yL_mergeKeeping cL_mergeKeeping 6 (some .int) [(0, 12, 15, 13), (0, 12, 19, 15), (0, 12, 23, 25)] 8 1 6 [.ref (ad 248), .int a1, .int a2, .int a3, .ref (ad 265)] V (some (.int r)) Vz := by
  refine entH (E := E) (ad := ad) (V := V) "LetterRepositoryLaw" (by decide +kernel) rfl (Nat.le_of_ble_eq_true rfl) ?_
  intro p e s m below meth c ls hC hTab hI hl
  have hx := hC.1
  have hb := hC.2.1
  have hl : lv_has ls 6 [(0, .ref (ad 248)), (1, .int a1), (2, .int a2), (3, .int a3), (4, .ref (ad 265))] := hl
  unfold f_L_mergeKeeping at hf
  obtain ⟨q, rr, V1, e1, hf⟩ := gbh hf
  refine lv_aload hx hb dL_mergeKeeping_0 (lv_at hl 4 rfl) ?_
  refine lv_iconst (v := 0) hx hb dL_mergeKeeping_2 rfl ?_
  refine lv_aload_n hx hb dL_mergeKeeping_3 rfl (lv_at hl 0 rfl) ?_
  refine lv_iload_n hx hb dL_mergeKeeping_4 rfl (lv_at hl 1 rfl) ?_
  refine lv_iload_n hx hb dL_mergeKeeping_5 rfl (lv_at hl 2 rfl) ?_
  refine lv_iload_n hx hb dL_mergeKeeping_6 rfl (lv_at hl 3 rfl) ?_
  refine after_callH hI (xrunV_tb (As := [.int a1, .int a2, .int a3]) (rest := [.int 0, .ref (ad 265)]) hC hI hl.1 (m_X9_mergeKeeping l hT E ad V a1 a2 a3 hS q rr V1 e1) cv_X9_mergeKeeping tw_4_42 (by decide) (ce_248 _) rfl rfl rfl ⟨Nat.le_of_ble_eq_true rfl, Nat.le_of_ble_eq_true rfl⟩ ⟨Nat.le_of_ble_eq_true rfl, Nat.le_of_ble_eq_true rfl⟩ (Nat.le_of_ble_eq_true rfl) dL_mergeKeeping_7) (fun hq H locs q9 ce hI hcell hcv hcl => ?_) (fun hq H locs hI => ?_)
  · have hf := (if_neg hq).symm.trans hf
    rcases Decidable.em (q = 1) with c0 | c0
    · have hf := gt hf c0
      have hcl : s.vm.findClass "java/lang/IndexOutOfBoundsException" = some ce.cls := by rw [c0] at hcl; exact hcl
      refine vx_catch (own := "LetterRepositoryLaw") (name := "java/lang/IndexOutOfBoundsException") (E := "java/lang/IndexOutOfBoundsException") hC.2.2.2.1 [] (⟨0, 12, 15, 13⟩ : ExceptionTableEntry) [(⟨0, 12, 19, 15⟩ : ExceptionTableEntry), (⟨0, 12, 23, 25⟩ : ExceptionTableEntry)] (hTab.trans rfl) (fun _ h => nomatch h) (by decide) (by decide) (hC.2.2.2.2.1 _ tw_2_213) (ot_before hC (.inr tw_3_5) (fun _ => rfl)) hcell hcv hcl ?_
      refine lv_astore (lv' := [(5, .ref q9), (0, .ref (ad 248)), (1, .int a1), (2, .int a2), (3, .int a3), (4, .ref (ad 265))]) hx hb dL_mergeKeeping_15 hl (Nat.lt_of_lt_of_eq (by decide) rfl) rfl (fun ls hl => ?_)
      refine lv_iconst (v := 1) hx hb dL_mergeKeeping_17 rfl ?_
      refine x_wid (c2 := 1) (s2 := 6) (Nat.le_of_ble_eq_true rfl) (Nat.le_of_ble_eq_true rfl) ?_
      exact r_iret2 hC hI hf dL_mergeKeeping_18
    have hf := gf hf c0
    rcases Decidable.em (q = 2) with c1 | c1
    · have hf := gt hf c1
      have hcl : s.vm.findClass "java/lang/IllegalArgumentException" = some ce.cls := by rw [c1] at hcl; exact hcl
      refine vx_catch (own := "LetterRepositoryLaw") (name := "java/lang/IllegalArgumentException") (E := "java/lang/IllegalArgumentException") hC.2.2.2.1 [(⟨0, 12, 15, 13⟩ : ExceptionTableEntry)] (⟨0, 12, 19, 15⟩ : ExceptionTableEntry) [(⟨0, 12, 23, 25⟩ : ExceptionTableEntry)] (hTab.trans rfl) (fun z hz => by
      rcases List.mem_cons.mp hz with rfl | hz
      · exact .inr ⟨by decide, "java/lang/IndexOutOfBoundsException", hC.2.2.2.2.1 _ tw_2_213, nc_of hS hC (List.mem_cons_of_mem _ List.mem_cons_self) List.mem_cons_self (by decide)⟩
      exact absurd hz List.not_mem_nil) (by decide) (by decide) (hC.2.2.2.2.1 _ tw_2_214) (ot_before hC (.inr tw_3_76) (fun _ => rfl)) hcell hcv hcl ?_
      refine lv_astore (lv' := [(5, .ref q9), (0, .ref (ad 248)), (1, .int a1), (2, .int a2), (3, .int a3), (4, .ref (ad 265))]) hx hb dL_mergeKeeping_19 hl (Nat.lt_of_lt_of_eq (by decide) rfl) rfl (fun ls hl => ?_)
      refine lv_iconst (v := 2) hx hb dL_mergeKeeping_21 rfl ?_
      refine x_wid (c2 := 1) (s2 := 6) (Nat.le_of_ble_eq_true rfl) (Nat.le_of_ble_eq_true rfl) ?_
      exact r_iret2 hC hI hf dL_mergeKeeping_22
    have hf := gf hf c1
    rcases Decidable.em (q = 4) with c2 | c2
    · have hf := gt hf c2
      have hcl : s.vm.findClass "java/lang/IllegalStateException" = some ce.cls := by rw [c2] at hcl; exact hcl
      refine vx_catch (own := "LetterRepositoryLaw") (name := "java/lang/IllegalStateException") (E := "java/lang/IllegalStateException") hC.2.2.2.1 [(⟨0, 12, 15, 13⟩ : ExceptionTableEntry), (⟨0, 12, 19, 15⟩ : ExceptionTableEntry)] (⟨0, 12, 23, 25⟩ : ExceptionTableEntry) [] (hTab.trans rfl) (fun z hz => by
      rcases List.mem_cons.mp hz with rfl | hz
      · exact .inr ⟨by decide, "java/lang/IndexOutOfBoundsException", hC.2.2.2.2.1 _ tw_2_213, nc_of hS hC (List.mem_cons_of_mem _ (List.mem_cons_of_mem _ (List.mem_cons_of_mem _ List.mem_cons_self))) List.mem_cons_self (by decide)⟩
      rcases List.mem_cons.mp hz with rfl | hz
      · exact .inr ⟨by decide, "java/lang/IllegalArgumentException", hC.2.2.2.2.1 _ tw_2_214, nc_of hS hC (List.mem_cons_of_mem _ (List.mem_cons_of_mem _ (List.mem_cons_of_mem _ List.mem_cons_self))) (List.mem_cons_of_mem _ List.mem_cons_self) (by decide)⟩
      exact absurd hz List.not_mem_nil) (by decide) (by decide) (hC.2.2.2.2.1 _ tw_3_173) (ot_before hC (.inr tw_3_112) (fun _ => rfl)) hcell hcv hcl ?_
      refine lv_astore (lv' := [(5, .ref q9), (0, .ref (ad 248)), (1, .int a1), (2, .int a2), (3, .int a3), (4, .ref (ad 265))]) hx hb dL_mergeKeeping_23 hl (Nat.lt_of_lt_of_eq (by decide) rfl) rfl (fun ls hl => ?_)
      refine lv_iconst (v := 3) hx hb dL_mergeKeeping_25 rfl ?_
      refine x_wid (c2 := 1) (s2 := 6) (Nat.le_of_ble_eq_true rfl) (Nat.le_of_ble_eq_true rfl) ?_
      exact r_iret2 hC hI hf dL_mergeKeeping_26
    have hf := gf hf c2
    cases hf
  · have hf := (if_pos hq).symm.trans hf
    refine lv_i2l (v := rr.toInt64) hx hb dL_mergeKeeping_10 rfl ?_
    obtain ⟨V2, e2, hf⟩ := gl hf
    refine r_last (x := rr) hC hI e2 dL_mergeKeeping_11 (fun H locs hI => ?_)
    refine lv_goto (tgt := 27) hx hb dL_mergeKeeping_12 (by decide) ?_
    refine lv_iconst (v := 0) hx hb dL_mergeKeeping_27 rfl ?_
    refine x_wid (c2 := 1) (s2 := 6) (Nat.le_of_ble_eq_true rfl) (Nat.le_of_ble_eq_true rfl) ?_
    exact r_iret2 hC hI hf dL_mergeKeeping_28
theorem kl_L_mergeKeeping {p : Program} {l : Launch} {e : Env} {R : Room} {cells slots : Nat} {s : State} {m : MethodId} {args : Array Value} {below : List Frame} {meth : Method} {c : Code} {H : Heap} {locs : List Loc} {Q : State → Prop} {E : En} {ad : Nat → Nat} {V : Mem} {ow : String} {b : ByteArray} {n : Nat} {ret : Option FieldType} {pc index : Nat} {ls : Array Slot} {rest : List Value} {a1 : Int32} {a2 : Int32} {a3 : Int32} {r : Int32} {V1 : Mem} (hS : SF E) (hT : l.stackTraces = false) (hC : Cx p s m args c meth E ow b n ret) (hI : In E ad V s H locs) (hsz : ls.size = n) (hf : f_L_mergeKeeping V a1 a2 a3 = some (r, V1)) (hl : Cond.methodLink ow index yL_mergeKeeping ∈ TB) (hR : 8 + 1 ≤ R.frames ∧ 8 + (6 + 11) + 40 * 8 ≤ R.locals) (hcs : cells + 1 ≤ R.cells ∧ slots + 6 ≤ R.slots) (hw : (rest.map fun v => v.category).sum ≤ 8) (hdg : decode b pc = .ok (.invokestatic index, 3)) (kk : ∀ (H1 : Heap) (locs1 : List Loc), In E ad V1 s H1 locs1 → W p l e R s m args below meth c H1 locs1 (cells + 1) (slots + 6) Q (F0 m (pc + 3) ls (.int r :: rest))) : W p l e R s m args below meth c H locs cells slots Q (F0 m pc ls (.ref (ad 265) :: .int a3 :: .int a2 :: .int a1 :: .ref (ad 248) :: rest)) :=
  after_callA hI (runSW_tb (As := [.ref (ad 248), .int a1, .int a2, .int a3, .ref (ad 265)]) (rest := rest) hC hI hsz (m_L_mergeKeeping l hT E ad V a1 a2 a3 hS r V1 hf) cv_L_mergeKeeping hl rfl rfl hR hcs hw hdg) kk

theorem dL_pick_0 : decode cL_pick 0 = .ok (.aload_n 3, 1) := by decide +kernel
theorem dL_pick_1 : decode cL_pick 1 = .ok (.iconst 0, 1) := by decide +kernel
theorem dL_pick_2 : decode cL_pick 2 = .ok (.aload_n 0, 1) := by decide +kernel
theorem dL_pick_3 : decode cL_pick 3 = .ok (.iload_n 1, 1) := by decide +kernel
theorem dL_pick_4 : decode cL_pick 4 = .ok (.iload_n 2, 1) := by decide +kernel
theorem dL_pick_5 : decode cL_pick 5 = .ok (.invokevirtual 42, 3) := by decide +kernel
theorem dL_pick_8 : decode cL_pick 8 = .ok (.i2l, 1) := by decide +kernel
theorem dL_pick_9 : decode cL_pick 9 = .ok (.lastore, 1) := by decide +kernel
theorem dL_pick_10 : decode cL_pick 10 = .ok (.goto 15, 3) := by decide +kernel
theorem dL_pick_13 : decode cL_pick 13 = .ok (.astore 4, 2) := by decide +kernel
theorem dL_pick_15 : decode cL_pick 15 = .ok (.iconst 1, 1) := by decide +kernel
theorem dL_pick_16 : decode cL_pick 16 = .ok (.ireturn, 1) := by decide +kernel
theorem dL_pick_17 : decode cL_pick 17 = .ok (.astore 4, 2) := by decide +kernel
theorem dL_pick_19 : decode cL_pick 19 = .ok (.iconst 2, 1) := by decide +kernel
theorem dL_pick_20 : decode cL_pick 20 = .ok (.ireturn, 1) := by decide +kernel
theorem dL_pick_21 : decode cL_pick 21 = .ok (.astore 4, 2) := by decide +kernel
theorem dL_pick_23 : decode cL_pick 23 = .ok (.iconst 3, 1) := by decide +kernel
theorem dL_pick_24 : decode cL_pick 24 = .ok (.ireturn, 1) := by decide +kernel
theorem dL_pick_25 : decode cL_pick 25 = .ok (.iconst 0, 1) := by decide +kernel
theorem dL_pick_26 : decode cL_pick 26 = .ok (.ireturn, 1) := by decide +kernel
def f_L_pick (V : Mem) (a1 : Int32) (a2 : Int32) : Option (Int32 × Mem) :=
  bh (f_X9_pick V a1 a2) (fun q V => if q = 1 then some (1, V) else if q = 3 then some (2, V) else if q = 4 then some (3, V) else none) fun r V1 =>
  lt (stv V1 265 0 r) fun V2 => some (0, V2)
theorem cv_L_pick : (yL_pick.cls ≠ "java/lang/invoke/MethodHandle" ∧ yL_pick.cls ≠ "java/lang/invoke/VarHandle") ∧ Cond.initialized yL_pick.cls ∈ TB ∧ Cond.codeWith yL_pick cL_pick 5 (some .int) [(0, 10, 13, 13), (0, 10, 17, 30), (0, 10, 21, 25)] ∈ TB ∧ (parseMethodDescriptor yL_pick.desc).map (fun d => d.parameters.length) = some 4 ∧ Cond.static yL_pick ∈ TB := ⟨⟨by decide +kernel, by decide +kernel⟩, tw_1_0, tw_4_49, by decide +kernel, tw_4_48⟩
set_option maxRecDepth 100000 in
set_option maxHeartbeats 4000000 in
theorem m_L_pick (l : Launch) (hT : l.stackTraces = false) (E : En) (ad : Nat → Nat) (V : Mem) (a1 : Int32) (a2 : Int32) (hS : SF E) (r : Int32) (Vz : Mem) (hf : f_L_pick V a1 a2 = some (r, Vz)) : MW l E ad yL_pick cL_pick 5 (some .int) [(0, 10, 13, 13), (0, 10, 17, 30), (0, 10, 21, 25)] 8 1 6 [.ref (ad 248), .int a1, .int a2, .ref (ad 265)] V (some (.int r)) Vz := by
  refine entH (E := E) (ad := ad) (V := V) "LetterRepositoryLaw" (by decide +kernel) rfl (Nat.le_of_ble_eq_true rfl) ?_
  intro p e s m below meth c ls hC hTab hI hl
  have hx := hC.1
  have hb := hC.2.1
  have hl : lv_has ls 5 [(0, .ref (ad 248)), (1, .int a1), (2, .int a2), (3, .ref (ad 265))] := hl
  unfold f_L_pick at hf
  obtain ⟨q, rr, V1, e1, hf⟩ := gbh hf
  refine lv_aload_n hx hb dL_pick_0 rfl (lv_at hl 3 rfl) ?_
  refine lv_iconst (v := 0) hx hb dL_pick_1 rfl ?_
  refine lv_aload_n hx hb dL_pick_2 rfl (lv_at hl 0 rfl) ?_
  refine lv_iload_n hx hb dL_pick_3 rfl (lv_at hl 1 rfl) ?_
  refine lv_iload_n hx hb dL_pick_4 rfl (lv_at hl 2 rfl) ?_
  refine after_callH hI (xrunV_tb (As := [.int a1, .int a2]) (rest := [.int 0, .ref (ad 265)]) hC hI hl.1 (m_X9_pick l hT E ad V a1 a2 hS q rr V1 e1) cv_X9_pick tw_4_50 (by decide) (ce_248 _) rfl rfl rfl ⟨Nat.le_of_ble_eq_true rfl, Nat.le_of_ble_eq_true rfl⟩ ⟨Nat.le_of_ble_eq_true rfl, Nat.le_of_ble_eq_true rfl⟩ (Nat.le_of_ble_eq_true rfl) dL_pick_5) (fun hq H locs q9 ce hI hcell hcv hcl => ?_) (fun hq H locs hI => ?_)
  · have hf := (if_neg hq).symm.trans hf
    rcases Decidable.em (q = 1) with c0 | c0
    · have hf := gt hf c0
      have hcl : s.vm.findClass "java/lang/IndexOutOfBoundsException" = some ce.cls := by rw [c0] at hcl; exact hcl
      refine vx_catch (own := "LetterRepositoryLaw") (name := "java/lang/IndexOutOfBoundsException") (E := "java/lang/IndexOutOfBoundsException") hC.2.2.2.1 [] (⟨0, 10, 13, 13⟩ : ExceptionTableEntry) [(⟨0, 10, 17, 30⟩ : ExceptionTableEntry), (⟨0, 10, 21, 25⟩ : ExceptionTableEntry)] (hTab.trans rfl) (fun _ h => nomatch h) (by decide) (by decide) (hC.2.2.2.2.1 _ tw_2_213) (ot_before hC (.inr tw_3_5) (fun _ => rfl)) hcell hcv hcl ?_
      refine lv_astore (lv' := [(4, .ref q9), (0, .ref (ad 248)), (1, .int a1), (2, .int a2), (3, .ref (ad 265))]) hx hb dL_pick_13 hl (Nat.lt_of_lt_of_eq (by decide) rfl) rfl (fun ls hl => ?_)
      refine lv_iconst (v := 1) hx hb dL_pick_15 rfl ?_
      refine x_wid (c2 := 1) (s2 := 6) (Nat.le_of_ble_eq_true rfl) (Nat.le_of_ble_eq_true rfl) ?_
      exact r_iret2 hC hI hf dL_pick_16
    have hf := gf hf c0
    rcases Decidable.em (q = 3) with c1 | c1
    · have hf := gt hf c1
      have hcl : s.vm.findClass "java/util/NoSuchElementException" = some ce.cls := by rw [c1] at hcl; exact hcl
      refine vx_catch (own := "LetterRepositoryLaw") (name := "java/util/NoSuchElementException") (E := "java/util/NoSuchElementException") hC.2.2.2.1 [(⟨0, 10, 13, 13⟩ : ExceptionTableEntry)] (⟨0, 10, 17, 30⟩ : ExceptionTableEntry) [(⟨0, 10, 21, 25⟩ : ExceptionTableEntry)] (hTab.trans rfl) (fun z hz => by
      rcases List.mem_cons.mp hz with rfl | hz
      · exact .inr ⟨by decide, "java/lang/IndexOutOfBoundsException", hC.2.2.2.2.1 _ tw_2_213, nc_of hS hC (List.mem_cons_of_mem _ (List.mem_cons_of_mem _ List.mem_cons_self)) List.mem_cons_self (by decide)⟩
      exact absurd hz List.not_mem_nil) (by decide) (by decide) (hC.2.2.2.2.1 _ tw_3_209) (ot_before hC (.inr tw_3_94) (fun _ => rfl)) hcell hcv hcl ?_
      refine lv_astore (lv' := [(4, .ref q9), (0, .ref (ad 248)), (1, .int a1), (2, .int a2), (3, .ref (ad 265))]) hx hb dL_pick_17 hl (Nat.lt_of_lt_of_eq (by decide) rfl) rfl (fun ls hl => ?_)
      refine lv_iconst (v := 2) hx hb dL_pick_19 rfl ?_
      refine x_wid (c2 := 1) (s2 := 6) (Nat.le_of_ble_eq_true rfl) (Nat.le_of_ble_eq_true rfl) ?_
      exact r_iret2 hC hI hf dL_pick_20
    have hf := gf hf c1
    rcases Decidable.em (q = 4) with c2 | c2
    · have hf := gt hf c2
      have hcl : s.vm.findClass "java/lang/IllegalStateException" = some ce.cls := by rw [c2] at hcl; exact hcl
      refine vx_catch (own := "LetterRepositoryLaw") (name := "java/lang/IllegalStateException") (E := "java/lang/IllegalStateException") hC.2.2.2.1 [(⟨0, 10, 13, 13⟩ : ExceptionTableEntry), (⟨0, 10, 17, 30⟩ : ExceptionTableEntry)] (⟨0, 10, 21, 25⟩ : ExceptionTableEntry) [] (hTab.trans rfl) (fun z hz => by
      rcases List.mem_cons.mp hz with rfl | hz
      · exact .inr ⟨by decide, "java/lang/IndexOutOfBoundsException", hC.2.2.2.2.1 _ tw_2_213, nc_of hS hC (List.mem_cons_of_mem _ (List.mem_cons_of_mem _ (List.mem_cons_of_mem _ List.mem_cons_self))) List.mem_cons_self (by decide)⟩
      rcases List.mem_cons.mp hz with rfl | hz
      · exact .inr ⟨by decide, "java/util/NoSuchElementException", hC.2.2.2.2.1 _ tw_3_209, nc_of hS hC (List.mem_cons_of_mem _ (List.mem_cons_of_mem _ (List.mem_cons_of_mem _ List.mem_cons_self))) (List.mem_cons_of_mem _ (List.mem_cons_of_mem _ List.mem_cons_self)) (by decide)⟩
      exact absurd hz List.not_mem_nil) (by decide) (by decide) (hC.2.2.2.2.1 _ tw_3_173) (ot_before hC (.inr tw_3_112) (fun _ => rfl)) hcell hcv hcl ?_
      refine lv_astore (lv' := [(4, .ref q9), (0, .ref (ad 248)), (1, .int a1), (2, .int a2), (3, .ref (ad 265))]) hx hb dL_pick_21 hl (Nat.lt_of_lt_of_eq (by decide) rfl) rfl (fun ls hl => ?_)
      refine lv_iconst (v := 3) hx hb dL_pick_23 rfl ?_
      refine x_wid (c2 := 1) (s2 := 6) (Nat.le_of_ble_eq_true rfl) (Nat.le_of_ble_eq_true rfl) ?_
      exact r_iret2 hC hI hf dL_pick_24
    have hf := gf hf c2
    cases hf
  · have hf := (if_pos hq).symm.trans hf
    refine lv_i2l (v := rr.toInt64) hx hb dL_pick_8 rfl ?_
    obtain ⟨V2, e2, hf⟩ := gl hf
    refine r_last (x := rr) hC hI e2 dL_pick_9 (fun H locs hI => ?_)
    refine lv_goto (tgt := 25) hx hb dL_pick_10 (by decide) ?_
    refine lv_iconst (v := 0) hx hb dL_pick_25 rfl ?_
    refine x_wid (c2 := 1) (s2 := 6) (Nat.le_of_ble_eq_true rfl) (Nat.le_of_ble_eq_true rfl) ?_
    exact r_iret2 hC hI hf dL_pick_26
theorem kl_L_pick {p : Program} {l : Launch} {e : Env} {R : Room} {cells slots : Nat} {s : State} {m : MethodId} {args : Array Value} {below : List Frame} {meth : Method} {c : Code} {H : Heap} {locs : List Loc} {Q : State → Prop} {E : En} {ad : Nat → Nat} {V : Mem} {ow : String} {b : ByteArray} {n : Nat} {ret : Option FieldType} {pc index : Nat} {ls : Array Slot} {rest : List Value} {a1 : Int32} {a2 : Int32} {r : Int32} {V1 : Mem} (hS : SF E) (hT : l.stackTraces = false) (hC : Cx p s m args c meth E ow b n ret) (hI : In E ad V s H locs) (hsz : ls.size = n) (hf : f_L_pick V a1 a2 = some (r, V1)) (hl : Cond.methodLink ow index yL_pick ∈ TB) (hR : 8 + 1 ≤ R.frames ∧ 8 + (5 + 11) + 40 * 8 ≤ R.locals) (hcs : cells + 1 ≤ R.cells ∧ slots + 6 ≤ R.slots) (hw : (rest.map fun v => v.category).sum ≤ 8) (hdg : decode b pc = .ok (.invokestatic index, 3)) (kk : ∀ (H1 : Heap) (locs1 : List Loc), In E ad V1 s H1 locs1 → W p l e R s m args below meth c H1 locs1 (cells + 1) (slots + 6) Q (F0 m (pc + 3) ls (.int r :: rest))) : W p l e R s m args below meth c H locs cells slots Q (F0 m pc ls (.ref (ad 265) :: .int a2 :: .int a1 :: .ref (ad 248) :: rest)) :=
  after_callA hI (runSW_tb (As := [.ref (ad 248), .int a1, .int a2, .ref (ad 265)]) (rest := rest) hC hI hsz (m_L_pick l hT E ad V a1 a2 hS r V1 hf) cv_L_pick hl rfl rfl hR hcs hw hdg) kk

theorem dL_reset_0 : decode cL_reset 0 = .ok (.aload_n 3, 1) := by decide +kernel
theorem dL_reset_1 : decode cL_reset 1 = .ok (.iconst 0, 1) := by decide +kernel
theorem dL_reset_2 : decode cL_reset 2 = .ok (.aload_n 0, 1) := by decide +kernel
theorem dL_reset_3 : decode cL_reset 3 = .ok (.iload_n 1, 1) := by decide +kernel
theorem dL_reset_4 : decode cL_reset 4 = .ok (.iload_n 2, 1) := by decide +kernel
theorem dL_reset_5 : decode cL_reset 5 = .ok (.invokevirtual 45, 3) := by decide +kernel
theorem dL_reset_8 : decode cL_reset 8 = .ok (.i2l, 1) := by decide +kernel
theorem dL_reset_9 : decode cL_reset 9 = .ok (.lastore, 1) := by decide +kernel
theorem dL_reset_10 : decode cL_reset 10 = .ok (.goto 15, 3) := by decide +kernel
theorem dL_reset_13 : decode cL_reset 13 = .ok (.astore 4, 2) := by decide +kernel
theorem dL_reset_15 : decode cL_reset 15 = .ok (.iconst 1, 1) := by decide +kernel
theorem dL_reset_16 : decode cL_reset 16 = .ok (.ireturn, 1) := by decide +kernel
theorem dL_reset_17 : decode cL_reset 17 = .ok (.astore 4, 2) := by decide +kernel
theorem dL_reset_19 : decode cL_reset 19 = .ok (.iconst 2, 1) := by decide +kernel
theorem dL_reset_20 : decode cL_reset 20 = .ok (.ireturn, 1) := by decide +kernel
theorem dL_reset_21 : decode cL_reset 21 = .ok (.astore 4, 2) := by decide +kernel
theorem dL_reset_23 : decode cL_reset 23 = .ok (.iconst 3, 1) := by decide +kernel
theorem dL_reset_24 : decode cL_reset 24 = .ok (.ireturn, 1) := by decide +kernel
theorem dL_reset_25 : decode cL_reset 25 = .ok (.iconst 0, 1) := by decide +kernel
theorem dL_reset_26 : decode cL_reset 26 = .ok (.ireturn, 1) := by decide +kernel
def f_L_reset (V : Mem) (a1 : Int32) (a2 : Int32) : Option (Int32 × Mem) :=
  bh (f_X9_reset V a1 a2) (fun q V => if q = 1 then some (1, V) else if q = 3 then some (2, V) else if q = 4 then some (3, V) else none) fun r V1 =>
  lt (stv V1 265 0 r) fun V2 => some (0, V2)
theorem cv_L_reset : (yL_reset.cls ≠ "java/lang/invoke/MethodHandle" ∧ yL_reset.cls ≠ "java/lang/invoke/VarHandle") ∧ Cond.initialized yL_reset.cls ∈ TB ∧ Cond.codeWith yL_reset cL_reset 5 (some .int) [(0, 10, 13, 13), (0, 10, 17, 30), (0, 10, 21, 25)] ∈ TB ∧ (parseMethodDescriptor yL_reset.desc).map (fun d => d.parameters.length) = some 4 ∧ Cond.static yL_reset ∈ TB := ⟨⟨by decide +kernel, by decide +kernel⟩, tw_1_0, tw_4_73, by decide +kernel, tw_4_72⟩
set_option maxRecDepth 100000 in
set_option maxHeartbeats 4000000 in
theorem m_L_reset (l : Launch) (hT : l.stackTraces = false) (E : En) (ad : Nat → Nat) (V : Mem) (a1 : Int32) (a2 : Int32) (hS : SF E) (r : Int32) (Vz : Mem) (hf : f_L_reset V a1 a2 = some (r, Vz)) : MW l E ad yL_reset cL_reset 5 (some .int) [(0, 10, 13, 13), (0, 10, 17, 30), (0, 10, 21, 25)] 8 1 6 [.ref (ad 248), .int a1, .int a2, .ref (ad 265)] V (some (.int r)) Vz := by
  refine entH (E := E) (ad := ad) (V := V) "LetterRepositoryLaw" (by decide +kernel) rfl (Nat.le_of_ble_eq_true rfl) ?_
  intro p e s m below meth c ls hC hTab hI hl
  have hx := hC.1
  have hb := hC.2.1
  have hl : lv_has ls 5 [(0, .ref (ad 248)), (1, .int a1), (2, .int a2), (3, .ref (ad 265))] := hl
  unfold f_L_reset at hf
  obtain ⟨q, rr, V1, e1, hf⟩ := gbh hf
  refine lv_aload_n hx hb dL_reset_0 rfl (lv_at hl 3 rfl) ?_
  refine lv_iconst (v := 0) hx hb dL_reset_1 rfl ?_
  refine lv_aload_n hx hb dL_reset_2 rfl (lv_at hl 0 rfl) ?_
  refine lv_iload_n hx hb dL_reset_3 rfl (lv_at hl 1 rfl) ?_
  refine lv_iload_n hx hb dL_reset_4 rfl (lv_at hl 2 rfl) ?_
  refine after_callH hI (xrunV_tb (As := [.int a1, .int a2]) (rest := [.int 0, .ref (ad 265)]) hC hI hl.1 (m_X9_reset l hT E ad V a1 a2 hS q rr V1 e1) cv_X9_reset tw_4_74 (by decide) (ce_248 _) rfl rfl rfl ⟨Nat.le_of_ble_eq_true rfl, Nat.le_of_ble_eq_true rfl⟩ ⟨Nat.le_of_ble_eq_true rfl, Nat.le_of_ble_eq_true rfl⟩ (Nat.le_of_ble_eq_true rfl) dL_reset_5) (fun hq H locs q9 ce hI hcell hcv hcl => ?_) (fun hq H locs hI => ?_)
  · have hf := (if_neg hq).symm.trans hf
    rcases Decidable.em (q = 1) with c0 | c0
    · have hf := gt hf c0
      have hcl : s.vm.findClass "java/lang/IndexOutOfBoundsException" = some ce.cls := by rw [c0] at hcl; exact hcl
      refine vx_catch (own := "LetterRepositoryLaw") (name := "java/lang/IndexOutOfBoundsException") (E := "java/lang/IndexOutOfBoundsException") hC.2.2.2.1 [] (⟨0, 10, 13, 13⟩ : ExceptionTableEntry) [(⟨0, 10, 17, 30⟩ : ExceptionTableEntry), (⟨0, 10, 21, 25⟩ : ExceptionTableEntry)] (hTab.trans rfl) (fun _ h => nomatch h) (by decide) (by decide) (hC.2.2.2.2.1 _ tw_2_213) (ot_before hC (.inr tw_3_5) (fun _ => rfl)) hcell hcv hcl ?_
      refine lv_astore (lv' := [(4, .ref q9), (0, .ref (ad 248)), (1, .int a1), (2, .int a2), (3, .ref (ad 265))]) hx hb dL_reset_13 hl (Nat.lt_of_lt_of_eq (by decide) rfl) rfl (fun ls hl => ?_)
      refine lv_iconst (v := 1) hx hb dL_reset_15 rfl ?_
      refine x_wid (c2 := 1) (s2 := 6) (Nat.le_of_ble_eq_true rfl) (Nat.le_of_ble_eq_true rfl) ?_
      exact r_iret2 hC hI hf dL_reset_16
    have hf := gf hf c0
    rcases Decidable.em (q = 3) with c1 | c1
    · have hf := gt hf c1
      have hcl : s.vm.findClass "java/util/NoSuchElementException" = some ce.cls := by rw [c1] at hcl; exact hcl
      refine vx_catch (own := "LetterRepositoryLaw") (name := "java/util/NoSuchElementException") (E := "java/util/NoSuchElementException") hC.2.2.2.1 [(⟨0, 10, 13, 13⟩ : ExceptionTableEntry)] (⟨0, 10, 17, 30⟩ : ExceptionTableEntry) [(⟨0, 10, 21, 25⟩ : ExceptionTableEntry)] (hTab.trans rfl) (fun z hz => by
      rcases List.mem_cons.mp hz with rfl | hz
      · exact .inr ⟨by decide, "java/lang/IndexOutOfBoundsException", hC.2.2.2.2.1 _ tw_2_213, nc_of hS hC (List.mem_cons_of_mem _ (List.mem_cons_of_mem _ List.mem_cons_self)) List.mem_cons_self (by decide)⟩
      exact absurd hz List.not_mem_nil) (by decide) (by decide) (hC.2.2.2.2.1 _ tw_3_209) (ot_before hC (.inr tw_3_94) (fun _ => rfl)) hcell hcv hcl ?_
      refine lv_astore (lv' := [(4, .ref q9), (0, .ref (ad 248)), (1, .int a1), (2, .int a2), (3, .ref (ad 265))]) hx hb dL_reset_17 hl (Nat.lt_of_lt_of_eq (by decide) rfl) rfl (fun ls hl => ?_)
      refine lv_iconst (v := 2) hx hb dL_reset_19 rfl ?_
      refine x_wid (c2 := 1) (s2 := 6) (Nat.le_of_ble_eq_true rfl) (Nat.le_of_ble_eq_true rfl) ?_
      exact r_iret2 hC hI hf dL_reset_20
    have hf := gf hf c1
    rcases Decidable.em (q = 4) with c2 | c2
    · have hf := gt hf c2
      have hcl : s.vm.findClass "java/lang/IllegalStateException" = some ce.cls := by rw [c2] at hcl; exact hcl
      refine vx_catch (own := "LetterRepositoryLaw") (name := "java/lang/IllegalStateException") (E := "java/lang/IllegalStateException") hC.2.2.2.1 [(⟨0, 10, 13, 13⟩ : ExceptionTableEntry), (⟨0, 10, 17, 30⟩ : ExceptionTableEntry)] (⟨0, 10, 21, 25⟩ : ExceptionTableEntry) [] (hTab.trans rfl) (fun z hz => by
      rcases List.mem_cons.mp hz with rfl | hz
      · exact .inr ⟨by decide, "java/lang/IndexOutOfBoundsException", hC.2.2.2.2.1 _ tw_2_213, nc_of hS hC (List.mem_cons_of_mem _ (List.mem_cons_of_mem _ (List.mem_cons_of_mem _ List.mem_cons_self))) List.mem_cons_self (by decide)⟩
      rcases List.mem_cons.mp hz with rfl | hz
      · exact .inr ⟨by decide, "java/util/NoSuchElementException", hC.2.2.2.2.1 _ tw_3_209, nc_of hS hC (List.mem_cons_of_mem _ (List.mem_cons_of_mem _ (List.mem_cons_of_mem _ List.mem_cons_self))) (List.mem_cons_of_mem _ (List.mem_cons_of_mem _ List.mem_cons_self)) (by decide)⟩
      exact absurd hz List.not_mem_nil) (by decide) (by decide) (hC.2.2.2.2.1 _ tw_3_173) (ot_before hC (.inr tw_3_112) (fun _ => rfl)) hcell hcv hcl ?_
      refine lv_astore (lv' := [(4, .ref q9), (0, .ref (ad 248)), (1, .int a1), (2, .int a2), (3, .ref (ad 265))]) hx hb dL_reset_21 hl (Nat.lt_of_lt_of_eq (by decide) rfl) rfl (fun ls hl => ?_)
      refine lv_iconst (v := 3) hx hb dL_reset_23 rfl ?_
      refine x_wid (c2 := 1) (s2 := 6) (Nat.le_of_ble_eq_true rfl) (Nat.le_of_ble_eq_true rfl) ?_
      exact r_iret2 hC hI hf dL_reset_24
    have hf := gf hf c2
    cases hf
  · have hf := (if_pos hq).symm.trans hf
    refine lv_i2l (v := rr.toInt64) hx hb dL_reset_8 rfl ?_
    obtain ⟨V2, e2, hf⟩ := gl hf
    refine r_last (x := rr) hC hI e2 dL_reset_9 (fun H locs hI => ?_)
    refine lv_goto (tgt := 25) hx hb dL_reset_10 (by decide) ?_
    refine lv_iconst (v := 0) hx hb dL_reset_25 rfl ?_
    refine x_wid (c2 := 1) (s2 := 6) (Nat.le_of_ble_eq_true rfl) (Nat.le_of_ble_eq_true rfl) ?_
    exact r_iret2 hC hI hf dL_reset_26
theorem kl_L_reset {p : Program} {l : Launch} {e : Env} {R : Room} {cells slots : Nat} {s : State} {m : MethodId} {args : Array Value} {below : List Frame} {meth : Method} {c : Code} {H : Heap} {locs : List Loc} {Q : State → Prop} {E : En} {ad : Nat → Nat} {V : Mem} {ow : String} {b : ByteArray} {n : Nat} {ret : Option FieldType} {pc index : Nat} {ls : Array Slot} {rest : List Value} {a1 : Int32} {a2 : Int32} {r : Int32} {V1 : Mem} (hS : SF E) (hT : l.stackTraces = false) (hC : Cx p s m args c meth E ow b n ret) (hI : In E ad V s H locs) (hsz : ls.size = n) (hf : f_L_reset V a1 a2 = some (r, V1)) (hl : Cond.methodLink ow index yL_reset ∈ TB) (hR : 8 + 1 ≤ R.frames ∧ 8 + (5 + 11) + 40 * 8 ≤ R.locals) (hcs : cells + 1 ≤ R.cells ∧ slots + 6 ≤ R.slots) (hw : (rest.map fun v => v.category).sum ≤ 8) (hdg : decode b pc = .ok (.invokestatic index, 3)) (kk : ∀ (H1 : Heap) (locs1 : List Loc), In E ad V1 s H1 locs1 → W p l e R s m args below meth c H1 locs1 (cells + 1) (slots + 6) Q (F0 m (pc + 3) ls (.int r :: rest))) : W p l e R s m args below meth c H locs cells slots Q (F0 m pc ls (.ref (ad 265) :: .int a2 :: .int a1 :: .ref (ad 248) :: rest)) :=
  after_callA hI (runSW_tb (As := [.ref (ad 248), .int a1, .int a2, .ref (ad 265)]) (rest := rest) hC hI hsz (m_L_reset l hT E ad V a1 a2 hS r V1 hf) cv_L_reset hl rfl rfl hR hcs hw hdg) kk

theorem dL_addTag_0 : decode cL_addTag 0 = .ok (.aload_n 3, 1) := by decide +kernel
theorem dL_addTag_1 : decode cL_addTag 1 = .ok (.iconst 0, 1) := by decide +kernel
theorem dL_addTag_2 : decode cL_addTag 2 = .ok (.aload_n 0, 1) := by decide +kernel
theorem dL_addTag_3 : decode cL_addTag 3 = .ok (.iload_n 1, 1) := by decide +kernel
theorem dL_addTag_4 : decode cL_addTag 4 = .ok (.iload_n 2, 1) := by decide +kernel
theorem dL_addTag_5 : decode cL_addTag 5 = .ok (.invokevirtual 48, 3) := by decide +kernel
theorem dL_addTag_8 : decode cL_addTag 8 = .ok (.i2l, 1) := by decide +kernel
theorem dL_addTag_9 : decode cL_addTag 9 = .ok (.lastore, 1) := by decide +kernel
theorem dL_addTag_10 : decode cL_addTag 10 = .ok (.goto 15, 3) := by decide +kernel
theorem dL_addTag_13 : decode cL_addTag 13 = .ok (.astore 4, 2) := by decide +kernel
theorem dL_addTag_15 : decode cL_addTag 15 = .ok (.iconst 1, 1) := by decide +kernel
theorem dL_addTag_16 : decode cL_addTag 16 = .ok (.ireturn, 1) := by decide +kernel
theorem dL_addTag_17 : decode cL_addTag 17 = .ok (.astore 4, 2) := by decide +kernel
theorem dL_addTag_19 : decode cL_addTag 19 = .ok (.iconst 2, 1) := by decide +kernel
theorem dL_addTag_20 : decode cL_addTag 20 = .ok (.ireturn, 1) := by decide +kernel
theorem dL_addTag_21 : decode cL_addTag 21 = .ok (.astore 4, 2) := by decide +kernel
theorem dL_addTag_23 : decode cL_addTag 23 = .ok (.iconst 3, 1) := by decide +kernel
theorem dL_addTag_24 : decode cL_addTag 24 = .ok (.ireturn, 1) := by decide +kernel
theorem dL_addTag_25 : decode cL_addTag 25 = .ok (.iconst 0, 1) := by decide +kernel
theorem dL_addTag_26 : decode cL_addTag 26 = .ok (.ireturn, 1) := by decide +kernel
def f_L_addTag (V : Mem) (a1 : Int32) (a2 : Int32) : Option (Int32 × Mem) :=
  bh (f_X9_addTag V a1 a2) (fun q V => if q = 2 then some (1, V) else if q = 3 then some (2, V) else if q = 4 then some (3, V) else none) fun r V1 =>
  lt (stv V1 265 0 r) fun V2 => some (0, V2)
theorem cv_L_addTag : (yL_addTag.cls ≠ "java/lang/invoke/MethodHandle" ∧ yL_addTag.cls ≠ "java/lang/invoke/VarHandle") ∧ Cond.initialized yL_addTag.cls ∈ TB ∧ Cond.codeWith yL_addTag cL_addTag 5 (some .int) [(0, 10, 13, 15), (0, 10, 17, 30), (0, 10, 21, 25)] ∈ TB ∧ (parseMethodDescriptor yL_addTag.desc).map (fun d => d.parameters.length) = some 4 ∧ Cond.static yL_addTag ∈ TB := ⟨⟨by decide +kernel, by decide +kernel⟩, tw_1_0, tw_4_88, by decide +kernel, tw_4_87⟩
set_option maxRecDepth 100000 in
set_option maxHeartbeats 4000000 in
theorem m_L_addTag (l : Launch) (hT : l.stackTraces = false) (E : En) (ad : Nat → Nat) (V : Mem) (a1 : Int32) (a2 : Int32) (hS : SF E) (r : Int32) (Vz : Mem) (hf : f_L_addTag V a1 a2 = some (r, Vz)) : MW l E ad yL_addTag cL_addTag 5 (some .int) [(0, 10, 13, 15), (0, 10, 17, 30), (0, 10, 21, 25)] 8 1 6 [.ref (ad 248), .int a1, .int a2, .ref (ad 265)] V (some (.int r)) Vz := by
  refine entH (E := E) (ad := ad) (V := V) "LetterRepositoryLaw" (by decide +kernel) rfl (Nat.le_of_ble_eq_true rfl) ?_
  intro p e s m below meth c ls hC hTab hI hl
  have hx := hC.1
  have hb := hC.2.1
  have hl : lv_has ls 5 [(0, .ref (ad 248)), (1, .int a1), (2, .int a2), (3, .ref (ad 265))] := hl
  unfold f_L_addTag at hf
  obtain ⟨q, rr, V1, e1, hf⟩ := gbh hf
  refine lv_aload_n hx hb dL_addTag_0 rfl (lv_at hl 3 rfl) ?_
  refine lv_iconst (v := 0) hx hb dL_addTag_1 rfl ?_
  refine lv_aload_n hx hb dL_addTag_2 rfl (lv_at hl 0 rfl) ?_
  refine lv_iload_n hx hb dL_addTag_3 rfl (lv_at hl 1 rfl) ?_
  refine lv_iload_n hx hb dL_addTag_4 rfl (lv_at hl 2 rfl) ?_
  refine after_callH hI (xrunV_tb (As := [.int a1, .int a2]) (rest := [.int 0, .ref (ad 265)]) hC hI hl.1 (m_X9_addTag l hT E ad V a1 a2 hS q rr V1 e1) cv_X9_addTag tw_4_89 (by decide) (ce_248 _) rfl rfl rfl ⟨Nat.le_of_ble_eq_true rfl, Nat.le_of_ble_eq_true rfl⟩ ⟨Nat.le_of_ble_eq_true rfl, Nat.le_of_ble_eq_true rfl⟩ (Nat.le_of_ble_eq_true rfl) dL_addTag_5) (fun hq H locs q9 ce hI hcell hcv hcl => ?_) (fun hq H locs hI => ?_)
  · have hf := (if_neg hq).symm.trans hf
    rcases Decidable.em (q = 2) with c0 | c0
    · have hf := gt hf c0
      have hcl : s.vm.findClass "java/lang/IllegalArgumentException" = some ce.cls := by rw [c0] at hcl; exact hcl
      refine vx_catch (own := "LetterRepositoryLaw") (name := "java/lang/IllegalArgumentException") (E := "java/lang/IllegalArgumentException") hC.2.2.2.1 [] (⟨0, 10, 13, 15⟩ : ExceptionTableEntry) [(⟨0, 10, 17, 30⟩ : ExceptionTableEntry), (⟨0, 10, 21, 25⟩ : ExceptionTableEntry)] (hTab.trans rfl) (fun _ h => nomatch h) (by decide) (by decide) (hC.2.2.2.2.1 _ tw_2_214) (ot_before hC (.inr tw_3_76) (fun _ => rfl)) hcell hcv hcl ?_
      refine lv_astore (lv' := [(4, .ref q9), (0, .ref (ad 248)), (1, .int a1), (2, .int a2), (3, .ref (ad 265))]) hx hb dL_addTag_13 hl (Nat.lt_of_lt_of_eq (by decide) rfl) rfl (fun ls hl => ?_)
      refine lv_iconst (v := 1) hx hb dL_addTag_15 rfl ?_
      refine x_wid (c2 := 1) (s2 := 6) (Nat.le_of_ble_eq_true rfl) (Nat.le_of_ble_eq_true rfl) ?_
      exact r_iret2 hC hI hf dL_addTag_16
    have hf := gf hf c0
    rcases Decidable.em (q = 3) with c1 | c1
    · have hf := gt hf c1
      have hcl : s.vm.findClass "java/util/NoSuchElementException" = some ce.cls := by rw [c1] at hcl; exact hcl
      refine vx_catch (own := "LetterRepositoryLaw") (name := "java/util/NoSuchElementException") (E := "java/util/NoSuchElementException") hC.2.2.2.1 [(⟨0, 10, 13, 15⟩ : ExceptionTableEntry)] (⟨0, 10, 17, 30⟩ : ExceptionTableEntry) [(⟨0, 10, 21, 25⟩ : ExceptionTableEntry)] (hTab.trans rfl) (fun z hz => by
      rcases List.mem_cons.mp hz with rfl | hz
      · exact .inr ⟨by decide, "java/lang/IllegalArgumentException", hC.2.2.2.2.1 _ tw_2_214, nc_of hS hC (List.mem_cons_of_mem _ (List.mem_cons_of_mem _ List.mem_cons_self)) (List.mem_cons_of_mem _ List.mem_cons_self) (by decide)⟩
      exact absurd hz List.not_mem_nil) (by decide) (by decide) (hC.2.2.2.2.1 _ tw_3_209) (ot_before hC (.inr tw_3_94) (fun _ => rfl)) hcell hcv hcl ?_
      refine lv_astore (lv' := [(4, .ref q9), (0, .ref (ad 248)), (1, .int a1), (2, .int a2), (3, .ref (ad 265))]) hx hb dL_addTag_17 hl (Nat.lt_of_lt_of_eq (by decide) rfl) rfl (fun ls hl => ?_)
      refine lv_iconst (v := 2) hx hb dL_addTag_19 rfl ?_
      refine x_wid (c2 := 1) (s2 := 6) (Nat.le_of_ble_eq_true rfl) (Nat.le_of_ble_eq_true rfl) ?_
      exact r_iret2 hC hI hf dL_addTag_20
    have hf := gf hf c1
    rcases Decidable.em (q = 4) with c2 | c2
    · have hf := gt hf c2
      have hcl : s.vm.findClass "java/lang/IllegalStateException" = some ce.cls := by rw [c2] at hcl; exact hcl
      refine vx_catch (own := "LetterRepositoryLaw") (name := "java/lang/IllegalStateException") (E := "java/lang/IllegalStateException") hC.2.2.2.1 [(⟨0, 10, 13, 15⟩ : ExceptionTableEntry), (⟨0, 10, 17, 30⟩ : ExceptionTableEntry)] (⟨0, 10, 21, 25⟩ : ExceptionTableEntry) [] (hTab.trans rfl) (fun z hz => by
      rcases List.mem_cons.mp hz with rfl | hz
      · exact .inr ⟨by decide, "java/lang/IllegalArgumentException", hC.2.2.2.2.1 _ tw_2_214, nc_of hS hC (List.mem_cons_of_mem _ (List.mem_cons_of_mem _ (List.mem_cons_of_mem _ List.mem_cons_self))) (List.mem_cons_of_mem _ List.mem_cons_self) (by decide)⟩
      rcases List.mem_cons.mp hz with rfl | hz
      · exact .inr ⟨by decide, "java/util/NoSuchElementException", hC.2.2.2.2.1 _ tw_3_209, nc_of hS hC (List.mem_cons_of_mem _ (List.mem_cons_of_mem _ (List.mem_cons_of_mem _ List.mem_cons_self))) (List.mem_cons_of_mem _ (List.mem_cons_of_mem _ List.mem_cons_self)) (by decide)⟩
      exact absurd hz List.not_mem_nil) (by decide) (by decide) (hC.2.2.2.2.1 _ tw_3_173) (ot_before hC (.inr tw_3_112) (fun _ => rfl)) hcell hcv hcl ?_
      refine lv_astore (lv' := [(4, .ref q9), (0, .ref (ad 248)), (1, .int a1), (2, .int a2), (3, .ref (ad 265))]) hx hb dL_addTag_21 hl (Nat.lt_of_lt_of_eq (by decide) rfl) rfl (fun ls hl => ?_)
      refine lv_iconst (v := 3) hx hb dL_addTag_23 rfl ?_
      refine x_wid (c2 := 1) (s2 := 6) (Nat.le_of_ble_eq_true rfl) (Nat.le_of_ble_eq_true rfl) ?_
      exact r_iret2 hC hI hf dL_addTag_24
    have hf := gf hf c2
    cases hf
  · have hf := (if_pos hq).symm.trans hf
    refine lv_i2l (v := rr.toInt64) hx hb dL_addTag_8 rfl ?_
    obtain ⟨V2, e2, hf⟩ := gl hf
    refine r_last (x := rr) hC hI e2 dL_addTag_9 (fun H locs hI => ?_)
    refine lv_goto (tgt := 25) hx hb dL_addTag_10 (by decide) ?_
    refine lv_iconst (v := 0) hx hb dL_addTag_25 rfl ?_
    refine x_wid (c2 := 1) (s2 := 6) (Nat.le_of_ble_eq_true rfl) (Nat.le_of_ble_eq_true rfl) ?_
    exact r_iret2 hC hI hf dL_addTag_26
theorem kl_L_addTag {p : Program} {l : Launch} {e : Env} {R : Room} {cells slots : Nat} {s : State} {m : MethodId} {args : Array Value} {below : List Frame} {meth : Method} {c : Code} {H : Heap} {locs : List Loc} {Q : State → Prop} {E : En} {ad : Nat → Nat} {V : Mem} {ow : String} {b : ByteArray} {n : Nat} {ret : Option FieldType} {pc index : Nat} {ls : Array Slot} {rest : List Value} {a1 : Int32} {a2 : Int32} {r : Int32} {V1 : Mem} (hS : SF E) (hT : l.stackTraces = false) (hC : Cx p s m args c meth E ow b n ret) (hI : In E ad V s H locs) (hsz : ls.size = n) (hf : f_L_addTag V a1 a2 = some (r, V1)) (hl : Cond.methodLink ow index yL_addTag ∈ TB) (hR : 8 + 1 ≤ R.frames ∧ 8 + (5 + 11) + 40 * 8 ≤ R.locals) (hcs : cells + 1 ≤ R.cells ∧ slots + 6 ≤ R.slots) (hw : (rest.map fun v => v.category).sum ≤ 8) (hdg : decode b pc = .ok (.invokestatic index, 3)) (kk : ∀ (H1 : Heap) (locs1 : List Loc), In E ad V1 s H1 locs1 → W p l e R s m args below meth c H1 locs1 (cells + 1) (slots + 6) Q (F0 m (pc + 3) ls (.int r :: rest))) : W p l e R s m args below meth c H locs cells slots Q (F0 m pc ls (.ref (ad 265) :: .int a2 :: .int a1 :: .ref (ad 248) :: rest)) :=
  after_callA hI (runSW_tb (As := [.ref (ad 248), .int a1, .int a2, .ref (ad 265)]) (rest := rest) hC hI hsz (m_L_addTag l hT E ad V a1 a2 hS r V1 hf) cv_L_addTag hl rfl rfl hR hcs hw hdg) kk

theorem dL_removeTag_0 : decode cL_removeTag 0 = .ok (.aload_n 2, 1) := by decide +kernel
theorem dL_removeTag_1 : decode cL_removeTag 1 = .ok (.iconst 0, 1) := by decide +kernel
theorem dL_removeTag_2 : decode cL_removeTag 2 = .ok (.aload_n 0, 1) := by decide +kernel
theorem dL_removeTag_3 : decode cL_removeTag 3 = .ok (.iload_n 1, 1) := by decide +kernel
theorem dL_removeTag_4 : decode cL_removeTag 4 = .ok (.invokevirtual 52, 3) := by decide +kernel
theorem dL_removeTag_7 : decode cL_removeTag 7 = .ok (.i2l, 1) := by decide +kernel
theorem dL_removeTag_8 : decode cL_removeTag 8 = .ok (.lastore, 1) := by decide +kernel
theorem dL_removeTag_9 : decode cL_removeTag 9 = .ok (.goto 6, 3) := by decide +kernel
theorem dL_removeTag_12 : decode cL_removeTag 12 = .ok (.astore_n 3, 1) := by decide +kernel
theorem dL_removeTag_13 : decode cL_removeTag 13 = .ok (.iconst 1, 1) := by decide +kernel
theorem dL_removeTag_14 : decode cL_removeTag 14 = .ok (.ireturn, 1) := by decide +kernel
theorem dL_removeTag_15 : decode cL_removeTag 15 = .ok (.iconst 0, 1) := by decide +kernel
theorem dL_removeTag_16 : decode cL_removeTag 16 = .ok (.ireturn, 1) := by decide +kernel
def f_L_removeTag (V : Mem) (a1 : Int32) : Option (Int32 × Mem) :=
  bh (f_X9_removeTag V a1) (fun q V => if q = 3 then some (1, V) else none) fun r V1 =>
  lt (stv V1 265 0 r) fun V2 => some (0, V2)
theorem cv_L_removeTag : (yL_removeTag.cls ≠ "java/lang/invoke/MethodHandle" ∧ yL_removeTag.cls ≠ "java/lang/invoke/VarHandle") ∧ Cond.initialized yL_removeTag.cls ∈ TB ∧ Cond.codeWith yL_removeTag cL_removeTag 4 (some .int) [(0, 9, 12, 30)] ∈ TB ∧ (parseMethodDescriptor yL_removeTag.desc).map (fun d => d.parameters.length) = some 3 ∧ Cond.static yL_removeTag ∈ TB := ⟨⟨by decide +kernel, by decide +kernel⟩, tw_1_0, tw_4_107, by decide +kernel, tw_4_106⟩
set_option maxRecDepth 100000 in
set_option maxHeartbeats 4000000 in
theorem m_L_removeTag (l : Launch) (hT : l.stackTraces = false) (E : En) (ad : Nat → Nat) (V : Mem) (a1 : Int32) (hS : SF E) (r : Int32) (Vz : Mem) (hf : f_L_removeTag V a1 = some (r, Vz)) : MW l E ad yL_removeTag cL_removeTag 4 (some .int) [(0, 9, 12, 30)] 8 1 6 [.ref (ad 248), .int a1, .ref (ad 265)] V (some (.int r)) Vz := by
  refine entH (E := E) (ad := ad) (V := V) "LetterRepositoryLaw" (by decide +kernel) rfl (Nat.le_of_ble_eq_true rfl) ?_
  intro p e s m below meth c ls hC hTab hI hl
  have hx := hC.1
  have hb := hC.2.1
  have hl : lv_has ls 4 [(0, .ref (ad 248)), (1, .int a1), (2, .ref (ad 265))] := hl
  unfold f_L_removeTag at hf
  obtain ⟨q, rr, V1, e1, hf⟩ := gbh hf
  refine lv_aload_n hx hb dL_removeTag_0 rfl (lv_at hl 2 rfl) ?_
  refine lv_iconst (v := 0) hx hb dL_removeTag_1 rfl ?_
  refine lv_aload_n hx hb dL_removeTag_2 rfl (lv_at hl 0 rfl) ?_
  refine lv_iload_n hx hb dL_removeTag_3 rfl (lv_at hl 1 rfl) ?_
  refine after_callH hI (xrunV_tb (As := [.int a1]) (rest := [.int 0, .ref (ad 265)]) hC hI hl.1 (m_X9_removeTag l hT E ad V a1 hS q rr V1 e1) cv_X9_removeTag tw_4_108 (by decide) (ce_248 _) rfl rfl rfl ⟨Nat.le_of_ble_eq_true rfl, Nat.le_of_ble_eq_true rfl⟩ ⟨Nat.le_of_ble_eq_true rfl, Nat.le_of_ble_eq_true rfl⟩ (Nat.le_of_ble_eq_true rfl) dL_removeTag_4) (fun hq H locs q9 ce hI hcell hcv hcl => ?_) (fun hq H locs hI => ?_)
  · have hf := (if_neg hq).symm.trans hf
    rcases Decidable.em (q = 3) with c0 | c0
    · have hf := gt hf c0
      have hcl : s.vm.findClass "java/util/NoSuchElementException" = some ce.cls := by rw [c0] at hcl; exact hcl
      refine vx_catch (own := "LetterRepositoryLaw") (name := "java/util/NoSuchElementException") (E := "java/util/NoSuchElementException") hC.2.2.2.1 [] (⟨0, 9, 12, 30⟩ : ExceptionTableEntry) [] (hTab.trans rfl) (fun _ h => nomatch h) (by decide) (by decide) (hC.2.2.2.2.1 _ tw_3_209) (ot_before hC (.inr tw_3_94) (fun _ => rfl)) hcell hcv hcl ?_
      refine lv_astore_n (lv' := [(3, .ref q9), (0, .ref (ad 248)), (1, .int a1), (2, .ref (ad 265))]) hx hb dL_removeTag_12 rfl hl (Nat.lt_of_lt_of_eq (by decide) rfl) rfl (fun ls hl => ?_)
      refine lv_iconst (v := 1) hx hb dL_removeTag_13 rfl ?_
      refine x_wid (c2 := 1) (s2 := 6) (Nat.le_of_ble_eq_true rfl) (Nat.le_of_ble_eq_true rfl) ?_
      exact r_iret2 hC hI hf dL_removeTag_14
    have hf := gf hf c0
    cases hf
  · have hf := (if_pos hq).symm.trans hf
    refine lv_i2l (v := rr.toInt64) hx hb dL_removeTag_7 rfl ?_
    obtain ⟨V2, e2, hf⟩ := gl hf
    refine r_last (x := rr) hC hI e2 dL_removeTag_8 (fun H locs hI => ?_)
    refine lv_goto (tgt := 15) hx hb dL_removeTag_9 (by decide) ?_
    refine lv_iconst (v := 0) hx hb dL_removeTag_15 rfl ?_
    refine x_wid (c2 := 1) (s2 := 6) (Nat.le_of_ble_eq_true rfl) (Nat.le_of_ble_eq_true rfl) ?_
    exact r_iret2 hC hI hf dL_removeTag_16
theorem kl_L_removeTag {p : Program} {l : Launch} {e : Env} {R : Room} {cells slots : Nat} {s : State} {m : MethodId} {args : Array Value} {below : List Frame} {meth : Method} {c : Code} {H : Heap} {locs : List Loc} {Q : State → Prop} {E : En} {ad : Nat → Nat} {V : Mem} {ow : String} {b : ByteArray} {n : Nat} {ret : Option FieldType} {pc index : Nat} {ls : Array Slot} {rest : List Value} {a1 : Int32} {r : Int32} {V1 : Mem} (hS : SF E) (hT : l.stackTraces = false) (hC : Cx p s m args c meth E ow b n ret) (hI : In E ad V s H locs) (hsz : ls.size = n) (hf : f_L_removeTag V a1 = some (r, V1)) (hl : Cond.methodLink ow index yL_removeTag ∈ TB) (hR : 8 + 1 ≤ R.frames ∧ 8 + (4 + 11) + 40 * 8 ≤ R.locals) (hcs : cells + 1 ≤ R.cells ∧ slots + 6 ≤ R.slots) (hw : (rest.map fun v => v.category).sum ≤ 8) (hdg : decode b pc = .ok (.invokestatic index, 3)) (kk : ∀ (H1 : Heap) (locs1 : List Loc), In E ad V1 s H1 locs1 → W p l e R s m args below meth c H1 locs1 (cells + 1) (slots + 6) Q (F0 m (pc + 3) ls (.int r :: rest))) : W p l e R s m args below meth c H locs cells slots Q (F0 m pc ls (.ref (ad 265) :: .int a1 :: .ref (ad 248) :: rest)) :=
  after_callA hI (runSW_tb (As := [.ref (ad 248), .int a1, .ref (ad 265)]) (rest := rest) hC hI hsz (m_L_removeTag l hT E ad V a1 hS r V1 hf) cv_L_removeTag hl rfl rfl hR hcs hw hdg) kk

theorem dL_isArchived_0 : decode cL_isArchived 0 = .ok (.aload_n 2, 1) := by decide +kernel
theorem dL_isArchived_1 : decode cL_isArchived 1 = .ok (.iconst 0, 1) := by decide +kernel
theorem dL_isArchived_2 : decode cL_isArchived 2 = .ok (.aload_n 0, 1) := by decide +kernel
theorem dL_isArchived_3 : decode cL_isArchived 3 = .ok (.iload_n 1, 1) := by decide +kernel
theorem dL_isArchived_4 : decode cL_isArchived 4 = .ok (.invokevirtual 56, 3) := by decide +kernel
theorem dL_isArchived_7 : decode cL_isArchived 7 = .ok (.ifCond .eq 7, 3) := by decide +kernel
theorem dL_isArchived_10 : decode cL_isArchived 10 = .ok (.lconst 1, 1) := by decide +kernel
theorem dL_isArchived_11 : decode cL_isArchived 11 = .ok (.goto 4, 3) := by decide +kernel
theorem dL_isArchived_14 : decode cL_isArchived 14 = .ok (.lconst 0, 1) := by decide +kernel
theorem dL_isArchived_15 : decode cL_isArchived 15 = .ok (.lastore, 1) := by decide +kernel
theorem dL_isArchived_16 : decode cL_isArchived 16 = .ok (.goto 6, 3) := by decide +kernel
theorem dL_isArchived_19 : decode cL_isArchived 19 = .ok (.astore_n 3, 1) := by decide +kernel
theorem dL_isArchived_20 : decode cL_isArchived 20 = .ok (.iconst 1, 1) := by decide +kernel
theorem dL_isArchived_21 : decode cL_isArchived 21 = .ok (.ireturn, 1) := by decide +kernel
theorem dL_isArchived_22 : decode cL_isArchived 22 = .ok (.iconst 0, 1) := by decide +kernel
theorem dL_isArchived_23 : decode cL_isArchived 23 = .ok (.ireturn, 1) := by decide +kernel
def f_L_isArchived (V : Mem) (a1 : Int32) : Option (Int32 × Mem) :=
  bh (f_X9_isArchived V a1) (fun q V => if q = 3 then some (1, V) else none) fun r V1 =>
  if r = 0 then lt (stv V1 265 0 0) fun V2 => some (0, V2) else lt (stv V1 265 0 1) fun V2 => some (0, V2)
theorem cv_L_isArchived : (yL_isArchived.cls ≠ "java/lang/invoke/MethodHandle" ∧ yL_isArchived.cls ≠ "java/lang/invoke/VarHandle") ∧ Cond.initialized yL_isArchived.cls ∈ TB ∧ Cond.codeWith yL_isArchived cL_isArchived 4 (some .int) [(0, 16, 19, 30)] ∈ TB ∧ (parseMethodDescriptor yL_isArchived.desc).map (fun d => d.parameters.length) = some 3 ∧ Cond.static yL_isArchived ∈ TB := ⟨⟨by decide +kernel, by decide +kernel⟩, tw_1_0, tw_4_122, by decide +kernel, tw_4_121⟩
set_option maxRecDepth 100000 in
set_option maxHeartbeats 4000000 in
theorem m_L_isArchived (l : Launch) (hT : l.stackTraces = false) (E : En) (ad : Nat → Nat) (V : Mem) (a1 : Int32) (hS : SF E) (r : Int32) (Vz : Mem) (hf : f_L_isArchived V a1 = some (r, Vz)) : MW l E ad yL_isArchived cL_isArchived 4 (some .int) [(0, 16, 19, 30)] 8 1 6 [.ref (ad 248), .int a1, .ref (ad 265)] V (some (.int r)) Vz := by
  refine entH (E := E) (ad := ad) (V := V) "LetterRepositoryLaw" (by decide +kernel) rfl (Nat.le_of_ble_eq_true rfl) ?_
  intro p e s m below meth c ls hC hTab hI hl
  have hx := hC.1
  have hb := hC.2.1
  have hl : lv_has ls 4 [(0, .ref (ad 248)), (1, .int a1), (2, .ref (ad 265))] := hl
  unfold f_L_isArchived at hf
  obtain ⟨q, rr, V1, e1, hf⟩ := gbh hf
  refine lv_aload_n hx hb dL_isArchived_0 rfl (lv_at hl 2 rfl) ?_
  refine lv_iconst (v := 0) hx hb dL_isArchived_1 rfl ?_
  refine lv_aload_n hx hb dL_isArchived_2 rfl (lv_at hl 0 rfl) ?_
  refine lv_iload_n hx hb dL_isArchived_3 rfl (lv_at hl 1 rfl) ?_
  refine after_callH hI (xrunV_tb (As := [.int a1]) (rest := [.int 0, .ref (ad 265)]) hC hI hl.1 (m_X9_isArchived l hT E ad V a1 hS q rr V1 e1) cv_X9_isArchived tw_4_123 (by decide) (ce_248 _) rfl rfl rfl ⟨Nat.le_of_ble_eq_true rfl, Nat.le_of_ble_eq_true rfl⟩ ⟨Nat.le_of_ble_eq_true rfl, Nat.le_of_ble_eq_true rfl⟩ (Nat.le_of_ble_eq_true rfl) dL_isArchived_4) (fun hq H locs q9 ce hI hcell hcv hcl => ?_) (fun hq H locs hI => ?_)
  · have hf := (if_neg hq).symm.trans hf
    rcases Decidable.em (q = 3) with c0 | c0
    · have hf := gt hf c0
      have hcl : s.vm.findClass "java/util/NoSuchElementException" = some ce.cls := by rw [c0] at hcl; exact hcl
      refine vx_catch (own := "LetterRepositoryLaw") (name := "java/util/NoSuchElementException") (E := "java/util/NoSuchElementException") hC.2.2.2.1 [] (⟨0, 16, 19, 30⟩ : ExceptionTableEntry) [] (hTab.trans rfl) (fun _ h => nomatch h) (by decide) (by decide) (hC.2.2.2.2.1 _ tw_3_209) (ot_before hC (.inr tw_3_94) (fun _ => rfl)) hcell hcv hcl ?_
      refine lv_astore_n (lv' := [(3, .ref q9), (0, .ref (ad 248)), (1, .int a1), (2, .ref (ad 265))]) hx hb dL_isArchived_19 rfl hl (Nat.lt_of_lt_of_eq (by decide) rfl) rfl (fun ls hl => ?_)
      refine lv_iconst (v := 1) hx hb dL_isArchived_20 rfl ?_
      refine x_wid (c2 := 1) (s2 := 6) (Nat.le_of_ble_eq_true rfl) (Nat.le_of_ble_eq_true rfl) ?_
      exact r_iret2 hC hI hf dL_isArchived_21
    have hf := gf hf c0
    cases hf
  · have hf := (if_pos hq).symm.trans hf
    refine lv_if_eq (tgt := 14) hx hb dL_isArchived_7 (by decide) (fun c9 => ?_) (fun c9 => ?_)
    · have hf := (if_pos c9).symm.trans hf
      obtain ⟨V2, e2, hf⟩ := gl hf
      refine lv_lconst (v := (0 : Int32).toInt64) hx hb dL_isArchived_14 rfl ?_
      refine r_last (x := 0) hC hI e2 dL_isArchived_15 (fun H locs hI => ?_)
      refine lv_goto (tgt := 22) hx hb dL_isArchived_16 (by decide) ?_
      refine lv_iconst (v := 0) hx hb dL_isArchived_22 rfl ?_
      refine x_wid (c2 := 1) (s2 := 6) (Nat.le_of_ble_eq_true rfl) (Nat.le_of_ble_eq_true rfl) ?_
      exact r_iret2 hC hI hf dL_isArchived_23
    · have hf := (if_neg c9).symm.trans hf
      obtain ⟨V2, e2, hf⟩ := gl hf
      refine lv_lconst (v := (1 : Int32).toInt64) hx hb dL_isArchived_10 rfl ?_
      refine lv_goto (tgt := 15) hx hb dL_isArchived_11 (by decide) ?_
      refine r_last (x := 1) hC hI e2 dL_isArchived_15 (fun H locs hI => ?_)
      refine lv_goto (tgt := 22) hx hb dL_isArchived_16 (by decide) ?_
      refine lv_iconst (v := 0) hx hb dL_isArchived_22 rfl ?_
      refine x_wid (c2 := 1) (s2 := 6) (Nat.le_of_ble_eq_true rfl) (Nat.le_of_ble_eq_true rfl) ?_
      exact r_iret2 hC hI hf dL_isArchived_23
theorem kl_L_isArchived {p : Program} {l : Launch} {e : Env} {R : Room} {cells slots : Nat} {s : State} {m : MethodId} {args : Array Value} {below : List Frame} {meth : Method} {c : Code} {H : Heap} {locs : List Loc} {Q : State → Prop} {E : En} {ad : Nat → Nat} {V : Mem} {ow : String} {b : ByteArray} {n : Nat} {ret : Option FieldType} {pc index : Nat} {ls : Array Slot} {rest : List Value} {a1 : Int32} {r : Int32} {V1 : Mem} (hS : SF E) (hT : l.stackTraces = false) (hC : Cx p s m args c meth E ow b n ret) (hI : In E ad V s H locs) (hsz : ls.size = n) (hf : f_L_isArchived V a1 = some (r, V1)) (hl : Cond.methodLink ow index yL_isArchived ∈ TB) (hR : 8 + 1 ≤ R.frames ∧ 8 + (4 + 11) + 40 * 8 ≤ R.locals) (hcs : cells + 1 ≤ R.cells ∧ slots + 6 ≤ R.slots) (hw : (rest.map fun v => v.category).sum ≤ 8) (hdg : decode b pc = .ok (.invokestatic index, 3)) (kk : ∀ (H1 : Heap) (locs1 : List Loc), In E ad V1 s H1 locs1 → W p l e R s m args below meth c H1 locs1 (cells + 1) (slots + 6) Q (F0 m (pc + 3) ls (.int r :: rest))) : W p l e R s m args below meth c H locs cells slots Q (F0 m pc ls (.ref (ad 265) :: .int a1 :: .ref (ad 248) :: rest)) :=
  after_callA hI (runSW_tb (As := [.ref (ad 248), .int a1, .ref (ad 265)]) (rest := rest) hC hI hsz (m_L_isArchived l hT E ad V a1 hS r V1 hf) cv_L_isArchived hl rfl rfl hR hcs hw hdg) kk

theorem dL_firstParent_0 : decode cL_firstParent 0 = .ok (.aload_n 2, 1) := by decide +kernel
theorem dL_firstParent_1 : decode cL_firstParent 1 = .ok (.iconst 0, 1) := by decide +kernel
theorem dL_firstParent_2 : decode cL_firstParent 2 = .ok (.aload_n 0, 1) := by decide +kernel
theorem dL_firstParent_3 : decode cL_firstParent 3 = .ok (.iload_n 1, 1) := by decide +kernel
theorem dL_firstParent_4 : decode cL_firstParent 4 = .ok (.invokevirtual 60, 3) := by decide +kernel
theorem dL_firstParent_7 : decode cL_firstParent 7 = .ok (.i2l, 1) := by decide +kernel
theorem dL_firstParent_8 : decode cL_firstParent 8 = .ok (.lastore, 1) := by decide +kernel
theorem dL_firstParent_9 : decode cL_firstParent 9 = .ok (.goto 6, 3) := by decide +kernel
theorem dL_firstParent_12 : decode cL_firstParent 12 = .ok (.astore_n 3, 1) := by decide +kernel
theorem dL_firstParent_13 : decode cL_firstParent 13 = .ok (.iconst 1, 1) := by decide +kernel
theorem dL_firstParent_14 : decode cL_firstParent 14 = .ok (.ireturn, 1) := by decide +kernel
theorem dL_firstParent_15 : decode cL_firstParent 15 = .ok (.iconst 0, 1) := by decide +kernel
theorem dL_firstParent_16 : decode cL_firstParent 16 = .ok (.ireturn, 1) := by decide +kernel
def f_L_firstParent (V : Mem) (a1 : Int32) : Option (Int32 × Mem) :=
  bh (f_X9_firstParent V a1) (fun q V => if q = 3 then some (1, V) else none) fun r V1 =>
  lt (stv V1 265 0 r) fun V2 => some (0, V2)
theorem cv_L_firstParent : (yL_firstParent.cls ≠ "java/lang/invoke/MethodHandle" ∧ yL_firstParent.cls ≠ "java/lang/invoke/VarHandle") ∧ Cond.initialized yL_firstParent.cls ∈ TB ∧ Cond.codeWith yL_firstParent cL_firstParent 4 (some .int) [(0, 9, 12, 30)] ∈ TB ∧ (parseMethodDescriptor yL_firstParent.desc).map (fun d => d.parameters.length) = some 3 ∧ Cond.static yL_firstParent ∈ TB := ⟨⟨by decide +kernel, by decide +kernel⟩, tw_1_0, tw_4_136, by decide +kernel, tw_4_135⟩
set_option maxRecDepth 100000 in
set_option maxHeartbeats 4000000 in
theorem m_L_firstParent (l : Launch) (hT : l.stackTraces = false) (E : En) (ad : Nat → Nat) (V : Mem) (a1 : Int32) (hS : SF E) (r : Int32) (Vz : Mem) (hf : f_L_firstParent V a1 = some (r, Vz)) : MW l E ad yL_firstParent cL_firstParent 4 (some .int) [(0, 9, 12, 30)] 8 2 12 [.ref (ad 248), .int a1, .ref (ad 265)] V (some (.int r)) Vz := by
  refine entH (E := E) (ad := ad) (V := V) "LetterRepositoryLaw" (by decide +kernel) rfl (Nat.le_of_ble_eq_true rfl) ?_
  intro p e s m below meth c ls hC hTab hI hl
  have hx := hC.1
  have hb := hC.2.1
  have hl : lv_has ls 4 [(0, .ref (ad 248)), (1, .int a1), (2, .ref (ad 265))] := hl
  unfold f_L_firstParent at hf
  obtain ⟨q, rr, V1, e1, hf⟩ := gbh hf
  refine lv_aload_n hx hb dL_firstParent_0 rfl (lv_at hl 2 rfl) ?_
  refine lv_iconst (v := 0) hx hb dL_firstParent_1 rfl ?_
  refine lv_aload_n hx hb dL_firstParent_2 rfl (lv_at hl 0 rfl) ?_
  refine lv_iload_n hx hb dL_firstParent_3 rfl (lv_at hl 1 rfl) ?_
  refine after_callH hI (xrunV_tb (As := [.int a1]) (rest := [.int 0, .ref (ad 265)]) hC hI hl.1 (m_X9_firstParent l hT E ad V a1 hS q rr V1 e1) cv_X9_firstParent tw_4_137 (by decide) (ce_248 _) rfl rfl rfl ⟨Nat.le_of_ble_eq_true rfl, Nat.le_of_ble_eq_true rfl⟩ ⟨Nat.le_of_ble_eq_true rfl, Nat.le_of_ble_eq_true rfl⟩ (Nat.le_of_ble_eq_true rfl) dL_firstParent_4) (fun hq H locs q9 ce hI hcell hcv hcl => ?_) (fun hq H locs hI => ?_)
  · have hf := (if_neg hq).symm.trans hf
    rcases Decidable.em (q = 3) with c0 | c0
    · have hf := gt hf c0
      have hcl : s.vm.findClass "java/util/NoSuchElementException" = some ce.cls := by rw [c0] at hcl; exact hcl
      refine vx_catch (own := "LetterRepositoryLaw") (name := "java/util/NoSuchElementException") (E := "java/util/NoSuchElementException") hC.2.2.2.1 [] (⟨0, 9, 12, 30⟩ : ExceptionTableEntry) [] (hTab.trans rfl) (fun _ h => nomatch h) (by decide) (by decide) (hC.2.2.2.2.1 _ tw_3_209) (ot_before hC (.inr tw_3_94) (fun _ => rfl)) hcell hcv hcl ?_
      refine lv_astore_n (lv' := [(3, .ref q9), (0, .ref (ad 248)), (1, .int a1), (2, .ref (ad 265))]) hx hb dL_firstParent_12 rfl hl (Nat.lt_of_lt_of_eq (by decide) rfl) rfl (fun ls hl => ?_)
      refine lv_iconst (v := 1) hx hb dL_firstParent_13 rfl ?_
      refine x_wid (c2 := 2) (s2 := 12) (Nat.le_of_ble_eq_true rfl) (Nat.le_of_ble_eq_true rfl) ?_
      exact r_iret2 hC hI hf dL_firstParent_14
    have hf := gf hf c0
    cases hf
  · have hf := (if_pos hq).symm.trans hf
    refine lv_i2l (v := rr.toInt64) hx hb dL_firstParent_7 rfl ?_
    obtain ⟨V2, e2, hf⟩ := gl hf
    refine r_last (x := rr) hC hI e2 dL_firstParent_8 (fun H locs hI => ?_)
    refine lv_goto (tgt := 15) hx hb dL_firstParent_9 (by decide) ?_
    refine lv_iconst (v := 0) hx hb dL_firstParent_15 rfl ?_
    refine x_wid (c2 := 2) (s2 := 12) (Nat.le_of_ble_eq_true rfl) (Nat.le_of_ble_eq_true rfl) ?_
    exact r_iret2 hC hI hf dL_firstParent_16
theorem kl_L_firstParent {p : Program} {l : Launch} {e : Env} {R : Room} {cells slots : Nat} {s : State} {m : MethodId} {args : Array Value} {below : List Frame} {meth : Method} {c : Code} {H : Heap} {locs : List Loc} {Q : State → Prop} {E : En} {ad : Nat → Nat} {V : Mem} {ow : String} {b : ByteArray} {n : Nat} {ret : Option FieldType} {pc index : Nat} {ls : Array Slot} {rest : List Value} {a1 : Int32} {r : Int32} {V1 : Mem} (hS : SF E) (hT : l.stackTraces = false) (hC : Cx p s m args c meth E ow b n ret) (hI : In E ad V s H locs) (hsz : ls.size = n) (hf : f_L_firstParent V a1 = some (r, V1)) (hl : Cond.methodLink ow index yL_firstParent ∈ TB) (hR : 8 + 1 ≤ R.frames ∧ 8 + (4 + 11) + 40 * 8 ≤ R.locals) (hcs : cells + 2 ≤ R.cells ∧ slots + 12 ≤ R.slots) (hw : (rest.map fun v => v.category).sum ≤ 8) (hdg : decode b pc = .ok (.invokestatic index, 3)) (kk : ∀ (H1 : Heap) (locs1 : List Loc), In E ad V1 s H1 locs1 → W p l e R s m args below meth c H1 locs1 (cells + 2) (slots + 12) Q (F0 m (pc + 3) ls (.int r :: rest))) : W p l e R s m args below meth c H locs cells slots Q (F0 m pc ls (.ref (ad 265) :: .int a1 :: .ref (ad 248) :: rest)) :=
  after_callA hI (runSW_tb (As := [.ref (ad 248), .int a1, .ref (ad 265)]) (rest := rest) hC hI hsz (m_L_firstParent l hT E ad V a1 hS r V1 hf) cv_L_firstParent hl rfl rfl hR hcs hw hdg) kk

theorem dL_secondParent_0 : decode cL_secondParent 0 = .ok (.aload_n 2, 1) := by decide +kernel
theorem dL_secondParent_1 : decode cL_secondParent 1 = .ok (.iconst 0, 1) := by decide +kernel
theorem dL_secondParent_2 : decode cL_secondParent 2 = .ok (.aload_n 0, 1) := by decide +kernel
theorem dL_secondParent_3 : decode cL_secondParent 3 = .ok (.iload_n 1, 1) := by decide +kernel
theorem dL_secondParent_4 : decode cL_secondParent 4 = .ok (.invokevirtual 63, 3) := by decide +kernel
theorem dL_secondParent_7 : decode cL_secondParent 7 = .ok (.i2l, 1) := by decide +kernel
theorem dL_secondParent_8 : decode cL_secondParent 8 = .ok (.lastore, 1) := by decide +kernel
theorem dL_secondParent_9 : decode cL_secondParent 9 = .ok (.goto 6, 3) := by decide +kernel
theorem dL_secondParent_12 : decode cL_secondParent 12 = .ok (.astore_n 3, 1) := by decide +kernel
theorem dL_secondParent_13 : decode cL_secondParent 13 = .ok (.iconst 1, 1) := by decide +kernel
theorem dL_secondParent_14 : decode cL_secondParent 14 = .ok (.ireturn, 1) := by decide +kernel
theorem dL_secondParent_15 : decode cL_secondParent 15 = .ok (.iconst 0, 1) := by decide +kernel
theorem dL_secondParent_16 : decode cL_secondParent 16 = .ok (.ireturn, 1) := by decide +kernel
def f_L_secondParent (V : Mem) (a1 : Int32) : Option (Int32 × Mem) :=
  bh (f_X9_secondParent V a1) (fun q V => if q = 3 then some (1, V) else none) fun r V1 =>
  lt (stv V1 265 0 r) fun V2 => some (0, V2)
theorem cv_L_secondParent : (yL_secondParent.cls ≠ "java/lang/invoke/MethodHandle" ∧ yL_secondParent.cls ≠ "java/lang/invoke/VarHandle") ∧ Cond.initialized yL_secondParent.cls ∈ TB ∧ Cond.codeWith yL_secondParent cL_secondParent 4 (some .int) [(0, 9, 12, 30)] ∈ TB ∧ (parseMethodDescriptor yL_secondParent.desc).map (fun d => d.parameters.length) = some 3 ∧ Cond.static yL_secondParent ∈ TB := ⟨⟨by decide +kernel, by decide +kernel⟩, tw_1_0, tw_4_148, by decide +kernel, tw_4_147⟩
set_option maxRecDepth 100000 in
set_option maxHeartbeats 4000000 in
theorem m_L_secondParent (l : Launch) (hT : l.stackTraces = false) (E : En) (ad : Nat → Nat) (V : Mem) (a1 : Int32) (hS : SF E) (r : Int32) (Vz : Mem) (hf : f_L_secondParent V a1 = some (r, Vz)) : MW l E ad yL_secondParent cL_secondParent 4 (some .int) [(0, 9, 12, 30)] 8 2 12 [.ref (ad 248), .int a1, .ref (ad 265)] V (some (.int r)) Vz := by
  refine entH (E := E) (ad := ad) (V := V) "LetterRepositoryLaw" (by decide +kernel) rfl (Nat.le_of_ble_eq_true rfl) ?_
  intro p e s m below meth c ls hC hTab hI hl
  have hx := hC.1
  have hb := hC.2.1
  have hl : lv_has ls 4 [(0, .ref (ad 248)), (1, .int a1), (2, .ref (ad 265))] := hl
  unfold f_L_secondParent at hf
  obtain ⟨q, rr, V1, e1, hf⟩ := gbh hf
  refine lv_aload_n hx hb dL_secondParent_0 rfl (lv_at hl 2 rfl) ?_
  refine lv_iconst (v := 0) hx hb dL_secondParent_1 rfl ?_
  refine lv_aload_n hx hb dL_secondParent_2 rfl (lv_at hl 0 rfl) ?_
  refine lv_iload_n hx hb dL_secondParent_3 rfl (lv_at hl 1 rfl) ?_
  refine after_callH hI (xrunV_tb (As := [.int a1]) (rest := [.int 0, .ref (ad 265)]) hC hI hl.1 (m_X9_secondParent l hT E ad V a1 hS q rr V1 e1) cv_X9_secondParent tw_4_149 (by decide) (ce_248 _) rfl rfl rfl ⟨Nat.le_of_ble_eq_true rfl, Nat.le_of_ble_eq_true rfl⟩ ⟨Nat.le_of_ble_eq_true rfl, Nat.le_of_ble_eq_true rfl⟩ (Nat.le_of_ble_eq_true rfl) dL_secondParent_4) (fun hq H locs q9 ce hI hcell hcv hcl => ?_) (fun hq H locs hI => ?_)
  · have hf := (if_neg hq).symm.trans hf
    rcases Decidable.em (q = 3) with c0 | c0
    · have hf := gt hf c0
      have hcl : s.vm.findClass "java/util/NoSuchElementException" = some ce.cls := by rw [c0] at hcl; exact hcl
      refine vx_catch (own := "LetterRepositoryLaw") (name := "java/util/NoSuchElementException") (E := "java/util/NoSuchElementException") hC.2.2.2.1 [] (⟨0, 9, 12, 30⟩ : ExceptionTableEntry) [] (hTab.trans rfl) (fun _ h => nomatch h) (by decide) (by decide) (hC.2.2.2.2.1 _ tw_3_209) (ot_before hC (.inr tw_3_94) (fun _ => rfl)) hcell hcv hcl ?_
      refine lv_astore_n (lv' := [(3, .ref q9), (0, .ref (ad 248)), (1, .int a1), (2, .ref (ad 265))]) hx hb dL_secondParent_12 rfl hl (Nat.lt_of_lt_of_eq (by decide) rfl) rfl (fun ls hl => ?_)
      refine lv_iconst (v := 1) hx hb dL_secondParent_13 rfl ?_
      refine x_wid (c2 := 2) (s2 := 12) (Nat.le_of_ble_eq_true rfl) (Nat.le_of_ble_eq_true rfl) ?_
      exact r_iret2 hC hI hf dL_secondParent_14
    have hf := gf hf c0
    cases hf
  · have hf := (if_pos hq).symm.trans hf
    refine lv_i2l (v := rr.toInt64) hx hb dL_secondParent_7 rfl ?_
    obtain ⟨V2, e2, hf⟩ := gl hf
    refine r_last (x := rr) hC hI e2 dL_secondParent_8 (fun H locs hI => ?_)
    refine lv_goto (tgt := 15) hx hb dL_secondParent_9 (by decide) ?_
    refine lv_iconst (v := 0) hx hb dL_secondParent_15 rfl ?_
    refine x_wid (c2 := 2) (s2 := 12) (Nat.le_of_ble_eq_true rfl) (Nat.le_of_ble_eq_true rfl) ?_
    exact r_iret2 hC hI hf dL_secondParent_16
theorem kl_L_secondParent {p : Program} {l : Launch} {e : Env} {R : Room} {cells slots : Nat} {s : State} {m : MethodId} {args : Array Value} {below : List Frame} {meth : Method} {c : Code} {H : Heap} {locs : List Loc} {Q : State → Prop} {E : En} {ad : Nat → Nat} {V : Mem} {ow : String} {b : ByteArray} {n : Nat} {ret : Option FieldType} {pc index : Nat} {ls : Array Slot} {rest : List Value} {a1 : Int32} {r : Int32} {V1 : Mem} (hS : SF E) (hT : l.stackTraces = false) (hC : Cx p s m args c meth E ow b n ret) (hI : In E ad V s H locs) (hsz : ls.size = n) (hf : f_L_secondParent V a1 = some (r, V1)) (hl : Cond.methodLink ow index yL_secondParent ∈ TB) (hR : 8 + 1 ≤ R.frames ∧ 8 + (4 + 11) + 40 * 8 ≤ R.locals) (hcs : cells + 2 ≤ R.cells ∧ slots + 12 ≤ R.slots) (hw : (rest.map fun v => v.category).sum ≤ 8) (hdg : decode b pc = .ok (.invokestatic index, 3)) (kk : ∀ (H1 : Heap) (locs1 : List Loc), In E ad V1 s H1 locs1 → W p l e R s m args below meth c H1 locs1 (cells + 2) (slots + 12) Q (F0 m (pc + 3) ls (.int r :: rest))) : W p l e R s m args below meth c H locs cells slots Q (F0 m pc ls (.ref (ad 265) :: .int a1 :: .ref (ad 248) :: rest)) :=
  after_callA hI (runSW_tb (As := [.ref (ad 248), .int a1, .ref (ad 265)]) (rest := rest) hC hI hsz (m_L_secondParent l hT E ad V a1 hS r V1 hf) cv_L_secondParent hl rfl rfl hR hcs hw hdg) kk

theorem dL_authorOf_0 : decode cL_authorOf 0 = .ok (.aload_n 2, 1) := by decide +kernel
theorem dL_authorOf_1 : decode cL_authorOf 1 = .ok (.iconst 0, 1) := by decide +kernel
theorem dL_authorOf_2 : decode cL_authorOf 2 = .ok (.aload_n 0, 1) := by decide +kernel
theorem dL_authorOf_3 : decode cL_authorOf 3 = .ok (.iload_n 1, 1) := by decide +kernel
theorem dL_authorOf_4 : decode cL_authorOf 4 = .ok (.invokevirtual 66, 3) := by decide +kernel
theorem dL_authorOf_7 : decode cL_authorOf 7 = .ok (.i2l, 1) := by decide +kernel
theorem dL_authorOf_8 : decode cL_authorOf 8 = .ok (.lastore, 1) := by decide +kernel
theorem dL_authorOf_9 : decode cL_authorOf 9 = .ok (.goto 6, 3) := by decide +kernel
theorem dL_authorOf_12 : decode cL_authorOf 12 = .ok (.astore_n 3, 1) := by decide +kernel
theorem dL_authorOf_13 : decode cL_authorOf 13 = .ok (.iconst 1, 1) := by decide +kernel
theorem dL_authorOf_14 : decode cL_authorOf 14 = .ok (.ireturn, 1) := by decide +kernel
theorem dL_authorOf_15 : decode cL_authorOf 15 = .ok (.iconst 0, 1) := by decide +kernel
theorem dL_authorOf_16 : decode cL_authorOf 16 = .ok (.ireturn, 1) := by decide +kernel
def f_L_authorOf (V : Mem) (a1 : Int32) : Option (Int32 × Mem) :=
  bh (f_X9_authorOf V a1) (fun q V => if q = 3 then some (1, V) else none) fun r V1 =>
  lt (stv V1 265 0 r) fun V2 => some (0, V2)
theorem cv_L_authorOf : (yL_authorOf.cls ≠ "java/lang/invoke/MethodHandle" ∧ yL_authorOf.cls ≠ "java/lang/invoke/VarHandle") ∧ Cond.initialized yL_authorOf.cls ∈ TB ∧ Cond.codeWith yL_authorOf cL_authorOf 4 (some .int) [(0, 9, 12, 30)] ∈ TB ∧ (parseMethodDescriptor yL_authorOf.desc).map (fun d => d.parameters.length) = some 3 ∧ Cond.static yL_authorOf ∈ TB := ⟨⟨by decide +kernel, by decide +kernel⟩, tw_1_0, tw_4_156, by decide +kernel, tw_4_155⟩
set_option maxRecDepth 100000 in
set_option maxHeartbeats 4000000 in
theorem m_L_authorOf (l : Launch) (hT : l.stackTraces = false) (E : En) (ad : Nat → Nat) (V : Mem) (a1 : Int32) (hS : SF E) (r : Int32) (Vz : Mem) (hf : f_L_authorOf V a1 = some (r, Vz)) : MW l E ad yL_authorOf cL_authorOf 4 (some .int) [(0, 9, 12, 30)] 8 1 6 [.ref (ad 248), .int a1, .ref (ad 265)] V (some (.int r)) Vz := by
  refine entH (E := E) (ad := ad) (V := V) "LetterRepositoryLaw" (by decide +kernel) rfl (Nat.le_of_ble_eq_true rfl) ?_
  intro p e s m below meth c ls hC hTab hI hl
  have hx := hC.1
  have hb := hC.2.1
  have hl : lv_has ls 4 [(0, .ref (ad 248)), (1, .int a1), (2, .ref (ad 265))] := hl
  unfold f_L_authorOf at hf
  obtain ⟨q, rr, V1, e1, hf⟩ := gbh hf
  refine lv_aload_n hx hb dL_authorOf_0 rfl (lv_at hl 2 rfl) ?_
  refine lv_iconst (v := 0) hx hb dL_authorOf_1 rfl ?_
  refine lv_aload_n hx hb dL_authorOf_2 rfl (lv_at hl 0 rfl) ?_
  refine lv_iload_n hx hb dL_authorOf_3 rfl (lv_at hl 1 rfl) ?_
  refine after_callH hI (xrunV_tb (As := [.int a1]) (rest := [.int 0, .ref (ad 265)]) hC hI hl.1 (m_X9_authorOf l hT E ad V a1 hS q rr V1 e1) cv_X9_authorOf tw_4_157 (by decide) (ce_248 _) rfl rfl rfl ⟨Nat.le_of_ble_eq_true rfl, Nat.le_of_ble_eq_true rfl⟩ ⟨Nat.le_of_ble_eq_true rfl, Nat.le_of_ble_eq_true rfl⟩ (Nat.le_of_ble_eq_true rfl) dL_authorOf_4) (fun hq H locs q9 ce hI hcell hcv hcl => ?_) (fun hq H locs hI => ?_)
  · have hf := (if_neg hq).symm.trans hf
    rcases Decidable.em (q = 3) with c0 | c0
    · have hf := gt hf c0
      have hcl : s.vm.findClass "java/util/NoSuchElementException" = some ce.cls := by rw [c0] at hcl; exact hcl
      refine vx_catch (own := "LetterRepositoryLaw") (name := "java/util/NoSuchElementException") (E := "java/util/NoSuchElementException") hC.2.2.2.1 [] (⟨0, 9, 12, 30⟩ : ExceptionTableEntry) [] (hTab.trans rfl) (fun _ h => nomatch h) (by decide) (by decide) (hC.2.2.2.2.1 _ tw_3_209) (ot_before hC (.inr tw_3_94) (fun _ => rfl)) hcell hcv hcl ?_
      refine lv_astore_n (lv' := [(3, .ref q9), (0, .ref (ad 248)), (1, .int a1), (2, .ref (ad 265))]) hx hb dL_authorOf_12 rfl hl (Nat.lt_of_lt_of_eq (by decide) rfl) rfl (fun ls hl => ?_)
      refine lv_iconst (v := 1) hx hb dL_authorOf_13 rfl ?_
      refine x_wid (c2 := 1) (s2 := 6) (Nat.le_of_ble_eq_true rfl) (Nat.le_of_ble_eq_true rfl) ?_
      exact r_iret2 hC hI hf dL_authorOf_14
    have hf := gf hf c0
    cases hf
  · have hf := (if_pos hq).symm.trans hf
    refine lv_i2l (v := rr.toInt64) hx hb dL_authorOf_7 rfl ?_
    obtain ⟨V2, e2, hf⟩ := gl hf
    refine r_last (x := rr) hC hI e2 dL_authorOf_8 (fun H locs hI => ?_)
    refine lv_goto (tgt := 15) hx hb dL_authorOf_9 (by decide) ?_
    refine lv_iconst (v := 0) hx hb dL_authorOf_15 rfl ?_
    refine x_wid (c2 := 1) (s2 := 6) (Nat.le_of_ble_eq_true rfl) (Nat.le_of_ble_eq_true rfl) ?_
    exact r_iret2 hC hI hf dL_authorOf_16
theorem kl_L_authorOf {p : Program} {l : Launch} {e : Env} {R : Room} {cells slots : Nat} {s : State} {m : MethodId} {args : Array Value} {below : List Frame} {meth : Method} {c : Code} {H : Heap} {locs : List Loc} {Q : State → Prop} {E : En} {ad : Nat → Nat} {V : Mem} {ow : String} {b : ByteArray} {n : Nat} {ret : Option FieldType} {pc index : Nat} {ls : Array Slot} {rest : List Value} {a1 : Int32} {r : Int32} {V1 : Mem} (hS : SF E) (hT : l.stackTraces = false) (hC : Cx p s m args c meth E ow b n ret) (hI : In E ad V s H locs) (hsz : ls.size = n) (hf : f_L_authorOf V a1 = some (r, V1)) (hl : Cond.methodLink ow index yL_authorOf ∈ TB) (hR : 8 + 1 ≤ R.frames ∧ 8 + (4 + 11) + 40 * 8 ≤ R.locals) (hcs : cells + 1 ≤ R.cells ∧ slots + 6 ≤ R.slots) (hw : (rest.map fun v => v.category).sum ≤ 8) (hdg : decode b pc = .ok (.invokestatic index, 3)) (kk : ∀ (H1 : Heap) (locs1 : List Loc), In E ad V1 s H1 locs1 → W p l e R s m args below meth c H1 locs1 (cells + 1) (slots + 6) Q (F0 m (pc + 3) ls (.int r :: rest))) : W p l e R s m args below meth c H locs cells slots Q (F0 m pc ls (.ref (ad 265) :: .int a1 :: .ref (ad 248) :: rest)) :=
  after_callA hI (runSW_tb (As := [.ref (ad 248), .int a1, .ref (ad 265)]) (rest := rest) hC hI hsz (m_L_authorOf l hT E ad V a1 hS r V1 hf) cv_L_authorOf hl rfl rfl hR hcs hw hdg) kk

theorem dL_generation_0 : decode cL_generation 0 = .ok (.aload_n 2, 1) := by decide +kernel
theorem dL_generation_1 : decode cL_generation 1 = .ok (.iconst 0, 1) := by decide +kernel
theorem dL_generation_2 : decode cL_generation 2 = .ok (.aload_n 0, 1) := by decide +kernel
theorem dL_generation_3 : decode cL_generation 3 = .ok (.iload_n 1, 1) := by decide +kernel
theorem dL_generation_4 : decode cL_generation 4 = .ok (.invokevirtual 69, 3) := by decide +kernel
theorem dL_generation_7 : decode cL_generation 7 = .ok (.i2l, 1) := by decide +kernel
theorem dL_generation_8 : decode cL_generation 8 = .ok (.lastore, 1) := by decide +kernel
theorem dL_generation_9 : decode cL_generation 9 = .ok (.goto 6, 3) := by decide +kernel
theorem dL_generation_12 : decode cL_generation 12 = .ok (.astore_n 3, 1) := by decide +kernel
theorem dL_generation_13 : decode cL_generation 13 = .ok (.iconst 1, 1) := by decide +kernel
theorem dL_generation_14 : decode cL_generation 14 = .ok (.ireturn, 1) := by decide +kernel
theorem dL_generation_15 : decode cL_generation 15 = .ok (.iconst 0, 1) := by decide +kernel
theorem dL_generation_16 : decode cL_generation 16 = .ok (.ireturn, 1) := by decide +kernel
def f_L_generation (V : Mem) (a1 : Int32) : Option (Int32 × Mem) :=
  bh (f_X9_generation V a1) (fun q V => if q = 3 then some (1, V) else none) fun r V1 =>
  lt (stv V1 265 0 r) fun V2 => some (0, V2)
theorem cv_L_generation : (yL_generation.cls ≠ "java/lang/invoke/MethodHandle" ∧ yL_generation.cls ≠ "java/lang/invoke/VarHandle") ∧ Cond.initialized yL_generation.cls ∈ TB ∧ Cond.codeWith yL_generation cL_generation 4 (some .int) [(0, 9, 12, 30)] ∈ TB ∧ (parseMethodDescriptor yL_generation.desc).map (fun d => d.parameters.length) = some 3 ∧ Cond.static yL_generation ∈ TB := ⟨⟨by decide +kernel, by decide +kernel⟩, tw_1_0, tw_4_164, by decide +kernel, tw_4_163⟩
set_option maxRecDepth 100000 in
set_option maxHeartbeats 4000000 in
theorem m_L_generation (l : Launch) (hT : l.stackTraces = false) (E : En) (ad : Nat → Nat) (V : Mem) (a1 : Int32) (hS : SF E) (r : Int32) (Vz : Mem) (hf : f_L_generation V a1 = some (r, Vz)) : MW l E ad yL_generation cL_generation 4 (some .int) [(0, 9, 12, 30)] 8 1 6 [.ref (ad 248), .int a1, .ref (ad 265)] V (some (.int r)) Vz := by
  refine entH (E := E) (ad := ad) (V := V) "LetterRepositoryLaw" (by decide +kernel) rfl (Nat.le_of_ble_eq_true rfl) ?_
  intro p e s m below meth c ls hC hTab hI hl
  have hx := hC.1
  have hb := hC.2.1
  have hl : lv_has ls 4 [(0, .ref (ad 248)), (1, .int a1), (2, .ref (ad 265))] := hl
  unfold f_L_generation at hf
  obtain ⟨q, rr, V1, e1, hf⟩ := gbh hf
  refine lv_aload_n hx hb dL_generation_0 rfl (lv_at hl 2 rfl) ?_
  refine lv_iconst (v := 0) hx hb dL_generation_1 rfl ?_
  refine lv_aload_n hx hb dL_generation_2 rfl (lv_at hl 0 rfl) ?_
  refine lv_iload_n hx hb dL_generation_3 rfl (lv_at hl 1 rfl) ?_
  refine after_callH hI (xrunV_tb (As := [.int a1]) (rest := [.int 0, .ref (ad 265)]) hC hI hl.1 (m_X9_generation l hT E ad V a1 hS q rr V1 e1) cv_X9_generation tw_4_165 (by decide) (ce_248 _) rfl rfl rfl ⟨Nat.le_of_ble_eq_true rfl, Nat.le_of_ble_eq_true rfl⟩ ⟨Nat.le_of_ble_eq_true rfl, Nat.le_of_ble_eq_true rfl⟩ (Nat.le_of_ble_eq_true rfl) dL_generation_4) (fun hq H locs q9 ce hI hcell hcv hcl => ?_) (fun hq H locs hI => ?_)
  · have hf := (if_neg hq).symm.trans hf
    rcases Decidable.em (q = 3) with c0 | c0
    · have hf := gt hf c0
      have hcl : s.vm.findClass "java/util/NoSuchElementException" = some ce.cls := by rw [c0] at hcl; exact hcl
      refine vx_catch (own := "LetterRepositoryLaw") (name := "java/util/NoSuchElementException") (E := "java/util/NoSuchElementException") hC.2.2.2.1 [] (⟨0, 9, 12, 30⟩ : ExceptionTableEntry) [] (hTab.trans rfl) (fun _ h => nomatch h) (by decide) (by decide) (hC.2.2.2.2.1 _ tw_3_209) (ot_before hC (.inr tw_3_94) (fun _ => rfl)) hcell hcv hcl ?_
      refine lv_astore_n (lv' := [(3, .ref q9), (0, .ref (ad 248)), (1, .int a1), (2, .ref (ad 265))]) hx hb dL_generation_12 rfl hl (Nat.lt_of_lt_of_eq (by decide) rfl) rfl (fun ls hl => ?_)
      refine lv_iconst (v := 1) hx hb dL_generation_13 rfl ?_
      refine x_wid (c2 := 1) (s2 := 6) (Nat.le_of_ble_eq_true rfl) (Nat.le_of_ble_eq_true rfl) ?_
      exact r_iret2 hC hI hf dL_generation_14
    have hf := gf hf c0
    cases hf
  · have hf := (if_pos hq).symm.trans hf
    refine lv_i2l (v := rr.toInt64) hx hb dL_generation_7 rfl ?_
    obtain ⟨V2, e2, hf⟩ := gl hf
    refine r_last (x := rr) hC hI e2 dL_generation_8 (fun H locs hI => ?_)
    refine lv_goto (tgt := 15) hx hb dL_generation_9 (by decide) ?_
    refine lv_iconst (v := 0) hx hb dL_generation_15 rfl ?_
    refine x_wid (c2 := 1) (s2 := 6) (Nat.le_of_ble_eq_true rfl) (Nat.le_of_ble_eq_true rfl) ?_
    exact r_iret2 hC hI hf dL_generation_16
theorem kl_L_generation {p : Program} {l : Launch} {e : Env} {R : Room} {cells slots : Nat} {s : State} {m : MethodId} {args : Array Value} {below : List Frame} {meth : Method} {c : Code} {H : Heap} {locs : List Loc} {Q : State → Prop} {E : En} {ad : Nat → Nat} {V : Mem} {ow : String} {b : ByteArray} {n : Nat} {ret : Option FieldType} {pc index : Nat} {ls : Array Slot} {rest : List Value} {a1 : Int32} {r : Int32} {V1 : Mem} (hS : SF E) (hT : l.stackTraces = false) (hC : Cx p s m args c meth E ow b n ret) (hI : In E ad V s H locs) (hsz : ls.size = n) (hf : f_L_generation V a1 = some (r, V1)) (hl : Cond.methodLink ow index yL_generation ∈ TB) (hR : 8 + 1 ≤ R.frames ∧ 8 + (4 + 11) + 40 * 8 ≤ R.locals) (hcs : cells + 1 ≤ R.cells ∧ slots + 6 ≤ R.slots) (hw : (rest.map fun v => v.category).sum ≤ 8) (hdg : decode b pc = .ok (.invokestatic index, 3)) (kk : ∀ (H1 : Heap) (locs1 : List Loc), In E ad V1 s H1 locs1 → W p l e R s m args below meth c H1 locs1 (cells + 1) (slots + 6) Q (F0 m (pc + 3) ls (.int r :: rest))) : W p l e R s m args below meth c H locs cells slots Q (F0 m pc ls (.ref (ad 265) :: .int a1 :: .ref (ad 248) :: rest)) :=
  after_callA hI (runSW_tb (As := [.ref (ad 248), .int a1, .ref (ad 265)]) (rest := rest) hC hI hsz (m_L_generation l hT E ad V a1 hS r V1 hf) cv_L_generation hl rfl rfl hR hcs hw hdg) kk

theorem dL_letterIn_0 : decode cL_letterIn 0 = .ok (.aload_n 3, 1) := by decide +kernel
theorem dL_letterIn_1 : decode cL_letterIn 1 = .ok (.iconst 0, 1) := by decide +kernel
theorem dL_letterIn_2 : decode cL_letterIn 2 = .ok (.aload_n 0, 1) := by decide +kernel
theorem dL_letterIn_3 : decode cL_letterIn 3 = .ok (.iload_n 1, 1) := by decide +kernel
theorem dL_letterIn_4 : decode cL_letterIn 4 = .ok (.iload_n 2, 1) := by decide +kernel
theorem dL_letterIn_5 : decode cL_letterIn 5 = .ok (.invokevirtual 72, 3) := by decide +kernel
theorem dL_letterIn_8 : decode cL_letterIn 8 = .ok (.i2l, 1) := by decide +kernel
theorem dL_letterIn_9 : decode cL_letterIn 9 = .ok (.lastore, 1) := by decide +kernel
theorem dL_letterIn_10 : decode cL_letterIn 10 = .ok (.goto 11, 3) := by decide +kernel
theorem dL_letterIn_13 : decode cL_letterIn 13 = .ok (.astore 4, 2) := by decide +kernel
theorem dL_letterIn_15 : decode cL_letterIn 15 = .ok (.iconst 1, 1) := by decide +kernel
theorem dL_letterIn_16 : decode cL_letterIn 16 = .ok (.ireturn, 1) := by decide +kernel
theorem dL_letterIn_17 : decode cL_letterIn 17 = .ok (.astore 4, 2) := by decide +kernel
theorem dL_letterIn_19 : decode cL_letterIn 19 = .ok (.iconst 2, 1) := by decide +kernel
theorem dL_letterIn_20 : decode cL_letterIn 20 = .ok (.ireturn, 1) := by decide +kernel
theorem dL_letterIn_21 : decode cL_letterIn 21 = .ok (.iconst 0, 1) := by decide +kernel
theorem dL_letterIn_22 : decode cL_letterIn 22 = .ok (.ireturn, 1) := by decide +kernel
def f_L_letterIn (V : Mem) (a1 : Int32) (a2 : Int32) : Option (Int32 × Mem) :=
  bh (f_X9_letterIn V a1 a2) (fun q V => if q = 3 then some (1, V) else if q = 1 then some (2, V) else none) fun r V1 =>
  lt (stv V1 265 0 r) fun V2 => some (0, V2)
theorem cv_L_letterIn : (yL_letterIn.cls ≠ "java/lang/invoke/MethodHandle" ∧ yL_letterIn.cls ≠ "java/lang/invoke/VarHandle") ∧ Cond.initialized yL_letterIn.cls ∈ TB ∧ Cond.codeWith yL_letterIn cL_letterIn 5 (some .int) [(0, 10, 13, 30), (0, 10, 17, 13)] ∈ TB ∧ (parseMethodDescriptor yL_letterIn.desc).map (fun d => d.parameters.length) = some 4 ∧ Cond.static yL_letterIn ∈ TB := ⟨⟨by decide +kernel, by decide +kernel⟩, tw_1_0, tw_4_172, by decide +kernel, tw_4_171⟩
set_option maxRecDepth 100000 in
set_option maxHeartbeats 4000000 in
theorem m_L_letterIn (l : Launch) (hT : l.stackTraces = false) (E : En) (ad : Nat → Nat) (V : Mem) (a1 : Int32) (a2 : Int32) (hS : SF E) (r : Int32) (Vz : Mem) (hf : f_L_letterIn V a1 a2 = some (r, Vz)) : MW l E ad yL_letterIn cL_letterIn 5 (some .int) [(0, 10, 13, 30), (0, 10, 17, 13)] 8 2 12 [.ref (ad 248), .int a1, .int a2, .ref (ad 265)] V (some (.int r)) Vz := by
  refine entH (E := E) (ad := ad) (V := V) "LetterRepositoryLaw" (by decide +kernel) rfl (Nat.le_of_ble_eq_true rfl) ?_
  intro p e s m below meth c ls hC hTab hI hl
  have hx := hC.1
  have hb := hC.2.1
  have hl : lv_has ls 5 [(0, .ref (ad 248)), (1, .int a1), (2, .int a2), (3, .ref (ad 265))] := hl
  unfold f_L_letterIn at hf
  obtain ⟨q, rr, V1, e1, hf⟩ := gbh hf
  refine lv_aload_n hx hb dL_letterIn_0 rfl (lv_at hl 3 rfl) ?_
  refine lv_iconst (v := 0) hx hb dL_letterIn_1 rfl ?_
  refine lv_aload_n hx hb dL_letterIn_2 rfl (lv_at hl 0 rfl) ?_
  refine lv_iload_n hx hb dL_letterIn_3 rfl (lv_at hl 1 rfl) ?_
  refine lv_iload_n hx hb dL_letterIn_4 rfl (lv_at hl 2 rfl) ?_
  refine after_callH hI (xrunV_tb (As := [.int a1, .int a2]) (rest := [.int 0, .ref (ad 265)]) hC hI hl.1 (m_X9_letterIn l hT E ad V a1 a2 hS q rr V1 e1) cv_X9_letterIn tw_4_173 (by decide) (ce_248 _) rfl rfl rfl ⟨Nat.le_of_ble_eq_true rfl, Nat.le_of_ble_eq_true rfl⟩ ⟨Nat.le_of_ble_eq_true rfl, Nat.le_of_ble_eq_true rfl⟩ (Nat.le_of_ble_eq_true rfl) dL_letterIn_5) (fun hq H locs q9 ce hI hcell hcv hcl => ?_) (fun hq H locs hI => ?_)
  · have hf := (if_neg hq).symm.trans hf
    rcases Decidable.em (q = 3) with c0 | c0
    · have hf := gt hf c0
      have hcl : s.vm.findClass "java/util/NoSuchElementException" = some ce.cls := by rw [c0] at hcl; exact hcl
      refine vx_catch (own := "LetterRepositoryLaw") (name := "java/util/NoSuchElementException") (E := "java/util/NoSuchElementException") hC.2.2.2.1 [] (⟨0, 10, 13, 30⟩ : ExceptionTableEntry) [(⟨0, 10, 17, 13⟩ : ExceptionTableEntry)] (hTab.trans rfl) (fun _ h => nomatch h) (by decide) (by decide) (hC.2.2.2.2.1 _ tw_3_209) (ot_before hC (.inr tw_3_94) (fun _ => rfl)) hcell hcv hcl ?_
      refine lv_astore (lv' := [(4, .ref q9), (0, .ref (ad 248)), (1, .int a1), (2, .int a2), (3, .ref (ad 265))]) hx hb dL_letterIn_13 hl (Nat.lt_of_lt_of_eq (by decide) rfl) rfl (fun ls hl => ?_)
      refine lv_iconst (v := 1) hx hb dL_letterIn_15 rfl ?_
      refine x_wid (c2 := 2) (s2 := 12) (Nat.le_of_ble_eq_true rfl) (Nat.le_of_ble_eq_true rfl) ?_
      exact r_iret2 hC hI hf dL_letterIn_16
    have hf := gf hf c0
    rcases Decidable.em (q = 1) with c1 | c1
    · have hf := gt hf c1
      have hcl : s.vm.findClass "java/lang/IndexOutOfBoundsException" = some ce.cls := by rw [c1] at hcl; exact hcl
      refine vx_catch (own := "LetterRepositoryLaw") (name := "java/lang/IndexOutOfBoundsException") (E := "java/lang/IndexOutOfBoundsException") hC.2.2.2.1 [(⟨0, 10, 13, 30⟩ : ExceptionTableEntry)] (⟨0, 10, 17, 13⟩ : ExceptionTableEntry) [] (hTab.trans rfl) (fun z hz => by
      rcases List.mem_cons.mp hz with rfl | hz
      · exact .inr ⟨by decide, "java/util/NoSuchElementException", hC.2.2.2.2.1 _ tw_3_209, nc_of hS hC List.mem_cons_self (List.mem_cons_of_mem _ (List.mem_cons_of_mem _ List.mem_cons_self)) (by decide)⟩
      exact absurd hz List.not_mem_nil) (by decide) (by decide) (hC.2.2.2.2.1 _ tw_2_213) (ot_before hC (.inr tw_3_5) (fun _ => rfl)) hcell hcv hcl ?_
      refine lv_astore (lv' := [(4, .ref q9), (0, .ref (ad 248)), (1, .int a1), (2, .int a2), (3, .ref (ad 265))]) hx hb dL_letterIn_17 hl (Nat.lt_of_lt_of_eq (by decide) rfl) rfl (fun ls hl => ?_)
      refine lv_iconst (v := 2) hx hb dL_letterIn_19 rfl ?_
      refine x_wid (c2 := 2) (s2 := 12) (Nat.le_of_ble_eq_true rfl) (Nat.le_of_ble_eq_true rfl) ?_
      exact r_iret2 hC hI hf dL_letterIn_20
    have hf := gf hf c1
    cases hf
  · have hf := (if_pos hq).symm.trans hf
    refine lv_i2l (v := rr.toInt64) hx hb dL_letterIn_8 rfl ?_
    obtain ⟨V2, e2, hf⟩ := gl hf
    refine r_last (x := rr) hC hI e2 dL_letterIn_9 (fun H locs hI => ?_)
    refine lv_goto (tgt := 21) hx hb dL_letterIn_10 (by decide) ?_
    refine lv_iconst (v := 0) hx hb dL_letterIn_21 rfl ?_
    refine x_wid (c2 := 2) (s2 := 12) (Nat.le_of_ble_eq_true rfl) (Nat.le_of_ble_eq_true rfl) ?_
    exact r_iret2 hC hI hf dL_letterIn_22
theorem kl_L_letterIn {p : Program} {l : Launch} {e : Env} {R : Room} {cells slots : Nat} {s : State} {m : MethodId} {args : Array Value} {below : List Frame} {meth : Method} {c : Code} {H : Heap} {locs : List Loc} {Q : State → Prop} {E : En} {ad : Nat → Nat} {V : Mem} {ow : String} {b : ByteArray} {n : Nat} {ret : Option FieldType} {pc index : Nat} {ls : Array Slot} {rest : List Value} {a1 : Int32} {a2 : Int32} {r : Int32} {V1 : Mem} (hS : SF E) (hT : l.stackTraces = false) (hC : Cx p s m args c meth E ow b n ret) (hI : In E ad V s H locs) (hsz : ls.size = n) (hf : f_L_letterIn V a1 a2 = some (r, V1)) (hl : Cond.methodLink ow index yL_letterIn ∈ TB) (hR : 8 + 1 ≤ R.frames ∧ 8 + (5 + 11) + 40 * 8 ≤ R.locals) (hcs : cells + 2 ≤ R.cells ∧ slots + 12 ≤ R.slots) (hw : (rest.map fun v => v.category).sum ≤ 8) (hdg : decode b pc = .ok (.invokestatic index, 3)) (kk : ∀ (H1 : Heap) (locs1 : List Loc), In E ad V1 s H1 locs1 → W p l e R s m args below meth c H1 locs1 (cells + 2) (slots + 12) Q (F0 m (pc + 3) ls (.int r :: rest))) : W p l e R s m args below meth c H locs cells slots Q (F0 m pc ls (.ref (ad 265) :: .int a2 :: .int a1 :: .ref (ad 248) :: rest)) :=
  after_callA hI (runSW_tb (As := [.ref (ad 248), .int a1, .int a2, .ref (ad 265)]) (rest := rest) hC hI hsz (m_L_letterIn l hT E ad V a1 a2 hS r V1 hf) cv_L_letterIn hl rfl rfl hR hcs hw hdg) kk

theorem dL_isAncestor_0 : decode cL_isAncestor 0 = .ok (.aload_n 3, 1) := by decide +kernel
theorem dL_isAncestor_1 : decode cL_isAncestor 1 = .ok (.iconst 0, 1) := by decide +kernel
theorem dL_isAncestor_2 : decode cL_isAncestor 2 = .ok (.aload_n 0, 1) := by decide +kernel
theorem dL_isAncestor_3 : decode cL_isAncestor 3 = .ok (.iload_n 1, 1) := by decide +kernel
theorem dL_isAncestor_4 : decode cL_isAncestor 4 = .ok (.iload_n 2, 1) := by decide +kernel
theorem dL_isAncestor_5 : decode cL_isAncestor 5 = .ok (.invokevirtual 76, 3) := by decide +kernel
theorem dL_isAncestor_8 : decode cL_isAncestor 8 = .ok (.ifCond .eq 7, 3) := by decide +kernel
theorem dL_isAncestor_11 : decode cL_isAncestor 11 = .ok (.lconst 1, 1) := by decide +kernel
theorem dL_isAncestor_12 : decode cL_isAncestor 12 = .ok (.goto 4, 3) := by decide +kernel
theorem dL_isAncestor_15 : decode cL_isAncestor 15 = .ok (.lconst 0, 1) := by decide +kernel
theorem dL_isAncestor_16 : decode cL_isAncestor 16 = .ok (.lastore, 1) := by decide +kernel
theorem dL_isAncestor_17 : decode cL_isAncestor 17 = .ok (.goto 7, 3) := by decide +kernel
theorem dL_isAncestor_20 : decode cL_isAncestor 20 = .ok (.astore 4, 2) := by decide +kernel
theorem dL_isAncestor_22 : decode cL_isAncestor 22 = .ok (.iconst 1, 1) := by decide +kernel
theorem dL_isAncestor_23 : decode cL_isAncestor 23 = .ok (.ireturn, 1) := by decide +kernel
theorem dL_isAncestor_24 : decode cL_isAncestor 24 = .ok (.iconst 0, 1) := by decide +kernel
theorem dL_isAncestor_25 : decode cL_isAncestor 25 = .ok (.ireturn, 1) := by decide +kernel
def f_L_isAncestor (V : Mem) (a1 : Int32) (a2 : Int32) : Option (Int32 × Mem) :=
  bh (f_X9_isAncestor V a1 a2) (fun q V => if q = 3 then some (1, V) else none) fun r V1 =>
  if r = 0 then lt (stv V1 265 0 0) fun V2 => some (0, V2) else lt (stv V1 265 0 1) fun V2 => some (0, V2)
theorem cv_L_isAncestor : (yL_isAncestor.cls ≠ "java/lang/invoke/MethodHandle" ∧ yL_isAncestor.cls ≠ "java/lang/invoke/VarHandle") ∧ Cond.initialized yL_isAncestor.cls ∈ TB ∧ Cond.codeWith yL_isAncestor cL_isAncestor 5 (some .int) [(0, 17, 20, 30)] ∈ TB ∧ (parseMethodDescriptor yL_isAncestor.desc).map (fun d => d.parameters.length) = some 4 ∧ Cond.static yL_isAncestor ∈ TB := ⟨⟨by decide +kernel, by decide +kernel⟩, tw_1_0, tw_4_185, by decide +kernel, tw_4_184⟩
set_option maxRecDepth 100000 in
set_option maxHeartbeats 4000000 in
theorem m_L_isAncestor (l : Launch) (hT : l.stackTraces = false) (E : En) (ad : Nat → Nat) (V : Mem) (a1 : Int32) (a2 : Int32) (hS : SF E) (r : Int32) (Vz : Mem) (hf : f_L_isAncestor V a1 a2 = some (r, Vz)) : MW l E ad yL_isAncestor cL_isAncestor 5 (some .int) [(0, 17, 20, 30)] 8 2 12 [.ref (ad 248), .int a1, .int a2, .ref (ad 265)] V (some (.int r)) Vz := by
  refine entH (E := E) (ad := ad) (V := V) "LetterRepositoryLaw" (by decide +kernel) rfl (Nat.le_of_ble_eq_true rfl) ?_
  intro p e s m below meth c ls hC hTab hI hl
  have hx := hC.1
  have hb := hC.2.1
  have hl : lv_has ls 5 [(0, .ref (ad 248)), (1, .int a1), (2, .int a2), (3, .ref (ad 265))] := hl
  unfold f_L_isAncestor at hf
  obtain ⟨q, rr, V1, e1, hf⟩ := gbh hf
  refine lv_aload_n hx hb dL_isAncestor_0 rfl (lv_at hl 3 rfl) ?_
  refine lv_iconst (v := 0) hx hb dL_isAncestor_1 rfl ?_
  refine lv_aload_n hx hb dL_isAncestor_2 rfl (lv_at hl 0 rfl) ?_
  refine lv_iload_n hx hb dL_isAncestor_3 rfl (lv_at hl 1 rfl) ?_
  refine lv_iload_n hx hb dL_isAncestor_4 rfl (lv_at hl 2 rfl) ?_
  refine after_callH hI (xrunV_tb (As := [.int a1, .int a2]) (rest := [.int 0, .ref (ad 265)]) hC hI hl.1 (m_X9_isAncestor l hT E ad V a1 a2 hS q rr V1 e1) cv_X9_isAncestor tw_4_186 (by decide) (ce_248 _) rfl rfl rfl ⟨Nat.le_of_ble_eq_true rfl, Nat.le_of_ble_eq_true rfl⟩ ⟨Nat.le_of_ble_eq_true rfl, Nat.le_of_ble_eq_true rfl⟩ (Nat.le_of_ble_eq_true rfl) dL_isAncestor_5) (fun hq H locs q9 ce hI hcell hcv hcl => ?_) (fun hq H locs hI => ?_)
  · have hf := (if_neg hq).symm.trans hf
    rcases Decidable.em (q = 3) with c0 | c0
    · have hf := gt hf c0
      have hcl : s.vm.findClass "java/util/NoSuchElementException" = some ce.cls := by rw [c0] at hcl; exact hcl
      refine vx_catch (own := "LetterRepositoryLaw") (name := "java/util/NoSuchElementException") (E := "java/util/NoSuchElementException") hC.2.2.2.1 [] (⟨0, 17, 20, 30⟩ : ExceptionTableEntry) [] (hTab.trans rfl) (fun _ h => nomatch h) (by decide) (by decide) (hC.2.2.2.2.1 _ tw_3_209) (ot_before hC (.inr tw_3_94) (fun _ => rfl)) hcell hcv hcl ?_
      refine lv_astore (lv' := [(4, .ref q9), (0, .ref (ad 248)), (1, .int a1), (2, .int a2), (3, .ref (ad 265))]) hx hb dL_isAncestor_20 hl (Nat.lt_of_lt_of_eq (by decide) rfl) rfl (fun ls hl => ?_)
      refine lv_iconst (v := 1) hx hb dL_isAncestor_22 rfl ?_
      refine x_wid (c2 := 2) (s2 := 12) (Nat.le_of_ble_eq_true rfl) (Nat.le_of_ble_eq_true rfl) ?_
      exact r_iret2 hC hI hf dL_isAncestor_23
    have hf := gf hf c0
    cases hf
  · have hf := (if_pos hq).symm.trans hf
    refine lv_if_eq (tgt := 15) hx hb dL_isAncestor_8 (by decide) (fun c9 => ?_) (fun c9 => ?_)
    · have hf := (if_pos c9).symm.trans hf
      obtain ⟨V2, e2, hf⟩ := gl hf
      refine lv_lconst (v := (0 : Int32).toInt64) hx hb dL_isAncestor_15 rfl ?_
      refine r_last (x := 0) hC hI e2 dL_isAncestor_16 (fun H locs hI => ?_)
      refine lv_goto (tgt := 24) hx hb dL_isAncestor_17 (by decide) ?_
      refine lv_iconst (v := 0) hx hb dL_isAncestor_24 rfl ?_
      refine x_wid (c2 := 2) (s2 := 12) (Nat.le_of_ble_eq_true rfl) (Nat.le_of_ble_eq_true rfl) ?_
      exact r_iret2 hC hI hf dL_isAncestor_25
    · have hf := (if_neg c9).symm.trans hf
      obtain ⟨V2, e2, hf⟩ := gl hf
      refine lv_lconst (v := (1 : Int32).toInt64) hx hb dL_isAncestor_11 rfl ?_
      refine lv_goto (tgt := 16) hx hb dL_isAncestor_12 (by decide) ?_
      refine r_last (x := 1) hC hI e2 dL_isAncestor_16 (fun H locs hI => ?_)
      refine lv_goto (tgt := 24) hx hb dL_isAncestor_17 (by decide) ?_
      refine lv_iconst (v := 0) hx hb dL_isAncestor_24 rfl ?_
      refine x_wid (c2 := 2) (s2 := 12) (Nat.le_of_ble_eq_true rfl) (Nat.le_of_ble_eq_true rfl) ?_
      exact r_iret2 hC hI hf dL_isAncestor_25
theorem kl_L_isAncestor {p : Program} {l : Launch} {e : Env} {R : Room} {cells slots : Nat} {s : State} {m : MethodId} {args : Array Value} {below : List Frame} {meth : Method} {c : Code} {H : Heap} {locs : List Loc} {Q : State → Prop} {E : En} {ad : Nat → Nat} {V : Mem} {ow : String} {b : ByteArray} {n : Nat} {ret : Option FieldType} {pc index : Nat} {ls : Array Slot} {rest : List Value} {a1 : Int32} {a2 : Int32} {r : Int32} {V1 : Mem} (hS : SF E) (hT : l.stackTraces = false) (hC : Cx p s m args c meth E ow b n ret) (hI : In E ad V s H locs) (hsz : ls.size = n) (hf : f_L_isAncestor V a1 a2 = some (r, V1)) (hl : Cond.methodLink ow index yL_isAncestor ∈ TB) (hR : 8 + 1 ≤ R.frames ∧ 8 + (5 + 11) + 40 * 8 ≤ R.locals) (hcs : cells + 2 ≤ R.cells ∧ slots + 12 ≤ R.slots) (hw : (rest.map fun v => v.category).sum ≤ 8) (hdg : decode b pc = .ok (.invokestatic index, 3)) (kk : ∀ (H1 : Heap) (locs1 : List Loc), In E ad V1 s H1 locs1 → W p l e R s m args below meth c H1 locs1 (cells + 2) (slots + 12) Q (F0 m (pc + 3) ls (.int r :: rest))) : W p l e R s m args below meth c H locs cells slots Q (F0 m pc ls (.ref (ad 265) :: .int a2 :: .int a1 :: .ref (ad 248) :: rest)) :=
  after_callA hI (runSW_tb (As := [.ref (ad 248), .int a1, .int a2, .ref (ad 265)]) (rest := rest) hC hI hsz (m_L_isAncestor l hT E ad V a1 a2 hS r V1 hf) cv_L_isAncestor hl rfl rfl hR hcs hw hdg) kk

theorem dL_ancestorCount_0 : decode cL_ancestorCount 0 = .ok (.aload_n 2, 1) := by decide +kernel
theorem dL_ancestorCount_1 : decode cL_ancestorCount 1 = .ok (.iconst 0, 1) := by decide +kernel
theorem dL_ancestorCount_2 : decode cL_ancestorCount 2 = .ok (.aload_n 0, 1) := by decide +kernel
theorem dL_ancestorCount_3 : decode cL_ancestorCount 3 = .ok (.iload_n 1, 1) := by decide +kernel
theorem dL_ancestorCount_4 : decode cL_ancestorCount 4 = .ok (.invokevirtual 80, 3) := by decide +kernel
theorem dL_ancestorCount_7 : decode cL_ancestorCount 7 = .ok (.i2l, 1) := by decide +kernel
theorem dL_ancestorCount_8 : decode cL_ancestorCount 8 = .ok (.lastore, 1) := by decide +kernel
theorem dL_ancestorCount_9 : decode cL_ancestorCount 9 = .ok (.goto 6, 3) := by decide +kernel
theorem dL_ancestorCount_12 : decode cL_ancestorCount 12 = .ok (.astore_n 3, 1) := by decide +kernel
theorem dL_ancestorCount_13 : decode cL_ancestorCount 13 = .ok (.iconst 1, 1) := by decide +kernel
theorem dL_ancestorCount_14 : decode cL_ancestorCount 14 = .ok (.ireturn, 1) := by decide +kernel
theorem dL_ancestorCount_15 : decode cL_ancestorCount 15 = .ok (.iconst 0, 1) := by decide +kernel
theorem dL_ancestorCount_16 : decode cL_ancestorCount 16 = .ok (.ireturn, 1) := by decide +kernel
def f_L_ancestorCount (V : Mem) (a1 : Int32) : Option (Int32 × Mem) :=
  bh (f_X9_ancestorCount V a1) (fun q V => if q = 3 then some (1, V) else none) fun r V1 =>
  lt (stv V1 265 0 r) fun V2 => some (0, V2)
theorem cv_L_ancestorCount : (yL_ancestorCount.cls ≠ "java/lang/invoke/MethodHandle" ∧ yL_ancestorCount.cls ≠ "java/lang/invoke/VarHandle") ∧ Cond.initialized yL_ancestorCount.cls ∈ TB ∧ Cond.codeWith yL_ancestorCount cL_ancestorCount 4 (some .int) [(0, 9, 12, 30)] ∈ TB ∧ (parseMethodDescriptor yL_ancestorCount.desc).map (fun d => d.parameters.length) = some 3 ∧ Cond.static yL_ancestorCount ∈ TB := ⟨⟨by decide +kernel, by decide +kernel⟩, tw_1_0, tw_4_194, by decide +kernel, tw_4_193⟩
set_option maxRecDepth 100000 in
set_option maxHeartbeats 4000000 in
theorem m_L_ancestorCount (l : Launch) (hT : l.stackTraces = false) (E : En) (ad : Nat → Nat) (V : Mem) (a1 : Int32) (hS : SF E) (r : Int32) (Vz : Mem) (hf : f_L_ancestorCount V a1 = some (r, Vz)) : MW l E ad yL_ancestorCount cL_ancestorCount 4 (some .int) [(0, 9, 12, 30)] 8 1 6 [.ref (ad 248), .int a1, .ref (ad 265)] V (some (.int r)) Vz := by
  refine entH (E := E) (ad := ad) (V := V) "LetterRepositoryLaw" (by decide +kernel) rfl (Nat.le_of_ble_eq_true rfl) ?_
  intro p e s m below meth c ls hC hTab hI hl
  have hx := hC.1
  have hb := hC.2.1
  have hl : lv_has ls 4 [(0, .ref (ad 248)), (1, .int a1), (2, .ref (ad 265))] := hl
  unfold f_L_ancestorCount at hf
  obtain ⟨q, rr, V1, e1, hf⟩ := gbh hf
  refine lv_aload_n hx hb dL_ancestorCount_0 rfl (lv_at hl 2 rfl) ?_
  refine lv_iconst (v := 0) hx hb dL_ancestorCount_1 rfl ?_
  refine lv_aload_n hx hb dL_ancestorCount_2 rfl (lv_at hl 0 rfl) ?_
  refine lv_iload_n hx hb dL_ancestorCount_3 rfl (lv_at hl 1 rfl) ?_
  refine after_callH hI (xrunV_tb (As := [.int a1]) (rest := [.int 0, .ref (ad 265)]) hC hI hl.1 (m_X9_ancestorCount l hT E ad V a1 hS q rr V1 e1) cv_X9_ancestorCount tw_4_195 (by decide) (ce_248 _) rfl rfl rfl ⟨Nat.le_of_ble_eq_true rfl, Nat.le_of_ble_eq_true rfl⟩ ⟨Nat.le_of_ble_eq_true rfl, Nat.le_of_ble_eq_true rfl⟩ (Nat.le_of_ble_eq_true rfl) dL_ancestorCount_4) (fun hq H locs q9 ce hI hcell hcv hcl => ?_) (fun hq H locs hI => ?_)
  · have hf := (if_neg hq).symm.trans hf
    rcases Decidable.em (q = 3) with c0 | c0
    · have hf := gt hf c0
      have hcl : s.vm.findClass "java/util/NoSuchElementException" = some ce.cls := by rw [c0] at hcl; exact hcl
      refine vx_catch (own := "LetterRepositoryLaw") (name := "java/util/NoSuchElementException") (E := "java/util/NoSuchElementException") hC.2.2.2.1 [] (⟨0, 9, 12, 30⟩ : ExceptionTableEntry) [] (hTab.trans rfl) (fun _ h => nomatch h) (by decide) (by decide) (hC.2.2.2.2.1 _ tw_3_209) (ot_before hC (.inr tw_3_94) (fun _ => rfl)) hcell hcv hcl ?_
      refine lv_astore_n (lv' := [(3, .ref q9), (0, .ref (ad 248)), (1, .int a1), (2, .ref (ad 265))]) hx hb dL_ancestorCount_12 rfl hl (Nat.lt_of_lt_of_eq (by decide) rfl) rfl (fun ls hl => ?_)
      refine lv_iconst (v := 1) hx hb dL_ancestorCount_13 rfl ?_
      refine x_wid (c2 := 1) (s2 := 6) (Nat.le_of_ble_eq_true rfl) (Nat.le_of_ble_eq_true rfl) ?_
      exact r_iret2 hC hI hf dL_ancestorCount_14
    have hf := gf hf c0
    cases hf
  · have hf := (if_pos hq).symm.trans hf
    refine lv_i2l (v := rr.toInt64) hx hb dL_ancestorCount_7 rfl ?_
    obtain ⟨V2, e2, hf⟩ := gl hf
    refine r_last (x := rr) hC hI e2 dL_ancestorCount_8 (fun H locs hI => ?_)
    refine lv_goto (tgt := 15) hx hb dL_ancestorCount_9 (by decide) ?_
    refine lv_iconst (v := 0) hx hb dL_ancestorCount_15 rfl ?_
    refine x_wid (c2 := 1) (s2 := 6) (Nat.le_of_ble_eq_true rfl) (Nat.le_of_ble_eq_true rfl) ?_
    exact r_iret2 hC hI hf dL_ancestorCount_16
theorem kl_L_ancestorCount {p : Program} {l : Launch} {e : Env} {R : Room} {cells slots : Nat} {s : State} {m : MethodId} {args : Array Value} {below : List Frame} {meth : Method} {c : Code} {H : Heap} {locs : List Loc} {Q : State → Prop} {E : En} {ad : Nat → Nat} {V : Mem} {ow : String} {b : ByteArray} {n : Nat} {ret : Option FieldType} {pc index : Nat} {ls : Array Slot} {rest : List Value} {a1 : Int32} {r : Int32} {V1 : Mem} (hS : SF E) (hT : l.stackTraces = false) (hC : Cx p s m args c meth E ow b n ret) (hI : In E ad V s H locs) (hsz : ls.size = n) (hf : f_L_ancestorCount V a1 = some (r, V1)) (hl : Cond.methodLink ow index yL_ancestorCount ∈ TB) (hR : 8 + 1 ≤ R.frames ∧ 8 + (4 + 11) + 40 * 8 ≤ R.locals) (hcs : cells + 1 ≤ R.cells ∧ slots + 6 ≤ R.slots) (hw : (rest.map fun v => v.category).sum ≤ 8) (hdg : decode b pc = .ok (.invokestatic index, 3)) (kk : ∀ (H1 : Heap) (locs1 : List Loc), In E ad V1 s H1 locs1 → W p l e R s m args below meth c H1 locs1 (cells + 1) (slots + 6) Q (F0 m (pc + 3) ls (.int r :: rest))) : W p l e R s m args below meth c H locs cells slots Q (F0 m pc ls (.ref (ad 265) :: .int a1 :: .ref (ad 248) :: rest)) :=
  after_callA hI (runSW_tb (As := [.ref (ad 248), .int a1, .ref (ad 265)]) (rest := rest) hC hI hsz (m_L_ancestorCount l hT E ad V a1 hS r V1 hf) cv_L_ancestorCount hl rfl rfl hR hcs hw hdg) kk

theorem dL_commonAncestor_0 : decode cL_commonAncestor 0 = .ok (.aload_n 3, 1) := by decide +kernel
theorem dL_commonAncestor_1 : decode cL_commonAncestor 1 = .ok (.iconst 0, 1) := by decide +kernel
theorem dL_commonAncestor_2 : decode cL_commonAncestor 2 = .ok (.aload_n 0, 1) := by decide +kernel
theorem dL_commonAncestor_3 : decode cL_commonAncestor 3 = .ok (.iload_n 1, 1) := by decide +kernel
theorem dL_commonAncestor_4 : decode cL_commonAncestor 4 = .ok (.iload_n 2, 1) := by decide +kernel
theorem dL_commonAncestor_5 : decode cL_commonAncestor 5 = .ok (.invokevirtual 83, 3) := by decide +kernel
theorem dL_commonAncestor_8 : decode cL_commonAncestor 8 = .ok (.i2l, 1) := by decide +kernel
theorem dL_commonAncestor_9 : decode cL_commonAncestor 9 = .ok (.lastore, 1) := by decide +kernel
theorem dL_commonAncestor_10 : decode cL_commonAncestor 10 = .ok (.goto 7, 3) := by decide +kernel
theorem dL_commonAncestor_13 : decode cL_commonAncestor 13 = .ok (.astore 4, 2) := by decide +kernel
theorem dL_commonAncestor_15 : decode cL_commonAncestor 15 = .ok (.iconst 1, 1) := by decide +kernel
theorem dL_commonAncestor_16 : decode cL_commonAncestor 16 = .ok (.ireturn, 1) := by decide +kernel
theorem dL_commonAncestor_17 : decode cL_commonAncestor 17 = .ok (.iconst 0, 1) := by decide +kernel
theorem dL_commonAncestor_18 : decode cL_commonAncestor 18 = .ok (.ireturn, 1) := by decide +kernel
def f_L_commonAncestor (V : Mem) (a1 : Int32) (a2 : Int32) : Option (Int32 × Mem) :=
  bh (f_X9_commonAncestor V a1 a2) (fun q V => if q = 3 then some (1, V) else none) fun r V1 =>
  lt (stv V1 265 0 r) fun V2 => some (0, V2)
theorem cv_L_commonAncestor : (yL_commonAncestor.cls ≠ "java/lang/invoke/MethodHandle" ∧ yL_commonAncestor.cls ≠ "java/lang/invoke/VarHandle") ∧ Cond.initialized yL_commonAncestor.cls ∈ TB ∧ Cond.codeWith yL_commonAncestor cL_commonAncestor 5 (some .int) [(0, 10, 13, 30)] ∈ TB ∧ (parseMethodDescriptor yL_commonAncestor.desc).map (fun d => d.parameters.length) = some 4 ∧ Cond.static yL_commonAncestor ∈ TB := ⟨⟨by decide +kernel, by decide +kernel⟩, tw_1_0, tw_4_201, by decide +kernel, tw_4_200⟩
set_option maxRecDepth 100000 in
set_option maxHeartbeats 4000000 in
theorem m_L_commonAncestor (l : Launch) (hT : l.stackTraces = false) (E : En) (ad : Nat → Nat) (V : Mem) (a1 : Int32) (a2 : Int32) (hS : SF E) (r : Int32) (Vz : Mem) (hf : f_L_commonAncestor V a1 a2 = some (r, Vz)) : MW l E ad yL_commonAncestor cL_commonAncestor 5 (some .int) [(0, 10, 13, 30)] 32 2 12 [.ref (ad 248), .int a1, .int a2, .ref (ad 265)] V (some (.int r)) Vz := by
  refine entH (E := E) (ad := ad) (V := V) "LetterRepositoryLaw" (by decide +kernel) rfl (Nat.le_of_ble_eq_true rfl) ?_
  intro p e s m below meth c ls hC hTab hI hl
  have hx := hC.1
  have hb := hC.2.1
  have hl : lv_has ls 5 [(0, .ref (ad 248)), (1, .int a1), (2, .int a2), (3, .ref (ad 265))] := hl
  unfold f_L_commonAncestor at hf
  obtain ⟨q, rr, V1, e1, hf⟩ := gbh hf
  refine lv_aload_n hx hb dL_commonAncestor_0 rfl (lv_at hl 3 rfl) ?_
  refine lv_iconst (v := 0) hx hb dL_commonAncestor_1 rfl ?_
  refine lv_aload_n hx hb dL_commonAncestor_2 rfl (lv_at hl 0 rfl) ?_
  refine lv_iload_n hx hb dL_commonAncestor_3 rfl (lv_at hl 1 rfl) ?_
  refine lv_iload_n hx hb dL_commonAncestor_4 rfl (lv_at hl 2 rfl) ?_
  refine after_callH hI (xrunV_tb (As := [.int a1, .int a2]) (rest := [.int 0, .ref (ad 265)]) hC hI hl.1 (m_X9_commonAncestor l hT E ad V a1 a2 hS q rr V1 e1) cv_X9_commonAncestor tw_4_202 (by decide) (ce_248 _) rfl rfl rfl ⟨Nat.le_of_ble_eq_true rfl, Nat.le_of_ble_eq_true rfl⟩ ⟨Nat.le_of_ble_eq_true rfl, Nat.le_of_ble_eq_true rfl⟩ (Nat.le_of_ble_eq_true rfl) dL_commonAncestor_5) (fun hq H locs q9 ce hI hcell hcv hcl => ?_) (fun hq H locs hI => ?_)
  · have hf := (if_neg hq).symm.trans hf
    rcases Decidable.em (q = 3) with c0 | c0
    · have hf := gt hf c0
      have hcl : s.vm.findClass "java/util/NoSuchElementException" = some ce.cls := by rw [c0] at hcl; exact hcl
      refine vx_catch (own := "LetterRepositoryLaw") (name := "java/util/NoSuchElementException") (E := "java/util/NoSuchElementException") hC.2.2.2.1 [] (⟨0, 10, 13, 30⟩ : ExceptionTableEntry) [] (hTab.trans rfl) (fun _ h => nomatch h) (by decide) (by decide) (hC.2.2.2.2.1 _ tw_3_209) (ot_before hC (.inr tw_3_94) (fun _ => rfl)) hcell hcv hcl ?_
      refine lv_astore (lv' := [(4, .ref q9), (0, .ref (ad 248)), (1, .int a1), (2, .int a2), (3, .ref (ad 265))]) hx hb dL_commonAncestor_13 hl (Nat.lt_of_lt_of_eq (by decide) rfl) rfl (fun ls hl => ?_)
      refine lv_iconst (v := 1) hx hb dL_commonAncestor_15 rfl ?_
      refine x_wid (c2 := 2) (s2 := 12) (Nat.le_of_ble_eq_true rfl) (Nat.le_of_ble_eq_true rfl) ?_
      exact r_iret2 hC hI hf dL_commonAncestor_16
    have hf := gf hf c0
    cases hf
  · have hf := (if_pos hq).symm.trans hf
    refine lv_i2l (v := rr.toInt64) hx hb dL_commonAncestor_8 rfl ?_
    obtain ⟨V2, e2, hf⟩ := gl hf
    refine r_last (x := rr) hC hI e2 dL_commonAncestor_9 (fun H locs hI => ?_)
    refine lv_goto (tgt := 17) hx hb dL_commonAncestor_10 (by decide) ?_
    refine lv_iconst (v := 0) hx hb dL_commonAncestor_17 rfl ?_
    refine x_wid (c2 := 2) (s2 := 12) (Nat.le_of_ble_eq_true rfl) (Nat.le_of_ble_eq_true rfl) ?_
    exact r_iret2 hC hI hf dL_commonAncestor_18
theorem kl_L_commonAncestor {p : Program} {l : Launch} {e : Env} {R : Room} {cells slots : Nat} {s : State} {m : MethodId} {args : Array Value} {below : List Frame} {meth : Method} {c : Code} {H : Heap} {locs : List Loc} {Q : State → Prop} {E : En} {ad : Nat → Nat} {V : Mem} {ow : String} {b : ByteArray} {n : Nat} {ret : Option FieldType} {pc index : Nat} {ls : Array Slot} {rest : List Value} {a1 : Int32} {a2 : Int32} {r : Int32} {V1 : Mem} (hS : SF E) (hT : l.stackTraces = false) (hC : Cx p s m args c meth E ow b n ret) (hI : In E ad V s H locs) (hsz : ls.size = n) (hf : f_L_commonAncestor V a1 a2 = some (r, V1)) (hl : Cond.methodLink ow index yL_commonAncestor ∈ TB) (hR : 32 + 1 ≤ R.frames ∧ 8 + (5 + 11) + 40 * 32 ≤ R.locals) (hcs : cells + 2 ≤ R.cells ∧ slots + 12 ≤ R.slots) (hw : (rest.map fun v => v.category).sum ≤ 8) (hdg : decode b pc = .ok (.invokestatic index, 3)) (kk : ∀ (H1 : Heap) (locs1 : List Loc), In E ad V1 s H1 locs1 → W p l e R s m args below meth c H1 locs1 (cells + 2) (slots + 12) Q (F0 m (pc + 3) ls (.int r :: rest))) : W p l e R s m args below meth c H locs cells slots Q (F0 m pc ls (.ref (ad 265) :: .int a2 :: .int a1 :: .ref (ad 248) :: rest)) :=
  after_callA hI (runSW_tb (As := [.ref (ad 248), .int a1, .int a2, .ref (ad 265)]) (rest := rest) hC hI hsz (m_L_commonAncestor l hT E ad V a1 a2 hS r V1 hf) cv_L_commonAncestor hl rfl rfl hR hcs hw hdg) kk

theorem dL_commonAncestorBySets_0 : decode cL_commonAncestorBySets 0 = .ok (.aload_n 3, 1) := by decide +kernel
theorem dL_commonAncestorBySets_1 : decode cL_commonAncestorBySets 1 = .ok (.iconst 0, 1) := by decide +kernel
theorem dL_commonAncestorBySets_2 : decode cL_commonAncestorBySets 2 = .ok (.aload_n 0, 1) := by decide +kernel
theorem dL_commonAncestorBySets_3 : decode cL_commonAncestorBySets 3 = .ok (.iload_n 1, 1) := by decide +kernel
theorem dL_commonAncestorBySets_4 : decode cL_commonAncestorBySets 4 = .ok (.iload_n 2, 1) := by decide +kernel
theorem dL_commonAncestorBySets_5 : decode cL_commonAncestorBySets 5 = .ok (.invokevirtual 86, 3) := by decide +kernel
theorem dL_commonAncestorBySets_8 : decode cL_commonAncestorBySets 8 = .ok (.i2l, 1) := by decide +kernel
theorem dL_commonAncestorBySets_9 : decode cL_commonAncestorBySets 9 = .ok (.lastore, 1) := by decide +kernel
theorem dL_commonAncestorBySets_10 : decode cL_commonAncestorBySets 10 = .ok (.goto 7, 3) := by decide +kernel
theorem dL_commonAncestorBySets_13 : decode cL_commonAncestorBySets 13 = .ok (.astore 4, 2) := by decide +kernel
theorem dL_commonAncestorBySets_15 : decode cL_commonAncestorBySets 15 = .ok (.iconst 1, 1) := by decide +kernel
theorem dL_commonAncestorBySets_16 : decode cL_commonAncestorBySets 16 = .ok (.ireturn, 1) := by decide +kernel
theorem dL_commonAncestorBySets_17 : decode cL_commonAncestorBySets 17 = .ok (.iconst 0, 1) := by decide +kernel
theorem dL_commonAncestorBySets_18 : decode cL_commonAncestorBySets 18 = .ok (.ireturn, 1) := by decide +kernel
def f_L_commonAncestorBySets (V : Mem) (a1 : Int32) (a2 : Int32) : Option (Int32 × Mem) :=
  bh (f_X9_commonAncestorBySets V a1 a2) (fun q V => if q = 3 then some (1, V) else none) fun r V1 =>
  lt (stv V1 265 0 r) fun V2 => some (0, V2)
theorem cv_L_commonAncestorBySets : (yL_commonAncestorBySets.cls ≠ "java/lang/invoke/MethodHandle" ∧ yL_commonAncestorBySets.cls ≠ "java/lang/invoke/VarHandle") ∧ Cond.initialized yL_commonAncestorBySets.cls ∈ TB ∧ Cond.codeWith yL_commonAncestorBySets cL_commonAncestorBySets 5 (some .int) [(0, 10, 13, 30)] ∈ TB ∧ (parseMethodDescriptor yL_commonAncestorBySets.desc).map (fun d => d.parameters.length) = some 4 ∧ Cond.static yL_commonAncestorBySets ∈ TB := ⟨⟨by decide +kernel, by decide +kernel⟩, tw_1_0, tw_4_209, by decide +kernel, tw_4_208⟩
set_option maxRecDepth 100000 in
set_option maxHeartbeats 4000000 in
theorem m_L_commonAncestorBySets (l : Launch) (hT : l.stackTraces = false) (E : En) (ad : Nat → Nat) (V : Mem) (a1 : Int32) (a2 : Int32) (hS : SF E) (r : Int32) (Vz : Mem) (hf : f_L_commonAncestorBySets V a1 a2 = some (r, Vz)) : MW l E ad yL_commonAncestorBySets cL_commonAncestorBySets 5 (some .int) [(0, 10, 13, 30)] 8 2 12 [.ref (ad 248), .int a1, .int a2, .ref (ad 265)] V (some (.int r)) Vz := by
  refine entH (E := E) (ad := ad) (V := V) "LetterRepositoryLaw" (by decide +kernel) rfl (Nat.le_of_ble_eq_true rfl) ?_
  intro p e s m below meth c ls hC hTab hI hl
  have hx := hC.1
  have hb := hC.2.1
  have hl : lv_has ls 5 [(0, .ref (ad 248)), (1, .int a1), (2, .int a2), (3, .ref (ad 265))] := hl
  unfold f_L_commonAncestorBySets at hf
  obtain ⟨q, rr, V1, e1, hf⟩ := gbh hf
  refine lv_aload_n hx hb dL_commonAncestorBySets_0 rfl (lv_at hl 3 rfl) ?_
  refine lv_iconst (v := 0) hx hb dL_commonAncestorBySets_1 rfl ?_
  refine lv_aload_n hx hb dL_commonAncestorBySets_2 rfl (lv_at hl 0 rfl) ?_
  refine lv_iload_n hx hb dL_commonAncestorBySets_3 rfl (lv_at hl 1 rfl) ?_
  refine lv_iload_n hx hb dL_commonAncestorBySets_4 rfl (lv_at hl 2 rfl) ?_
  refine after_callH hI (xrunV_tb (As := [.int a1, .int a2]) (rest := [.int 0, .ref (ad 265)]) hC hI hl.1 (m_X9_commonAncestorBySets l hT E ad V a1 a2 hS q rr V1 e1) cv_X9_commonAncestorBySets tw_4_210 (by decide) (ce_248 _) rfl rfl rfl ⟨Nat.le_of_ble_eq_true rfl, Nat.le_of_ble_eq_true rfl⟩ ⟨Nat.le_of_ble_eq_true rfl, Nat.le_of_ble_eq_true rfl⟩ (Nat.le_of_ble_eq_true rfl) dL_commonAncestorBySets_5) (fun hq H locs q9 ce hI hcell hcv hcl => ?_) (fun hq H locs hI => ?_)
  · have hf := (if_neg hq).symm.trans hf
    rcases Decidable.em (q = 3) with c0 | c0
    · have hf := gt hf c0
      have hcl : s.vm.findClass "java/util/NoSuchElementException" = some ce.cls := by rw [c0] at hcl; exact hcl
      refine vx_catch (own := "LetterRepositoryLaw") (name := "java/util/NoSuchElementException") (E := "java/util/NoSuchElementException") hC.2.2.2.1 [] (⟨0, 10, 13, 30⟩ : ExceptionTableEntry) [] (hTab.trans rfl) (fun _ h => nomatch h) (by decide) (by decide) (hC.2.2.2.2.1 _ tw_3_209) (ot_before hC (.inr tw_3_94) (fun _ => rfl)) hcell hcv hcl ?_
      refine lv_astore (lv' := [(4, .ref q9), (0, .ref (ad 248)), (1, .int a1), (2, .int a2), (3, .ref (ad 265))]) hx hb dL_commonAncestorBySets_13 hl (Nat.lt_of_lt_of_eq (by decide) rfl) rfl (fun ls hl => ?_)
      refine lv_iconst (v := 1) hx hb dL_commonAncestorBySets_15 rfl ?_
      refine x_wid (c2 := 2) (s2 := 12) (Nat.le_of_ble_eq_true rfl) (Nat.le_of_ble_eq_true rfl) ?_
      exact r_iret2 hC hI hf dL_commonAncestorBySets_16
    have hf := gf hf c0
    cases hf
  · have hf := (if_pos hq).symm.trans hf
    refine lv_i2l (v := rr.toInt64) hx hb dL_commonAncestorBySets_8 rfl ?_
    obtain ⟨V2, e2, hf⟩ := gl hf
    refine r_last (x := rr) hC hI e2 dL_commonAncestorBySets_9 (fun H locs hI => ?_)
    refine lv_goto (tgt := 17) hx hb dL_commonAncestorBySets_10 (by decide) ?_
    refine lv_iconst (v := 0) hx hb dL_commonAncestorBySets_17 rfl ?_
    refine x_wid (c2 := 2) (s2 := 12) (Nat.le_of_ble_eq_true rfl) (Nat.le_of_ble_eq_true rfl) ?_
    exact r_iret2 hC hI hf dL_commonAncestorBySets_18
theorem kl_L_commonAncestorBySets {p : Program} {l : Launch} {e : Env} {R : Room} {cells slots : Nat} {s : State} {m : MethodId} {args : Array Value} {below : List Frame} {meth : Method} {c : Code} {H : Heap} {locs : List Loc} {Q : State → Prop} {E : En} {ad : Nat → Nat} {V : Mem} {ow : String} {b : ByteArray} {n : Nat} {ret : Option FieldType} {pc index : Nat} {ls : Array Slot} {rest : List Value} {a1 : Int32} {a2 : Int32} {r : Int32} {V1 : Mem} (hS : SF E) (hT : l.stackTraces = false) (hC : Cx p s m args c meth E ow b n ret) (hI : In E ad V s H locs) (hsz : ls.size = n) (hf : f_L_commonAncestorBySets V a1 a2 = some (r, V1)) (hl : Cond.methodLink ow index yL_commonAncestorBySets ∈ TB) (hR : 8 + 1 ≤ R.frames ∧ 8 + (5 + 11) + 40 * 8 ≤ R.locals) (hcs : cells + 2 ≤ R.cells ∧ slots + 12 ≤ R.slots) (hw : (rest.map fun v => v.category).sum ≤ 8) (hdg : decode b pc = .ok (.invokestatic index, 3)) (kk : ∀ (H1 : Heap) (locs1 : List Loc), In E ad V1 s H1 locs1 → W p l e R s m args below meth c H1 locs1 (cells + 2) (slots + 12) Q (F0 m (pc + 3) ls (.int r :: rest))) : W p l e R s m args below meth c H locs cells slots Q (F0 m pc ls (.ref (ad 265) :: .int a2 :: .int a1 :: .ref (ad 248) :: rest)) :=
  after_callA hI (runSW_tb (As := [.ref (ad 248), .int a1, .int a2, .ref (ad 265)]) (rest := rest) hC hI hsz (m_L_commonAncestorBySets l hT E ad V a1 a2 hS r V1 hf) cv_L_commonAncestorBySets hl rfl rfl hR hcs hw hdg) kk

theorem dL_distance_0 : decode cL_distance 0 = .ok (.aload_n 3, 1) := by decide +kernel
theorem dL_distance_1 : decode cL_distance 1 = .ok (.iconst 0, 1) := by decide +kernel
theorem dL_distance_2 : decode cL_distance 2 = .ok (.aload_n 0, 1) := by decide +kernel
theorem dL_distance_3 : decode cL_distance 3 = .ok (.iload_n 1, 1) := by decide +kernel
theorem dL_distance_4 : decode cL_distance 4 = .ok (.iload_n 2, 1) := by decide +kernel
theorem dL_distance_5 : decode cL_distance 5 = .ok (.invokevirtual 89, 3) := by decide +kernel
theorem dL_distance_8 : decode cL_distance 8 = .ok (.i2l, 1) := by decide +kernel
theorem dL_distance_9 : decode cL_distance 9 = .ok (.lastore, 1) := by decide +kernel
theorem dL_distance_10 : decode cL_distance 10 = .ok (.goto 7, 3) := by decide +kernel
theorem dL_distance_13 : decode cL_distance 13 = .ok (.astore 4, 2) := by decide +kernel
theorem dL_distance_15 : decode cL_distance 15 = .ok (.iconst 1, 1) := by decide +kernel
theorem dL_distance_16 : decode cL_distance 16 = .ok (.ireturn, 1) := by decide +kernel
theorem dL_distance_17 : decode cL_distance 17 = .ok (.iconst 0, 1) := by decide +kernel
theorem dL_distance_18 : decode cL_distance 18 = .ok (.ireturn, 1) := by decide +kernel
def f_L_distance (V : Mem) (a1 : Int32) (a2 : Int32) : Option (Int32 × Mem) :=
  bh (f_X9_distance V a1 a2) (fun q V => if q = 3 then some (1, V) else none) fun r V1 =>
  lt (stv V1 265 0 r) fun V2 => some (0, V2)
theorem cv_L_distance : (yL_distance.cls ≠ "java/lang/invoke/MethodHandle" ∧ yL_distance.cls ≠ "java/lang/invoke/VarHandle") ∧ Cond.initialized yL_distance.cls ∈ TB ∧ Cond.codeWith yL_distance cL_distance 5 (some .int) [(0, 10, 13, 30)] ∈ TB ∧ (parseMethodDescriptor yL_distance.desc).map (fun d => d.parameters.length) = some 4 ∧ Cond.static yL_distance ∈ TB := ⟨⟨by decide +kernel, by decide +kernel⟩, tw_1_0, tw_4_217, by decide +kernel, tw_4_216⟩
set_option maxRecDepth 100000 in
set_option maxHeartbeats 4000000 in
theorem m_L_distance (l : Launch) (hT : l.stackTraces = false) (E : En) (ad : Nat → Nat) (V : Mem) (a1 : Int32) (a2 : Int32) (hS : SF E) (r : Int32) (Vz : Mem) (hf : f_L_distance V a1 a2 = some (r, Vz)) : MW l E ad yL_distance cL_distance 5 (some .int) [(0, 10, 13, 30)] 8 2 12 [.ref (ad 248), .int a1, .int a2, .ref (ad 265)] V (some (.int r)) Vz := by
  refine entH (E := E) (ad := ad) (V := V) "LetterRepositoryLaw" (by decide +kernel) rfl (Nat.le_of_ble_eq_true rfl) ?_
  intro p e s m below meth c ls hC hTab hI hl
  have hx := hC.1
  have hb := hC.2.1
  have hl : lv_has ls 5 [(0, .ref (ad 248)), (1, .int a1), (2, .int a2), (3, .ref (ad 265))] := hl
  unfold f_L_distance at hf
  obtain ⟨q, rr, V1, e1, hf⟩ := gbh hf
  refine lv_aload_n hx hb dL_distance_0 rfl (lv_at hl 3 rfl) ?_
  refine lv_iconst (v := 0) hx hb dL_distance_1 rfl ?_
  refine lv_aload_n hx hb dL_distance_2 rfl (lv_at hl 0 rfl) ?_
  refine lv_iload_n hx hb dL_distance_3 rfl (lv_at hl 1 rfl) ?_
  refine lv_iload_n hx hb dL_distance_4 rfl (lv_at hl 2 rfl) ?_
  refine after_callH hI (xrunV_tb (As := [.int a1, .int a2]) (rest := [.int 0, .ref (ad 265)]) hC hI hl.1 (m_X9_distance l hT E ad V a1 a2 hS q rr V1 e1) cv_X9_distance tw_4_218 (by decide) (ce_248 _) rfl rfl rfl ⟨Nat.le_of_ble_eq_true rfl, Nat.le_of_ble_eq_true rfl⟩ ⟨Nat.le_of_ble_eq_true rfl, Nat.le_of_ble_eq_true rfl⟩ (Nat.le_of_ble_eq_true rfl) dL_distance_5) (fun hq H locs q9 ce hI hcell hcv hcl => ?_) (fun hq H locs hI => ?_)
  · have hf := (if_neg hq).symm.trans hf
    rcases Decidable.em (q = 3) with c0 | c0
    · have hf := gt hf c0
      have hcl : s.vm.findClass "java/util/NoSuchElementException" = some ce.cls := by rw [c0] at hcl; exact hcl
      refine vx_catch (own := "LetterRepositoryLaw") (name := "java/util/NoSuchElementException") (E := "java/util/NoSuchElementException") hC.2.2.2.1 [] (⟨0, 10, 13, 30⟩ : ExceptionTableEntry) [] (hTab.trans rfl) (fun _ h => nomatch h) (by decide) (by decide) (hC.2.2.2.2.1 _ tw_3_209) (ot_before hC (.inr tw_3_94) (fun _ => rfl)) hcell hcv hcl ?_
      refine lv_astore (lv' := [(4, .ref q9), (0, .ref (ad 248)), (1, .int a1), (2, .int a2), (3, .ref (ad 265))]) hx hb dL_distance_13 hl (Nat.lt_of_lt_of_eq (by decide) rfl) rfl (fun ls hl => ?_)
      refine lv_iconst (v := 1) hx hb dL_distance_15 rfl ?_
      refine x_wid (c2 := 2) (s2 := 12) (Nat.le_of_ble_eq_true rfl) (Nat.le_of_ble_eq_true rfl) ?_
      exact r_iret2 hC hI hf dL_distance_16
    have hf := gf hf c0
    cases hf
  · have hf := (if_pos hq).symm.trans hf
    refine lv_i2l (v := rr.toInt64) hx hb dL_distance_8 rfl ?_
    obtain ⟨V2, e2, hf⟩ := gl hf
    refine r_last (x := rr) hC hI e2 dL_distance_9 (fun H locs hI => ?_)
    refine lv_goto (tgt := 17) hx hb dL_distance_10 (by decide) ?_
    refine lv_iconst (v := 0) hx hb dL_distance_17 rfl ?_
    refine x_wid (c2 := 2) (s2 := 12) (Nat.le_of_ble_eq_true rfl) (Nat.le_of_ble_eq_true rfl) ?_
    exact r_iret2 hC hI hf dL_distance_18
theorem kl_L_distance {p : Program} {l : Launch} {e : Env} {R : Room} {cells slots : Nat} {s : State} {m : MethodId} {args : Array Value} {below : List Frame} {meth : Method} {c : Code} {H : Heap} {locs : List Loc} {Q : State → Prop} {E : En} {ad : Nat → Nat} {V : Mem} {ow : String} {b : ByteArray} {n : Nat} {ret : Option FieldType} {pc index : Nat} {ls : Array Slot} {rest : List Value} {a1 : Int32} {a2 : Int32} {r : Int32} {V1 : Mem} (hS : SF E) (hT : l.stackTraces = false) (hC : Cx p s m args c meth E ow b n ret) (hI : In E ad V s H locs) (hsz : ls.size = n) (hf : f_L_distance V a1 a2 = some (r, V1)) (hl : Cond.methodLink ow index yL_distance ∈ TB) (hR : 8 + 1 ≤ R.frames ∧ 8 + (5 + 11) + 40 * 8 ≤ R.locals) (hcs : cells + 2 ≤ R.cells ∧ slots + 12 ≤ R.slots) (hw : (rest.map fun v => v.category).sum ≤ 8) (hdg : decode b pc = .ok (.invokestatic index, 3)) (kk : ∀ (H1 : Heap) (locs1 : List Loc), In E ad V1 s H1 locs1 → W p l e R s m args below meth c H1 locs1 (cells + 2) (slots + 12) Q (F0 m (pc + 3) ls (.int r :: rest))) : W p l e R s m args below meth c H locs cells slots Q (F0 m pc ls (.ref (ad 265) :: .int a2 :: .int a1 :: .ref (ad 248) :: rest)) :=
  after_callA hI (runSW_tb (As := [.ref (ad 248), .int a1, .int a2, .ref (ad 265)]) (rest := rest) hC hI hsz (m_L_distance l hT E ad V a1 a2 hS r V1 hf) cv_L_distance hl rfl rfl hR hcs hw hdg) kk

theorem dL_differences_0 : decode cL_differences 0 = .ok (.aload_n 3, 1) := by decide +kernel
theorem dL_differences_1 : decode cL_differences 1 = .ok (.iconst 0, 1) := by decide +kernel
theorem dL_differences_2 : decode cL_differences 2 = .ok (.aload_n 0, 1) := by decide +kernel
theorem dL_differences_3 : decode cL_differences 3 = .ok (.iload_n 1, 1) := by decide +kernel
theorem dL_differences_4 : decode cL_differences 4 = .ok (.iload_n 2, 1) := by decide +kernel
theorem dL_differences_5 : decode cL_differences 5 = .ok (.invokevirtual 92, 3) := by decide +kernel
theorem dL_differences_8 : decode cL_differences 8 = .ok (.i2l, 1) := by decide +kernel
theorem dL_differences_9 : decode cL_differences 9 = .ok (.lastore, 1) := by decide +kernel
theorem dL_differences_10 : decode cL_differences 10 = .ok (.goto 7, 3) := by decide +kernel
theorem dL_differences_13 : decode cL_differences 13 = .ok (.astore 4, 2) := by decide +kernel
theorem dL_differences_15 : decode cL_differences 15 = .ok (.iconst 1, 1) := by decide +kernel
theorem dL_differences_16 : decode cL_differences 16 = .ok (.ireturn, 1) := by decide +kernel
theorem dL_differences_17 : decode cL_differences 17 = .ok (.iconst 0, 1) := by decide +kernel
theorem dL_differences_18 : decode cL_differences 18 = .ok (.ireturn, 1) := by decide +kernel
def f_L_differences (V : Mem) (a1 : Int32) (a2 : Int32) : Option (Int32 × Mem) :=
  bh (f_X9_differences V a1 a2) (fun q V => if q = 3 then some (1, V) else none) fun r V1 =>
  lt (stv V1 265 0 r) fun V2 => some (0, V2)
theorem cv_L_differences : (yL_differences.cls ≠ "java/lang/invoke/MethodHandle" ∧ yL_differences.cls ≠ "java/lang/invoke/VarHandle") ∧ Cond.initialized yL_differences.cls ∈ TB ∧ Cond.codeWith yL_differences cL_differences 5 (some .int) [(0, 10, 13, 30)] ∈ TB ∧ (parseMethodDescriptor yL_differences.desc).map (fun d => d.parameters.length) = some 4 ∧ Cond.static yL_differences ∈ TB := ⟨⟨by decide +kernel, by decide +kernel⟩, tw_1_0, tw_4_232, by decide +kernel, tw_4_231⟩
set_option maxRecDepth 100000 in
set_option maxHeartbeats 4000000 in
theorem m_L_differences (l : Launch) (hT : l.stackTraces = false) (E : En) (ad : Nat → Nat) (V : Mem) (a1 : Int32) (a2 : Int32) (hS : SF E) (r : Int32) (Vz : Mem) (hf : f_L_differences V a1 a2 = some (r, Vz)) : MW l E ad yL_differences cL_differences 5 (some .int) [(0, 10, 13, 30)] 8 2 12 [.ref (ad 248), .int a1, .int a2, .ref (ad 265)] V (some (.int r)) Vz := by
  refine entH (E := E) (ad := ad) (V := V) "LetterRepositoryLaw" (by decide +kernel) rfl (Nat.le_of_ble_eq_true rfl) ?_
  intro p e s m below meth c ls hC hTab hI hl
  have hx := hC.1
  have hb := hC.2.1
  have hl : lv_has ls 5 [(0, .ref (ad 248)), (1, .int a1), (2, .int a2), (3, .ref (ad 265))] := hl
  unfold f_L_differences at hf
  obtain ⟨q, rr, V1, e1, hf⟩ := gbh hf
  refine lv_aload_n hx hb dL_differences_0 rfl (lv_at hl 3 rfl) ?_
  refine lv_iconst (v := 0) hx hb dL_differences_1 rfl ?_
  refine lv_aload_n hx hb dL_differences_2 rfl (lv_at hl 0 rfl) ?_
  refine lv_iload_n hx hb dL_differences_3 rfl (lv_at hl 1 rfl) ?_
  refine lv_iload_n hx hb dL_differences_4 rfl (lv_at hl 2 rfl) ?_
  refine after_callH hI (xrunV_tb (As := [.int a1, .int a2]) (rest := [.int 0, .ref (ad 265)]) hC hI hl.1 (m_X9_differences l hT E ad V a1 a2 hS q rr V1 e1) cv_X9_differences tw_4_233 (by decide) (ce_248 _) rfl rfl rfl ⟨Nat.le_of_ble_eq_true rfl, Nat.le_of_ble_eq_true rfl⟩ ⟨Nat.le_of_ble_eq_true rfl, Nat.le_of_ble_eq_true rfl⟩ (Nat.le_of_ble_eq_true rfl) dL_differences_5) (fun hq H locs q9 ce hI hcell hcv hcl => ?_) (fun hq H locs hI => ?_)
  · have hf := (if_neg hq).symm.trans hf
    rcases Decidable.em (q = 3) with c0 | c0
    · have hf := gt hf c0
      have hcl : s.vm.findClass "java/util/NoSuchElementException" = some ce.cls := by rw [c0] at hcl; exact hcl
      refine vx_catch (own := "LetterRepositoryLaw") (name := "java/util/NoSuchElementException") (E := "java/util/NoSuchElementException") hC.2.2.2.1 [] (⟨0, 10, 13, 30⟩ : ExceptionTableEntry) [] (hTab.trans rfl) (fun _ h => nomatch h) (by decide) (by decide) (hC.2.2.2.2.1 _ tw_3_209) (ot_before hC (.inr tw_3_94) (fun _ => rfl)) hcell hcv hcl ?_
      refine lv_astore (lv' := [(4, .ref q9), (0, .ref (ad 248)), (1, .int a1), (2, .int a2), (3, .ref (ad 265))]) hx hb dL_differences_13 hl (Nat.lt_of_lt_of_eq (by decide) rfl) rfl (fun ls hl => ?_)
      refine lv_iconst (v := 1) hx hb dL_differences_15 rfl ?_
      refine x_wid (c2 := 2) (s2 := 12) (Nat.le_of_ble_eq_true rfl) (Nat.le_of_ble_eq_true rfl) ?_
      exact r_iret2 hC hI hf dL_differences_16
    have hf := gf hf c0
    cases hf
  · have hf := (if_pos hq).symm.trans hf
    refine lv_i2l (v := rr.toInt64) hx hb dL_differences_8 rfl ?_
    obtain ⟨V2, e2, hf⟩ := gl hf
    refine r_last (x := rr) hC hI e2 dL_differences_9 (fun H locs hI => ?_)
    refine lv_goto (tgt := 17) hx hb dL_differences_10 (by decide) ?_
    refine lv_iconst (v := 0) hx hb dL_differences_17 rfl ?_
    refine x_wid (c2 := 2) (s2 := 12) (Nat.le_of_ble_eq_true rfl) (Nat.le_of_ble_eq_true rfl) ?_
    exact r_iret2 hC hI hf dL_differences_18
theorem kl_L_differences {p : Program} {l : Launch} {e : Env} {R : Room} {cells slots : Nat} {s : State} {m : MethodId} {args : Array Value} {below : List Frame} {meth : Method} {c : Code} {H : Heap} {locs : List Loc} {Q : State → Prop} {E : En} {ad : Nat → Nat} {V : Mem} {ow : String} {b : ByteArray} {n : Nat} {ret : Option FieldType} {pc index : Nat} {ls : Array Slot} {rest : List Value} {a1 : Int32} {a2 : Int32} {r : Int32} {V1 : Mem} (hS : SF E) (hT : l.stackTraces = false) (hC : Cx p s m args c meth E ow b n ret) (hI : In E ad V s H locs) (hsz : ls.size = n) (hf : f_L_differences V a1 a2 = some (r, V1)) (hl : Cond.methodLink ow index yL_differences ∈ TB) (hR : 8 + 1 ≤ R.frames ∧ 8 + (5 + 11) + 40 * 8 ≤ R.locals) (hcs : cells + 2 ≤ R.cells ∧ slots + 12 ≤ R.slots) (hw : (rest.map fun v => v.category).sum ≤ 8) (hdg : decode b pc = .ok (.invokestatic index, 3)) (kk : ∀ (H1 : Heap) (locs1 : List Loc), In E ad V1 s H1 locs1 → W p l e R s m args below meth c H1 locs1 (cells + 2) (slots + 12) Q (F0 m (pc + 3) ls (.int r :: rest))) : W p l e R s m args below meth c H locs cells slots Q (F0 m pc ls (.ref (ad 265) :: .int a2 :: .int a1 :: .ref (ad 248) :: rest)) :=
  after_callA hI (runSW_tb (As := [.ref (ad 248), .int a1, .int a2, .ref (ad 265)]) (rest := rest) hC hI hsz (m_L_differences l hT E ad V a1 a2 hS r V1 hf) cv_L_differences hl rfl rfl hR hcs hw hdg) kk

theorem dL_originOf_0 : decode cL_originOf 0 = .ok (.aload_n 3, 1) := by decide +kernel
theorem dL_originOf_1 : decode cL_originOf 1 = .ok (.iconst 0, 1) := by decide +kernel
theorem dL_originOf_2 : decode cL_originOf 2 = .ok (.aload_n 0, 1) := by decide +kernel
theorem dL_originOf_3 : decode cL_originOf 3 = .ok (.iload_n 1, 1) := by decide +kernel
theorem dL_originOf_4 : decode cL_originOf 4 = .ok (.iload_n 2, 1) := by decide +kernel
theorem dL_originOf_5 : decode cL_originOf 5 = .ok (.invokevirtual 95, 3) := by decide +kernel
theorem dL_originOf_8 : decode cL_originOf 8 = .ok (.i2l, 1) := by decide +kernel
theorem dL_originOf_9 : decode cL_originOf 9 = .ok (.lastore, 1) := by decide +kernel
theorem dL_originOf_10 : decode cL_originOf 10 = .ok (.goto 11, 3) := by decide +kernel
theorem dL_originOf_13 : decode cL_originOf 13 = .ok (.astore 4, 2) := by decide +kernel
theorem dL_originOf_15 : decode cL_originOf 15 = .ok (.iconst 1, 1) := by decide +kernel
theorem dL_originOf_16 : decode cL_originOf 16 = .ok (.ireturn, 1) := by decide +kernel
theorem dL_originOf_17 : decode cL_originOf 17 = .ok (.astore 4, 2) := by decide +kernel
theorem dL_originOf_19 : decode cL_originOf 19 = .ok (.iconst 2, 1) := by decide +kernel
theorem dL_originOf_20 : decode cL_originOf 20 = .ok (.ireturn, 1) := by decide +kernel
theorem dL_originOf_21 : decode cL_originOf 21 = .ok (.iconst 0, 1) := by decide +kernel
theorem dL_originOf_22 : decode cL_originOf 22 = .ok (.ireturn, 1) := by decide +kernel
def f_L_originOf (V : Mem) (a1 : Int32) (a2 : Int32) : Option (Int32 × Mem) :=
  bh (f_X9_originOf V a1 a2) (fun q V => if q = 3 then some (1, V) else if q = 1 then some (2, V) else none) fun r V1 =>
  lt (stv V1 265 0 r) fun V2 => some (0, V2)
theorem cv_L_originOf : (yL_originOf.cls ≠ "java/lang/invoke/MethodHandle" ∧ yL_originOf.cls ≠ "java/lang/invoke/VarHandle") ∧ Cond.initialized yL_originOf.cls ∈ TB ∧ Cond.codeWith yL_originOf cL_originOf 5 (some .int) [(0, 10, 13, 30), (0, 10, 17, 13)] ∈ TB ∧ (parseMethodDescriptor yL_originOf.desc).map (fun d => d.parameters.length) = some 4 ∧ Cond.static yL_originOf ∈ TB := ⟨⟨by decide +kernel, by decide +kernel⟩, tw_1_0, tw_5_3, by decide +kernel, tw_5_2⟩
set_option maxRecDepth 100000 in
set_option maxHeartbeats 4000000 in
theorem m_L_originOf (l : Launch) (hT : l.stackTraces = false) (E : En) (ad : Nat → Nat) (V : Mem) (a1 : Int32) (a2 : Int32) (hS : SF E) (r : Int32) (Vz : Mem) (hf : f_L_originOf V a1 a2 = some (r, Vz)) : MW l E ad yL_originOf cL_originOf 5 (some .int) [(0, 10, 13, 30), (0, 10, 17, 13)] 8 2 12 [.ref (ad 248), .int a1, .int a2, .ref (ad 265)] V (some (.int r)) Vz := by
  refine entH (E := E) (ad := ad) (V := V) "LetterRepositoryLaw" (by decide +kernel) rfl (Nat.le_of_ble_eq_true rfl) ?_
  intro p e s m below meth c ls hC hTab hI hl
  have hx := hC.1
  have hb := hC.2.1
  have hl : lv_has ls 5 [(0, .ref (ad 248)), (1, .int a1), (2, .int a2), (3, .ref (ad 265))] := hl
  unfold f_L_originOf at hf
  obtain ⟨q, rr, V1, e1, hf⟩ := gbh hf
  refine lv_aload_n hx hb dL_originOf_0 rfl (lv_at hl 3 rfl) ?_
  refine lv_iconst (v := 0) hx hb dL_originOf_1 rfl ?_
  refine lv_aload_n hx hb dL_originOf_2 rfl (lv_at hl 0 rfl) ?_
  refine lv_iload_n hx hb dL_originOf_3 rfl (lv_at hl 1 rfl) ?_
  refine lv_iload_n hx hb dL_originOf_4 rfl (lv_at hl 2 rfl) ?_
  refine after_callH hI (xrunV_tb (As := [.int a1, .int a2]) (rest := [.int 0, .ref (ad 265)]) hC hI hl.1 (m_X9_originOf l hT E ad V a1 a2 hS q rr V1 e1) cv_X9_originOf tw_5_4 (by decide) (ce_248 _) rfl rfl rfl ⟨Nat.le_of_ble_eq_true rfl, Nat.le_of_ble_eq_true rfl⟩ ⟨Nat.le_of_ble_eq_true rfl, Nat.le_of_ble_eq_true rfl⟩ (Nat.le_of_ble_eq_true rfl) dL_originOf_5) (fun hq H locs q9 ce hI hcell hcv hcl => ?_) (fun hq H locs hI => ?_)
  · have hf := (if_neg hq).symm.trans hf
    rcases Decidable.em (q = 3) with c0 | c0
    · have hf := gt hf c0
      have hcl : s.vm.findClass "java/util/NoSuchElementException" = some ce.cls := by rw [c0] at hcl; exact hcl
      refine vx_catch (own := "LetterRepositoryLaw") (name := "java/util/NoSuchElementException") (E := "java/util/NoSuchElementException") hC.2.2.2.1 [] (⟨0, 10, 13, 30⟩ : ExceptionTableEntry) [(⟨0, 10, 17, 13⟩ : ExceptionTableEntry)] (hTab.trans rfl) (fun _ h => nomatch h) (by decide) (by decide) (hC.2.2.2.2.1 _ tw_3_209) (ot_before hC (.inr tw_3_94) (fun _ => rfl)) hcell hcv hcl ?_
      refine lv_astore (lv' := [(4, .ref q9), (0, .ref (ad 248)), (1, .int a1), (2, .int a2), (3, .ref (ad 265))]) hx hb dL_originOf_13 hl (Nat.lt_of_lt_of_eq (by decide) rfl) rfl (fun ls hl => ?_)
      refine lv_iconst (v := 1) hx hb dL_originOf_15 rfl ?_
      refine x_wid (c2 := 2) (s2 := 12) (Nat.le_of_ble_eq_true rfl) (Nat.le_of_ble_eq_true rfl) ?_
      exact r_iret2 hC hI hf dL_originOf_16
    have hf := gf hf c0
    rcases Decidable.em (q = 1) with c1 | c1
    · have hf := gt hf c1
      have hcl : s.vm.findClass "java/lang/IndexOutOfBoundsException" = some ce.cls := by rw [c1] at hcl; exact hcl
      refine vx_catch (own := "LetterRepositoryLaw") (name := "java/lang/IndexOutOfBoundsException") (E := "java/lang/IndexOutOfBoundsException") hC.2.2.2.1 [(⟨0, 10, 13, 30⟩ : ExceptionTableEntry)] (⟨0, 10, 17, 13⟩ : ExceptionTableEntry) [] (hTab.trans rfl) (fun z hz => by
      rcases List.mem_cons.mp hz with rfl | hz
      · exact .inr ⟨by decide, "java/util/NoSuchElementException", hC.2.2.2.2.1 _ tw_3_209, nc_of hS hC List.mem_cons_self (List.mem_cons_of_mem _ (List.mem_cons_of_mem _ List.mem_cons_self)) (by decide)⟩
      exact absurd hz List.not_mem_nil) (by decide) (by decide) (hC.2.2.2.2.1 _ tw_2_213) (ot_before hC (.inr tw_3_5) (fun _ => rfl)) hcell hcv hcl ?_
      refine lv_astore (lv' := [(4, .ref q9), (0, .ref (ad 248)), (1, .int a1), (2, .int a2), (3, .ref (ad 265))]) hx hb dL_originOf_17 hl (Nat.lt_of_lt_of_eq (by decide) rfl) rfl (fun ls hl => ?_)
      refine lv_iconst (v := 2) hx hb dL_originOf_19 rfl ?_
      refine x_wid (c2 := 2) (s2 := 12) (Nat.le_of_ble_eq_true rfl) (Nat.le_of_ble_eq_true rfl) ?_
      exact r_iret2 hC hI hf dL_originOf_20
    have hf := gf hf c1
    cases hf
  · have hf := (if_pos hq).symm.trans hf
    refine lv_i2l (v := rr.toInt64) hx hb dL_originOf_8 rfl ?_
    obtain ⟨V2, e2, hf⟩ := gl hf
    refine r_last (x := rr) hC hI e2 dL_originOf_9 (fun H locs hI => ?_)
    refine lv_goto (tgt := 21) hx hb dL_originOf_10 (by decide) ?_
    refine lv_iconst (v := 0) hx hb dL_originOf_21 rfl ?_
    refine x_wid (c2 := 2) (s2 := 12) (Nat.le_of_ble_eq_true rfl) (Nat.le_of_ble_eq_true rfl) ?_
    exact r_iret2 hC hI hf dL_originOf_22
theorem kl_L_originOf {p : Program} {l : Launch} {e : Env} {R : Room} {cells slots : Nat} {s : State} {m : MethodId} {args : Array Value} {below : List Frame} {meth : Method} {c : Code} {H : Heap} {locs : List Loc} {Q : State → Prop} {E : En} {ad : Nat → Nat} {V : Mem} {ow : String} {b : ByteArray} {n : Nat} {ret : Option FieldType} {pc index : Nat} {ls : Array Slot} {rest : List Value} {a1 : Int32} {a2 : Int32} {r : Int32} {V1 : Mem} (hS : SF E) (hT : l.stackTraces = false) (hC : Cx p s m args c meth E ow b n ret) (hI : In E ad V s H locs) (hsz : ls.size = n) (hf : f_L_originOf V a1 a2 = some (r, V1)) (hl : Cond.methodLink ow index yL_originOf ∈ TB) (hR : 8 + 1 ≤ R.frames ∧ 8 + (5 + 11) + 40 * 8 ≤ R.locals) (hcs : cells + 2 ≤ R.cells ∧ slots + 12 ≤ R.slots) (hw : (rest.map fun v => v.category).sum ≤ 8) (hdg : decode b pc = .ok (.invokestatic index, 3)) (kk : ∀ (H1 : Heap) (locs1 : List Loc), In E ad V1 s H1 locs1 → W p l e R s m args below meth c H1 locs1 (cells + 2) (slots + 12) Q (F0 m (pc + 3) ls (.int r :: rest))) : W p l e R s m args below meth c H locs cells slots Q (F0 m pc ls (.ref (ad 265) :: .int a2 :: .int a1 :: .ref (ad 248) :: rest)) :=
  after_callA hI (runSW_tb (As := [.ref (ad 248), .int a1, .int a2, .ref (ad 265)]) (rest := rest) hC hI hsz (m_L_originOf l hT E ad V a1 a2 hS r V1 hf) cv_L_originOf hl rfl rfl hR hcs hw hdg) kk

theorem dL_originByRecursion_0 : decode cL_originByRecursion 0 = .ok (.aload_n 3, 1) := by decide +kernel
theorem dL_originByRecursion_1 : decode cL_originByRecursion 1 = .ok (.iconst 0, 1) := by decide +kernel
theorem dL_originByRecursion_2 : decode cL_originByRecursion 2 = .ok (.aload_n 0, 1) := by decide +kernel
theorem dL_originByRecursion_3 : decode cL_originByRecursion 3 = .ok (.iload_n 1, 1) := by decide +kernel
theorem dL_originByRecursion_4 : decode cL_originByRecursion 4 = .ok (.iload_n 2, 1) := by decide +kernel
theorem dL_originByRecursion_5 : decode cL_originByRecursion 5 = .ok (.invokevirtual 98, 3) := by decide +kernel
theorem dL_originByRecursion_8 : decode cL_originByRecursion 8 = .ok (.i2l, 1) := by decide +kernel
theorem dL_originByRecursion_9 : decode cL_originByRecursion 9 = .ok (.lastore, 1) := by decide +kernel
theorem dL_originByRecursion_10 : decode cL_originByRecursion 10 = .ok (.goto 11, 3) := by decide +kernel
theorem dL_originByRecursion_13 : decode cL_originByRecursion 13 = .ok (.astore 4, 2) := by decide +kernel
theorem dL_originByRecursion_15 : decode cL_originByRecursion 15 = .ok (.iconst 1, 1) := by decide +kernel
theorem dL_originByRecursion_16 : decode cL_originByRecursion 16 = .ok (.ireturn, 1) := by decide +kernel
theorem dL_originByRecursion_17 : decode cL_originByRecursion 17 = .ok (.astore 4, 2) := by decide +kernel
theorem dL_originByRecursion_19 : decode cL_originByRecursion 19 = .ok (.iconst 2, 1) := by decide +kernel
theorem dL_originByRecursion_20 : decode cL_originByRecursion 20 = .ok (.ireturn, 1) := by decide +kernel
theorem dL_originByRecursion_21 : decode cL_originByRecursion 21 = .ok (.iconst 0, 1) := by decide +kernel
theorem dL_originByRecursion_22 : decode cL_originByRecursion 22 = .ok (.ireturn, 1) := by decide +kernel
def f_L_originByRecursion (V : Mem) (a1 : Int32) (a2 : Int32) : Option (Int32 × Mem) :=
  bh (f_X9_originByRecursion V a1 a2) (fun q V => if q = 3 then some (1, V) else if q = 1 then some (2, V) else none) fun r V1 =>
  lt (stv V1 265 0 r) fun V2 => some (0, V2)
theorem cv_L_originByRecursion : (yL_originByRecursion.cls ≠ "java/lang/invoke/MethodHandle" ∧ yL_originByRecursion.cls ≠ "java/lang/invoke/VarHandle") ∧ Cond.initialized yL_originByRecursion.cls ∈ TB ∧ Cond.codeWith yL_originByRecursion cL_originByRecursion 5 (some .int) [(0, 10, 13, 30), (0, 10, 17, 13)] ∈ TB ∧ (parseMethodDescriptor yL_originByRecursion.desc).map (fun d => d.parameters.length) = some 4 ∧ Cond.static yL_originByRecursion ∈ TB := ⟨⟨by decide +kernel, by decide +kernel⟩, tw_1_0, tw_5_11, by decide +kernel, tw_5_10⟩
set_option maxRecDepth 100000 in
set_option maxHeartbeats 4000000 in
theorem m_L_originByRecursion (l : Launch) (hT : l.stackTraces = false) (E : En) (ad : Nat → Nat) (V : Mem) (a1 : Int32) (a2 : Int32) (hS : SF E) (r : Int32) (Vz : Mem) (hf : f_L_originByRecursion V a1 a2 = some (r, Vz)) : MW l E ad yL_originByRecursion cL_originByRecursion 5 (some .int) [(0, 10, 13, 30), (0, 10, 17, 13)] 32 2 12 [.ref (ad 248), .int a1, .int a2, .ref (ad 265)] V (some (.int r)) Vz := by
  refine entH (E := E) (ad := ad) (V := V) "LetterRepositoryLaw" (by decide +kernel) rfl (Nat.le_of_ble_eq_true rfl) ?_
  intro p e s m below meth c ls hC hTab hI hl
  have hx := hC.1
  have hb := hC.2.1
  have hl : lv_has ls 5 [(0, .ref (ad 248)), (1, .int a1), (2, .int a2), (3, .ref (ad 265))] := hl
  unfold f_L_originByRecursion at hf
  obtain ⟨q, rr, V1, e1, hf⟩ := gbh hf
  refine lv_aload_n hx hb dL_originByRecursion_0 rfl (lv_at hl 3 rfl) ?_
  refine lv_iconst (v := 0) hx hb dL_originByRecursion_1 rfl ?_
  refine lv_aload_n hx hb dL_originByRecursion_2 rfl (lv_at hl 0 rfl) ?_
  refine lv_iload_n hx hb dL_originByRecursion_3 rfl (lv_at hl 1 rfl) ?_
  refine lv_iload_n hx hb dL_originByRecursion_4 rfl (lv_at hl 2 rfl) ?_
  refine after_callH hI (xrunV_tb (As := [.int a1, .int a2]) (rest := [.int 0, .ref (ad 265)]) hC hI hl.1 (m_X9_originByRecursion l hT E ad V a1 a2 hS q rr V1 e1) cv_X9_originByRecursion tw_5_12 (by decide) (ce_248 _) rfl rfl rfl ⟨Nat.le_of_ble_eq_true rfl, Nat.le_of_ble_eq_true rfl⟩ ⟨Nat.le_of_ble_eq_true rfl, Nat.le_of_ble_eq_true rfl⟩ (Nat.le_of_ble_eq_true rfl) dL_originByRecursion_5) (fun hq H locs q9 ce hI hcell hcv hcl => ?_) (fun hq H locs hI => ?_)
  · have hf := (if_neg hq).symm.trans hf
    rcases Decidable.em (q = 3) with c0 | c0
    · have hf := gt hf c0
      have hcl : s.vm.findClass "java/util/NoSuchElementException" = some ce.cls := by rw [c0] at hcl; exact hcl
      refine vx_catch (own := "LetterRepositoryLaw") (name := "java/util/NoSuchElementException") (E := "java/util/NoSuchElementException") hC.2.2.2.1 [] (⟨0, 10, 13, 30⟩ : ExceptionTableEntry) [(⟨0, 10, 17, 13⟩ : ExceptionTableEntry)] (hTab.trans rfl) (fun _ h => nomatch h) (by decide) (by decide) (hC.2.2.2.2.1 _ tw_3_209) (ot_before hC (.inr tw_3_94) (fun _ => rfl)) hcell hcv hcl ?_
      refine lv_astore (lv' := [(4, .ref q9), (0, .ref (ad 248)), (1, .int a1), (2, .int a2), (3, .ref (ad 265))]) hx hb dL_originByRecursion_13 hl (Nat.lt_of_lt_of_eq (by decide) rfl) rfl (fun ls hl => ?_)
      refine lv_iconst (v := 1) hx hb dL_originByRecursion_15 rfl ?_
      refine x_wid (c2 := 2) (s2 := 12) (Nat.le_of_ble_eq_true rfl) (Nat.le_of_ble_eq_true rfl) ?_
      exact r_iret2 hC hI hf dL_originByRecursion_16
    have hf := gf hf c0
    rcases Decidable.em (q = 1) with c1 | c1
    · have hf := gt hf c1
      have hcl : s.vm.findClass "java/lang/IndexOutOfBoundsException" = some ce.cls := by rw [c1] at hcl; exact hcl
      refine vx_catch (own := "LetterRepositoryLaw") (name := "java/lang/IndexOutOfBoundsException") (E := "java/lang/IndexOutOfBoundsException") hC.2.2.2.1 [(⟨0, 10, 13, 30⟩ : ExceptionTableEntry)] (⟨0, 10, 17, 13⟩ : ExceptionTableEntry) [] (hTab.trans rfl) (fun z hz => by
      rcases List.mem_cons.mp hz with rfl | hz
      · exact .inr ⟨by decide, "java/util/NoSuchElementException", hC.2.2.2.2.1 _ tw_3_209, nc_of hS hC List.mem_cons_self (List.mem_cons_of_mem _ (List.mem_cons_of_mem _ List.mem_cons_self)) (by decide)⟩
      exact absurd hz List.not_mem_nil) (by decide) (by decide) (hC.2.2.2.2.1 _ tw_2_213) (ot_before hC (.inr tw_3_5) (fun _ => rfl)) hcell hcv hcl ?_
      refine lv_astore (lv' := [(4, .ref q9), (0, .ref (ad 248)), (1, .int a1), (2, .int a2), (3, .ref (ad 265))]) hx hb dL_originByRecursion_17 hl (Nat.lt_of_lt_of_eq (by decide) rfl) rfl (fun ls hl => ?_)
      refine lv_iconst (v := 2) hx hb dL_originByRecursion_19 rfl ?_
      refine x_wid (c2 := 2) (s2 := 12) (Nat.le_of_ble_eq_true rfl) (Nat.le_of_ble_eq_true rfl) ?_
      exact r_iret2 hC hI hf dL_originByRecursion_20
    have hf := gf hf c1
    cases hf
  · have hf := (if_pos hq).symm.trans hf
    refine lv_i2l (v := rr.toInt64) hx hb dL_originByRecursion_8 rfl ?_
    obtain ⟨V2, e2, hf⟩ := gl hf
    refine r_last (x := rr) hC hI e2 dL_originByRecursion_9 (fun H locs hI => ?_)
    refine lv_goto (tgt := 21) hx hb dL_originByRecursion_10 (by decide) ?_
    refine lv_iconst (v := 0) hx hb dL_originByRecursion_21 rfl ?_
    refine x_wid (c2 := 2) (s2 := 12) (Nat.le_of_ble_eq_true rfl) (Nat.le_of_ble_eq_true rfl) ?_
    exact r_iret2 hC hI hf dL_originByRecursion_22
theorem kl_L_originByRecursion {p : Program} {l : Launch} {e : Env} {R : Room} {cells slots : Nat} {s : State} {m : MethodId} {args : Array Value} {below : List Frame} {meth : Method} {c : Code} {H : Heap} {locs : List Loc} {Q : State → Prop} {E : En} {ad : Nat → Nat} {V : Mem} {ow : String} {b : ByteArray} {n : Nat} {ret : Option FieldType} {pc index : Nat} {ls : Array Slot} {rest : List Value} {a1 : Int32} {a2 : Int32} {r : Int32} {V1 : Mem} (hS : SF E) (hT : l.stackTraces = false) (hC : Cx p s m args c meth E ow b n ret) (hI : In E ad V s H locs) (hsz : ls.size = n) (hf : f_L_originByRecursion V a1 a2 = some (r, V1)) (hl : Cond.methodLink ow index yL_originByRecursion ∈ TB) (hR : 32 + 1 ≤ R.frames ∧ 8 + (5 + 11) + 40 * 32 ≤ R.locals) (hcs : cells + 2 ≤ R.cells ∧ slots + 12 ≤ R.slots) (hw : (rest.map fun v => v.category).sum ≤ 8) (hdg : decode b pc = .ok (.invokestatic index, 3)) (kk : ∀ (H1 : Heap) (locs1 : List Loc), In E ad V1 s H1 locs1 → W p l e R s m args below meth c H1 locs1 (cells + 2) (slots + 12) Q (F0 m (pc + 3) ls (.int r :: rest))) : W p l e R s m args below meth c H locs cells slots Q (F0 m pc ls (.ref (ad 265) :: .int a2 :: .int a1 :: .ref (ad 248) :: rest)) :=
  after_callA hI (runSW_tb (As := [.ref (ad 248), .int a1, .int a2, .ref (ad 265)]) (rest := rest) hC hI hsz (m_L_originByRecursion l hT E ad V a1 a2 hS r V1 hf) cv_L_originByRecursion hl rfl rfl hR hcs hw hdg) kk

theorem dL_revisionsBy_0 : decode cL_revisionsBy 0 = .ok (.aload_n 2, 1) := by decide +kernel
theorem dL_revisionsBy_1 : decode cL_revisionsBy 1 = .ok (.iconst 0, 1) := by decide +kernel
theorem dL_revisionsBy_2 : decode cL_revisionsBy 2 = .ok (.aload_n 0, 1) := by decide +kernel
theorem dL_revisionsBy_3 : decode cL_revisionsBy 3 = .ok (.iload_n 1, 1) := by decide +kernel
theorem dL_revisionsBy_4 : decode cL_revisionsBy 4 = .ok (.invokevirtual 101, 3) := by decide +kernel
theorem dL_revisionsBy_7 : decode cL_revisionsBy 7 = .ok (.i2l, 1) := by decide +kernel
theorem dL_revisionsBy_8 : decode cL_revisionsBy 8 = .ok (.lastore, 1) := by decide +kernel
theorem dL_revisionsBy_9 : decode cL_revisionsBy 9 = .ok (.goto 6, 3) := by decide +kernel
theorem dL_revisionsBy_12 : decode cL_revisionsBy 12 = .ok (.astore_n 3, 1) := by decide +kernel
theorem dL_revisionsBy_13 : decode cL_revisionsBy 13 = .ok (.iconst 1, 1) := by decide +kernel
theorem dL_revisionsBy_14 : decode cL_revisionsBy 14 = .ok (.ireturn, 1) := by decide +kernel
theorem dL_revisionsBy_15 : decode cL_revisionsBy 15 = .ok (.iconst 0, 1) := by decide +kernel
theorem dL_revisionsBy_16 : decode cL_revisionsBy 16 = .ok (.ireturn, 1) := by decide +kernel
def f_L_revisionsBy (V : Mem) (a1 : Int32) : Option (Int32 × Mem) :=
  bh (f_X9_revisionsBy V a1) (fun q V => if q = 2 then some (1, V) else none) fun r V1 =>
  lt (stv V1 265 0 r) fun V2 => some (0, V2)
theorem cv_L_revisionsBy : (yL_revisionsBy.cls ≠ "java/lang/invoke/MethodHandle" ∧ yL_revisionsBy.cls ≠ "java/lang/invoke/VarHandle") ∧ Cond.initialized yL_revisionsBy.cls ∈ TB ∧ Cond.codeWith yL_revisionsBy cL_revisionsBy 4 (some .int) [(0, 9, 12, 15)] ∈ TB ∧ (parseMethodDescriptor yL_revisionsBy.desc).map (fun d => d.parameters.length) = some 3 ∧ Cond.static yL_revisionsBy ∈ TB := ⟨⟨by decide +kernel, by decide +kernel⟩, tw_1_0, tw_5_19, by decide +kernel, tw_5_18⟩
set_option maxRecDepth 100000 in
set_option maxHeartbeats 4000000 in
theorem m_L_revisionsBy (l : Launch) (hT : l.stackTraces = false) (E : En) (ad : Nat → Nat) (V : Mem) (a1 : Int32) (hS : SF E) (r : Int32) (Vz : Mem) (hf : f_L_revisionsBy V a1 = some (r, Vz)) : MW l E ad yL_revisionsBy cL_revisionsBy 4 (some .int) [(0, 9, 12, 15)] 7 1 6 [.ref (ad 248), .int a1, .ref (ad 265)] V (some (.int r)) Vz := by
  refine entH (E := E) (ad := ad) (V := V) "LetterRepositoryLaw" (by decide +kernel) rfl (Nat.le_of_ble_eq_true rfl) ?_
  intro p e s m below meth c ls hC hTab hI hl
  have hx := hC.1
  have hb := hC.2.1
  have hl : lv_has ls 4 [(0, .ref (ad 248)), (1, .int a1), (2, .ref (ad 265))] := hl
  unfold f_L_revisionsBy at hf
  obtain ⟨q, rr, V1, e1, hf⟩ := gbh hf
  refine lv_aload_n hx hb dL_revisionsBy_0 rfl (lv_at hl 2 rfl) ?_
  refine lv_iconst (v := 0) hx hb dL_revisionsBy_1 rfl ?_
  refine lv_aload_n hx hb dL_revisionsBy_2 rfl (lv_at hl 0 rfl) ?_
  refine lv_iload_n hx hb dL_revisionsBy_3 rfl (lv_at hl 1 rfl) ?_
  refine after_callH hI (xrunV_tb (As := [.int a1]) (rest := [.int 0, .ref (ad 265)]) hC hI hl.1 (m_X9_revisionsBy l hT E ad V a1 hS q rr V1 e1) cv_X9_revisionsBy tw_5_20 (by decide) (ce_248 _) rfl rfl rfl ⟨Nat.le_of_ble_eq_true rfl, Nat.le_of_ble_eq_true rfl⟩ ⟨Nat.le_of_ble_eq_true rfl, Nat.le_of_ble_eq_true rfl⟩ (Nat.le_of_ble_eq_true rfl) dL_revisionsBy_4) (fun hq H locs q9 ce hI hcell hcv hcl => ?_) (fun hq H locs hI => ?_)
  · have hf := (if_neg hq).symm.trans hf
    rcases Decidable.em (q = 2) with c0 | c0
    · have hf := gt hf c0
      have hcl : s.vm.findClass "java/lang/IllegalArgumentException" = some ce.cls := by rw [c0] at hcl; exact hcl
      refine vx_catch (own := "LetterRepositoryLaw") (name := "java/lang/IllegalArgumentException") (E := "java/lang/IllegalArgumentException") hC.2.2.2.1 [] (⟨0, 9, 12, 15⟩ : ExceptionTableEntry) [] (hTab.trans rfl) (fun _ h => nomatch h) (by decide) (by decide) (hC.2.2.2.2.1 _ tw_2_214) (ot_before hC (.inr tw_3_76) (fun _ => rfl)) hcell hcv hcl ?_
      refine lv_astore_n (lv' := [(3, .ref q9), (0, .ref (ad 248)), (1, .int a1), (2, .ref (ad 265))]) hx hb dL_revisionsBy_12 rfl hl (Nat.lt_of_lt_of_eq (by decide) rfl) rfl (fun ls hl => ?_)
      refine lv_iconst (v := 1) hx hb dL_revisionsBy_13 rfl ?_
      refine x_wid (c2 := 1) (s2 := 6) (Nat.le_of_ble_eq_true rfl) (Nat.le_of_ble_eq_true rfl) ?_
      exact r_iret2 hC hI hf dL_revisionsBy_14
    have hf := gf hf c0
    cases hf
  · have hf := (if_pos hq).symm.trans hf
    refine lv_i2l (v := rr.toInt64) hx hb dL_revisionsBy_7 rfl ?_
    obtain ⟨V2, e2, hf⟩ := gl hf
    refine r_last (x := rr) hC hI e2 dL_revisionsBy_8 (fun H locs hI => ?_)
    refine lv_goto (tgt := 15) hx hb dL_revisionsBy_9 (by decide) ?_
    refine lv_iconst (v := 0) hx hb dL_revisionsBy_15 rfl ?_
    refine x_wid (c2 := 1) (s2 := 6) (Nat.le_of_ble_eq_true rfl) (Nat.le_of_ble_eq_true rfl) ?_
    exact r_iret2 hC hI hf dL_revisionsBy_16
theorem kl_L_revisionsBy {p : Program} {l : Launch} {e : Env} {R : Room} {cells slots : Nat} {s : State} {m : MethodId} {args : Array Value} {below : List Frame} {meth : Method} {c : Code} {H : Heap} {locs : List Loc} {Q : State → Prop} {E : En} {ad : Nat → Nat} {V : Mem} {ow : String} {b : ByteArray} {n : Nat} {ret : Option FieldType} {pc index : Nat} {ls : Array Slot} {rest : List Value} {a1 : Int32} {r : Int32} {V1 : Mem} (hS : SF E) (hT : l.stackTraces = false) (hC : Cx p s m args c meth E ow b n ret) (hI : In E ad V s H locs) (hsz : ls.size = n) (hf : f_L_revisionsBy V a1 = some (r, V1)) (hl : Cond.methodLink ow index yL_revisionsBy ∈ TB) (hR : 7 + 1 ≤ R.frames ∧ 8 + (4 + 11) + 40 * 7 ≤ R.locals) (hcs : cells + 1 ≤ R.cells ∧ slots + 6 ≤ R.slots) (hw : (rest.map fun v => v.category).sum ≤ 8) (hdg : decode b pc = .ok (.invokestatic index, 3)) (kk : ∀ (H1 : Heap) (locs1 : List Loc), In E ad V1 s H1 locs1 → W p l e R s m args below meth c H1 locs1 (cells + 1) (slots + 6) Q (F0 m (pc + 3) ls (.int r :: rest))) : W p l e R s m args below meth c H locs cells slots Q (F0 m pc ls (.ref (ad 265) :: .int a1 :: .ref (ad 248) :: rest)) :=
  after_callA hI (runSW_tb (As := [.ref (ad 248), .int a1, .ref (ad 265)]) (rest := rest) hC hI hsz (m_L_revisionsBy l hT E ad V a1 hS r V1 hf) cv_L_revisionsBy hl rfl rfl hR hcs hw hdg) kk

theorem dL_head_0 : decode cL_head 0 = .ok (.aload_n 2, 1) := by decide +kernel
theorem dL_head_1 : decode cL_head 1 = .ok (.iconst 0, 1) := by decide +kernel
theorem dL_head_2 : decode cL_head 2 = .ok (.aload_n 0, 1) := by decide +kernel
theorem dL_head_3 : decode cL_head 3 = .ok (.iload_n 1, 1) := by decide +kernel
theorem dL_head_4 : decode cL_head 4 = .ok (.invokevirtual 104, 3) := by decide +kernel
theorem dL_head_7 : decode cL_head 7 = .ok (.i2l, 1) := by decide +kernel
theorem dL_head_8 : decode cL_head 8 = .ok (.lastore, 1) := by decide +kernel
theorem dL_head_9 : decode cL_head 9 = .ok (.goto 6, 3) := by decide +kernel
theorem dL_head_12 : decode cL_head 12 = .ok (.astore_n 3, 1) := by decide +kernel
theorem dL_head_13 : decode cL_head 13 = .ok (.iconst 1, 1) := by decide +kernel
theorem dL_head_14 : decode cL_head 14 = .ok (.ireturn, 1) := by decide +kernel
theorem dL_head_15 : decode cL_head 15 = .ok (.iconst 0, 1) := by decide +kernel
theorem dL_head_16 : decode cL_head 16 = .ok (.ireturn, 1) := by decide +kernel
def f_L_head (V : Mem) (a1 : Int32) : Option (Int32 × Mem) :=
  bh (f_X9_head V a1) (fun q V => if q = 1 then some (1, V) else none) fun r V1 =>
  lt (stv V1 265 0 r) fun V2 => some (0, V2)
theorem cv_L_head : (yL_head.cls ≠ "java/lang/invoke/MethodHandle" ∧ yL_head.cls ≠ "java/lang/invoke/VarHandle") ∧ Cond.initialized yL_head.cls ∈ TB ∧ Cond.codeWith yL_head cL_head 4 (some .int) [(0, 9, 12, 13)] ∈ TB ∧ (parseMethodDescriptor yL_head.desc).map (fun d => d.parameters.length) = some 3 ∧ Cond.static yL_head ∈ TB := ⟨⟨by decide +kernel, by decide +kernel⟩, tw_1_0, tw_5_28, by decide +kernel, tw_5_27⟩
set_option maxRecDepth 100000 in
set_option maxHeartbeats 4000000 in
theorem m_L_head (l : Launch) (hT : l.stackTraces = false) (E : En) (ad : Nat → Nat) (V : Mem) (a1 : Int32) (hS : SF E) (r : Int32) (Vz : Mem) (hf : f_L_head V a1 = some (r, Vz)) : MW l E ad yL_head cL_head 4 (some .int) [(0, 9, 12, 13)] 8 1 6 [.ref (ad 248), .int a1, .ref (ad 265)] V (some (.int r)) Vz := by
  refine entH (E := E) (ad := ad) (V := V) "LetterRepositoryLaw" (by decide +kernel) rfl (Nat.le_of_ble_eq_true rfl) ?_
  intro p e s m below meth c ls hC hTab hI hl
  have hx := hC.1
  have hb := hC.2.1
  have hl : lv_has ls 4 [(0, .ref (ad 248)), (1, .int a1), (2, .ref (ad 265))] := hl
  unfold f_L_head at hf
  obtain ⟨q, rr, V1, e1, hf⟩ := gbh hf
  refine lv_aload_n hx hb dL_head_0 rfl (lv_at hl 2 rfl) ?_
  refine lv_iconst (v := 0) hx hb dL_head_1 rfl ?_
  refine lv_aload_n hx hb dL_head_2 rfl (lv_at hl 0 rfl) ?_
  refine lv_iload_n hx hb dL_head_3 rfl (lv_at hl 1 rfl) ?_
  refine after_callH hI (xrunV_tb (As := [.int a1]) (rest := [.int 0, .ref (ad 265)]) hC hI hl.1 (m_X9_head l hT E ad V a1 hS q rr V1 e1) cv_X9_head tw_5_29 (by decide) (ce_248 _) rfl rfl rfl ⟨Nat.le_of_ble_eq_true rfl, Nat.le_of_ble_eq_true rfl⟩ ⟨Nat.le_of_ble_eq_true rfl, Nat.le_of_ble_eq_true rfl⟩ (Nat.le_of_ble_eq_true rfl) dL_head_4) (fun hq H locs q9 ce hI hcell hcv hcl => ?_) (fun hq H locs hI => ?_)
  · have hf := (if_neg hq).symm.trans hf
    rcases Decidable.em (q = 1) with c0 | c0
    · have hf := gt hf c0
      have hcl : s.vm.findClass "java/lang/IndexOutOfBoundsException" = some ce.cls := by rw [c0] at hcl; exact hcl
      refine vx_catch (own := "LetterRepositoryLaw") (name := "java/lang/IndexOutOfBoundsException") (E := "java/lang/IndexOutOfBoundsException") hC.2.2.2.1 [] (⟨0, 9, 12, 13⟩ : ExceptionTableEntry) [] (hTab.trans rfl) (fun _ h => nomatch h) (by decide) (by decide) (hC.2.2.2.2.1 _ tw_2_213) (ot_before hC (.inr tw_3_5) (fun _ => rfl)) hcell hcv hcl ?_
      refine lv_astore_n (lv' := [(3, .ref q9), (0, .ref (ad 248)), (1, .int a1), (2, .ref (ad 265))]) hx hb dL_head_12 rfl hl (Nat.lt_of_lt_of_eq (by decide) rfl) rfl (fun ls hl => ?_)
      refine lv_iconst (v := 1) hx hb dL_head_13 rfl ?_
      refine x_wid (c2 := 1) (s2 := 6) (Nat.le_of_ble_eq_true rfl) (Nat.le_of_ble_eq_true rfl) ?_
      exact r_iret2 hC hI hf dL_head_14
    have hf := gf hf c0
    cases hf
  · have hf := (if_pos hq).symm.trans hf
    refine lv_i2l (v := rr.toInt64) hx hb dL_head_7 rfl ?_
    obtain ⟨V2, e2, hf⟩ := gl hf
    refine r_last (x := rr) hC hI e2 dL_head_8 (fun H locs hI => ?_)
    refine lv_goto (tgt := 15) hx hb dL_head_9 (by decide) ?_
    refine lv_iconst (v := 0) hx hb dL_head_15 rfl ?_
    refine x_wid (c2 := 1) (s2 := 6) (Nat.le_of_ble_eq_true rfl) (Nat.le_of_ble_eq_true rfl) ?_
    exact r_iret2 hC hI hf dL_head_16
theorem kl_L_head {p : Program} {l : Launch} {e : Env} {R : Room} {cells slots : Nat} {s : State} {m : MethodId} {args : Array Value} {below : List Frame} {meth : Method} {c : Code} {H : Heap} {locs : List Loc} {Q : State → Prop} {E : En} {ad : Nat → Nat} {V : Mem} {ow : String} {b : ByteArray} {n : Nat} {ret : Option FieldType} {pc index : Nat} {ls : Array Slot} {rest : List Value} {a1 : Int32} {r : Int32} {V1 : Mem} (hS : SF E) (hT : l.stackTraces = false) (hC : Cx p s m args c meth E ow b n ret) (hI : In E ad V s H locs) (hsz : ls.size = n) (hf : f_L_head V a1 = some (r, V1)) (hl : Cond.methodLink ow index yL_head ∈ TB) (hR : 8 + 1 ≤ R.frames ∧ 8 + (4 + 11) + 40 * 8 ≤ R.locals) (hcs : cells + 1 ≤ R.cells ∧ slots + 6 ≤ R.slots) (hw : (rest.map fun v => v.category).sum ≤ 8) (hdg : decode b pc = .ok (.invokestatic index, 3)) (kk : ∀ (H1 : Heap) (locs1 : List Loc), In E ad V1 s H1 locs1 → W p l e R s m args below meth c H1 locs1 (cells + 1) (slots + 6) Q (F0 m (pc + 3) ls (.int r :: rest))) : W p l e R s m args below meth c H locs cells slots Q (F0 m pc ls (.ref (ad 265) :: .int a1 :: .ref (ad 248) :: rest)) :=
  after_callA hI (runSW_tb (As := [.ref (ad 248), .int a1, .ref (ad 265)]) (rest := rest) hC hI hsz (m_L_head l hT E ad V a1 hS r V1 hf) cv_L_head hl rfl rfl hR hcs hw hdg) kk

theorem dL_letterAt_0 : decode cL_letterAt 0 = .ok (.aload_n 3, 1) := by decide +kernel
theorem dL_letterAt_1 : decode cL_letterAt 1 = .ok (.iconst 0, 1) := by decide +kernel
theorem dL_letterAt_2 : decode cL_letterAt 2 = .ok (.aload_n 0, 1) := by decide +kernel
theorem dL_letterAt_3 : decode cL_letterAt 3 = .ok (.iload_n 1, 1) := by decide +kernel
theorem dL_letterAt_4 : decode cL_letterAt 4 = .ok (.iload_n 2, 1) := by decide +kernel
theorem dL_letterAt_5 : decode cL_letterAt 5 = .ok (.invokevirtual 107, 3) := by decide +kernel
theorem dL_letterAt_8 : decode cL_letterAt 8 = .ok (.i2l, 1) := by decide +kernel
theorem dL_letterAt_9 : decode cL_letterAt 9 = .ok (.lastore, 1) := by decide +kernel
theorem dL_letterAt_10 : decode cL_letterAt 10 = .ok (.goto 7, 3) := by decide +kernel
theorem dL_letterAt_13 : decode cL_letterAt 13 = .ok (.astore 4, 2) := by decide +kernel
theorem dL_letterAt_15 : decode cL_letterAt 15 = .ok (.iconst 1, 1) := by decide +kernel
theorem dL_letterAt_16 : decode cL_letterAt 16 = .ok (.ireturn, 1) := by decide +kernel
theorem dL_letterAt_17 : decode cL_letterAt 17 = .ok (.iconst 0, 1) := by decide +kernel
theorem dL_letterAt_18 : decode cL_letterAt 18 = .ok (.ireturn, 1) := by decide +kernel
def f_L_letterAt (V : Mem) (a1 : Int32) (a2 : Int32) : Option (Int32 × Mem) :=
  bh (f_X9_letterAt V a1 a2) (fun q V => if q = 1 then some (1, V) else none) fun r V1 =>
  lt (stv V1 265 0 r) fun V2 => some (0, V2)
theorem cv_L_letterAt : (yL_letterAt.cls ≠ "java/lang/invoke/MethodHandle" ∧ yL_letterAt.cls ≠ "java/lang/invoke/VarHandle") ∧ Cond.initialized yL_letterAt.cls ∈ TB ∧ Cond.codeWith yL_letterAt cL_letterAt 5 (some .int) [(0, 10, 13, 13)] ∈ TB ∧ (parseMethodDescriptor yL_letterAt.desc).map (fun d => d.parameters.length) = some 4 ∧ Cond.static yL_letterAt ∈ TB := ⟨⟨by decide +kernel, by decide +kernel⟩, tw_1_0, tw_5_42, by decide +kernel, tw_5_41⟩
set_option maxRecDepth 100000 in
set_option maxHeartbeats 4000000 in
theorem m_L_letterAt (l : Launch) (hT : l.stackTraces = false) (E : En) (ad : Nat → Nat) (V : Mem) (a1 : Int32) (a2 : Int32) (hS : SF E) (r : Int32) (Vz : Mem) (hf : f_L_letterAt V a1 a2 = some (r, Vz)) : MW l E ad yL_letterAt cL_letterAt 5 (some .int) [(0, 10, 13, 13)] 8 2 12 [.ref (ad 248), .int a1, .int a2, .ref (ad 265)] V (some (.int r)) Vz := by
  refine entH (E := E) (ad := ad) (V := V) "LetterRepositoryLaw" (by decide +kernel) rfl (Nat.le_of_ble_eq_true rfl) ?_
  intro p e s m below meth c ls hC hTab hI hl
  have hx := hC.1
  have hb := hC.2.1
  have hl : lv_has ls 5 [(0, .ref (ad 248)), (1, .int a1), (2, .int a2), (3, .ref (ad 265))] := hl
  unfold f_L_letterAt at hf
  obtain ⟨q, rr, V1, e1, hf⟩ := gbh hf
  refine lv_aload_n hx hb dL_letterAt_0 rfl (lv_at hl 3 rfl) ?_
  refine lv_iconst (v := 0) hx hb dL_letterAt_1 rfl ?_
  refine lv_aload_n hx hb dL_letterAt_2 rfl (lv_at hl 0 rfl) ?_
  refine lv_iload_n hx hb dL_letterAt_3 rfl (lv_at hl 1 rfl) ?_
  refine lv_iload_n hx hb dL_letterAt_4 rfl (lv_at hl 2 rfl) ?_
  refine after_callH hI (xrunV_tb (As := [.int a1, .int a2]) (rest := [.int 0, .ref (ad 265)]) hC hI hl.1 (m_X9_letterAt l hT E ad V a1 a2 hS q rr V1 e1) cv_X9_letterAt tw_5_43 (by decide) (ce_248 _) rfl rfl rfl ⟨Nat.le_of_ble_eq_true rfl, Nat.le_of_ble_eq_true rfl⟩ ⟨Nat.le_of_ble_eq_true rfl, Nat.le_of_ble_eq_true rfl⟩ (Nat.le_of_ble_eq_true rfl) dL_letterAt_5) (fun hq H locs q9 ce hI hcell hcv hcl => ?_) (fun hq H locs hI => ?_)
  · have hf := (if_neg hq).symm.trans hf
    rcases Decidable.em (q = 1) with c0 | c0
    · have hf := gt hf c0
      have hcl : s.vm.findClass "java/lang/IndexOutOfBoundsException" = some ce.cls := by rw [c0] at hcl; exact hcl
      refine vx_catch (own := "LetterRepositoryLaw") (name := "java/lang/IndexOutOfBoundsException") (E := "java/lang/IndexOutOfBoundsException") hC.2.2.2.1 [] (⟨0, 10, 13, 13⟩ : ExceptionTableEntry) [] (hTab.trans rfl) (fun _ h => nomatch h) (by decide) (by decide) (hC.2.2.2.2.1 _ tw_2_213) (ot_before hC (.inr tw_3_5) (fun _ => rfl)) hcell hcv hcl ?_
      refine lv_astore (lv' := [(4, .ref q9), (0, .ref (ad 248)), (1, .int a1), (2, .int a2), (3, .ref (ad 265))]) hx hb dL_letterAt_13 hl (Nat.lt_of_lt_of_eq (by decide) rfl) rfl (fun ls hl => ?_)
      refine lv_iconst (v := 1) hx hb dL_letterAt_15 rfl ?_
      refine x_wid (c2 := 2) (s2 := 12) (Nat.le_of_ble_eq_true rfl) (Nat.le_of_ble_eq_true rfl) ?_
      exact r_iret2 hC hI hf dL_letterAt_16
    have hf := gf hf c0
    cases hf
  · have hf := (if_pos hq).symm.trans hf
    refine lv_i2l (v := rr.toInt64) hx hb dL_letterAt_8 rfl ?_
    obtain ⟨V2, e2, hf⟩ := gl hf
    refine r_last (x := rr) hC hI e2 dL_letterAt_9 (fun H locs hI => ?_)
    refine lv_goto (tgt := 17) hx hb dL_letterAt_10 (by decide) ?_
    refine lv_iconst (v := 0) hx hb dL_letterAt_17 rfl ?_
    refine x_wid (c2 := 2) (s2 := 12) (Nat.le_of_ble_eq_true rfl) (Nat.le_of_ble_eq_true rfl) ?_
    exact r_iret2 hC hI hf dL_letterAt_18
theorem kl_L_letterAt {p : Program} {l : Launch} {e : Env} {R : Room} {cells slots : Nat} {s : State} {m : MethodId} {args : Array Value} {below : List Frame} {meth : Method} {c : Code} {H : Heap} {locs : List Loc} {Q : State → Prop} {E : En} {ad : Nat → Nat} {V : Mem} {ow : String} {b : ByteArray} {n : Nat} {ret : Option FieldType} {pc index : Nat} {ls : Array Slot} {rest : List Value} {a1 : Int32} {a2 : Int32} {r : Int32} {V1 : Mem} (hS : SF E) (hT : l.stackTraces = false) (hC : Cx p s m args c meth E ow b n ret) (hI : In E ad V s H locs) (hsz : ls.size = n) (hf : f_L_letterAt V a1 a2 = some (r, V1)) (hl : Cond.methodLink ow index yL_letterAt ∈ TB) (hR : 8 + 1 ≤ R.frames ∧ 8 + (5 + 11) + 40 * 8 ≤ R.locals) (hcs : cells + 2 ≤ R.cells ∧ slots + 12 ≤ R.slots) (hw : (rest.map fun v => v.category).sum ≤ 8) (hdg : decode b pc = .ok (.invokestatic index, 3)) (kk : ∀ (H1 : Heap) (locs1 : List Loc), In E ad V1 s H1 locs1 → W p l e R s m args below meth c H1 locs1 (cells + 2) (slots + 12) Q (F0 m (pc + 3) ls (.int r :: rest))) : W p l e R s m args below meth c H locs cells slots Q (F0 m pc ls (.ref (ad 265) :: .int a2 :: .int a1 :: .ref (ad 248) :: rest)) :=
  after_callA hI (runSW_tb (As := [.ref (ad 248), .int a1, .int a2, .ref (ad 265)]) (rest := rest) hC hI hsz (m_L_letterAt l hT E ad V a1 a2 hS r V1 hf) cv_L_letterAt hl rfl rfl hR hcs hw hdg) kk

theorem dL_isEdited_0 : decode cL_isEdited 0 = .ok (.aload_n 3, 1) := by decide +kernel
theorem dL_isEdited_1 : decode cL_isEdited 1 = .ok (.iconst 0, 1) := by decide +kernel
theorem dL_isEdited_2 : decode cL_isEdited 2 = .ok (.aload_n 0, 1) := by decide +kernel
theorem dL_isEdited_3 : decode cL_isEdited 3 = .ok (.iload_n 1, 1) := by decide +kernel
theorem dL_isEdited_4 : decode cL_isEdited 4 = .ok (.iload_n 2, 1) := by decide +kernel
theorem dL_isEdited_5 : decode cL_isEdited 5 = .ok (.invokevirtual 110, 3) := by decide +kernel
theorem dL_isEdited_8 : decode cL_isEdited 8 = .ok (.ifCond .eq 7, 3) := by decide +kernel
theorem dL_isEdited_11 : decode cL_isEdited 11 = .ok (.lconst 1, 1) := by decide +kernel
theorem dL_isEdited_12 : decode cL_isEdited 12 = .ok (.goto 4, 3) := by decide +kernel
theorem dL_isEdited_15 : decode cL_isEdited 15 = .ok (.lconst 0, 1) := by decide +kernel
theorem dL_isEdited_16 : decode cL_isEdited 16 = .ok (.lastore, 1) := by decide +kernel
theorem dL_isEdited_17 : decode cL_isEdited 17 = .ok (.goto 7, 3) := by decide +kernel
theorem dL_isEdited_20 : decode cL_isEdited 20 = .ok (.astore 4, 2) := by decide +kernel
theorem dL_isEdited_22 : decode cL_isEdited 22 = .ok (.iconst 1, 1) := by decide +kernel
theorem dL_isEdited_23 : decode cL_isEdited 23 = .ok (.ireturn, 1) := by decide +kernel
theorem dL_isEdited_24 : decode cL_isEdited 24 = .ok (.iconst 0, 1) := by decide +kernel
theorem dL_isEdited_25 : decode cL_isEdited 25 = .ok (.ireturn, 1) := by decide +kernel
def f_L_isEdited (V : Mem) (a1 : Int32) (a2 : Int32) : Option (Int32 × Mem) :=
  bh (f_X9_isEdited V a1 a2) (fun q V => if q = 1 then some (1, V) else none) fun r V1 =>
  if r = 0 then lt (stv V1 265 0 0) fun V2 => some (0, V2) else lt (stv V1 265 0 1) fun V2 => some (0, V2)
theorem cv_L_isEdited : (yL_isEdited.cls ≠ "java/lang/invoke/MethodHandle" ∧ yL_isEdited.cls ≠ "java/lang/invoke/VarHandle") ∧ Cond.initialized yL_isEdited.cls ∈ TB ∧ Cond.codeWith yL_isEdited cL_isEdited 5 (some .int) [(0, 17, 20, 13)] ∈ TB ∧ (parseMethodDescriptor yL_isEdited.desc).map (fun d => d.parameters.length) = some 4 ∧ Cond.static yL_isEdited ∈ TB := ⟨⟨by decide +kernel, by decide +kernel⟩, tw_1_0, tw_5_50, by decide +kernel, tw_5_49⟩
set_option maxRecDepth 100000 in
set_option maxHeartbeats 4000000 in
theorem m_L_isEdited (l : Launch) (hT : l.stackTraces = false) (E : En) (ad : Nat → Nat) (V : Mem) (a1 : Int32) (a2 : Int32) (hS : SF E) (r : Int32) (Vz : Mem) (hf : f_L_isEdited V a1 a2 = some (r, Vz)) : MW l E ad yL_isEdited cL_isEdited 5 (some .int) [(0, 17, 20, 13)] 8 2 12 [.ref (ad 248), .int a1, .int a2, .ref (ad 265)] V (some (.int r)) Vz := by
  refine entH (E := E) (ad := ad) (V := V) "LetterRepositoryLaw" (by decide +kernel) rfl (Nat.le_of_ble_eq_true rfl) ?_
  intro p e s m below meth c ls hC hTab hI hl
  have hx := hC.1
  have hb := hC.2.1
  have hl : lv_has ls 5 [(0, .ref (ad 248)), (1, .int a1), (2, .int a2), (3, .ref (ad 265))] := hl
  unfold f_L_isEdited at hf
  obtain ⟨q, rr, V1, e1, hf⟩ := gbh hf
  refine lv_aload_n hx hb dL_isEdited_0 rfl (lv_at hl 3 rfl) ?_
  refine lv_iconst (v := 0) hx hb dL_isEdited_1 rfl ?_
  refine lv_aload_n hx hb dL_isEdited_2 rfl (lv_at hl 0 rfl) ?_
  refine lv_iload_n hx hb dL_isEdited_3 rfl (lv_at hl 1 rfl) ?_
  refine lv_iload_n hx hb dL_isEdited_4 rfl (lv_at hl 2 rfl) ?_
  refine after_callH hI (xrunV_tb (As := [.int a1, .int a2]) (rest := [.int 0, .ref (ad 265)]) hC hI hl.1 (m_X9_isEdited l hT E ad V a1 a2 hS q rr V1 e1) cv_X9_isEdited tw_5_51 (by decide) (ce_248 _) rfl rfl rfl ⟨Nat.le_of_ble_eq_true rfl, Nat.le_of_ble_eq_true rfl⟩ ⟨Nat.le_of_ble_eq_true rfl, Nat.le_of_ble_eq_true rfl⟩ (Nat.le_of_ble_eq_true rfl) dL_isEdited_5) (fun hq H locs q9 ce hI hcell hcv hcl => ?_) (fun hq H locs hI => ?_)
  · have hf := (if_neg hq).symm.trans hf
    rcases Decidable.em (q = 1) with c0 | c0
    · have hf := gt hf c0
      have hcl : s.vm.findClass "java/lang/IndexOutOfBoundsException" = some ce.cls := by rw [c0] at hcl; exact hcl
      refine vx_catch (own := "LetterRepositoryLaw") (name := "java/lang/IndexOutOfBoundsException") (E := "java/lang/IndexOutOfBoundsException") hC.2.2.2.1 [] (⟨0, 17, 20, 13⟩ : ExceptionTableEntry) [] (hTab.trans rfl) (fun _ h => nomatch h) (by decide) (by decide) (hC.2.2.2.2.1 _ tw_2_213) (ot_before hC (.inr tw_3_5) (fun _ => rfl)) hcell hcv hcl ?_
      refine lv_astore (lv' := [(4, .ref q9), (0, .ref (ad 248)), (1, .int a1), (2, .int a2), (3, .ref (ad 265))]) hx hb dL_isEdited_20 hl (Nat.lt_of_lt_of_eq (by decide) rfl) rfl (fun ls hl => ?_)
      refine lv_iconst (v := 1) hx hb dL_isEdited_22 rfl ?_
      refine x_wid (c2 := 2) (s2 := 12) (Nat.le_of_ble_eq_true rfl) (Nat.le_of_ble_eq_true rfl) ?_
      exact r_iret2 hC hI hf dL_isEdited_23
    have hf := gf hf c0
    cases hf
  · have hf := (if_pos hq).symm.trans hf
    refine lv_if_eq (tgt := 15) hx hb dL_isEdited_8 (by decide) (fun c9 => ?_) (fun c9 => ?_)
    · have hf := (if_pos c9).symm.trans hf
      obtain ⟨V2, e2, hf⟩ := gl hf
      refine lv_lconst (v := (0 : Int32).toInt64) hx hb dL_isEdited_15 rfl ?_
      refine r_last (x := 0) hC hI e2 dL_isEdited_16 (fun H locs hI => ?_)
      refine lv_goto (tgt := 24) hx hb dL_isEdited_17 (by decide) ?_
      refine lv_iconst (v := 0) hx hb dL_isEdited_24 rfl ?_
      refine x_wid (c2 := 2) (s2 := 12) (Nat.le_of_ble_eq_true rfl) (Nat.le_of_ble_eq_true rfl) ?_
      exact r_iret2 hC hI hf dL_isEdited_25
    · have hf := (if_neg c9).symm.trans hf
      obtain ⟨V2, e2, hf⟩ := gl hf
      refine lv_lconst (v := (1 : Int32).toInt64) hx hb dL_isEdited_11 rfl ?_
      refine lv_goto (tgt := 16) hx hb dL_isEdited_12 (by decide) ?_
      refine r_last (x := 1) hC hI e2 dL_isEdited_16 (fun H locs hI => ?_)
      refine lv_goto (tgt := 24) hx hb dL_isEdited_17 (by decide) ?_
      refine lv_iconst (v := 0) hx hb dL_isEdited_24 rfl ?_
      refine x_wid (c2 := 2) (s2 := 12) (Nat.le_of_ble_eq_true rfl) (Nat.le_of_ble_eq_true rfl) ?_
      exact r_iret2 hC hI hf dL_isEdited_25
theorem kl_L_isEdited {p : Program} {l : Launch} {e : Env} {R : Room} {cells slots : Nat} {s : State} {m : MethodId} {args : Array Value} {below : List Frame} {meth : Method} {c : Code} {H : Heap} {locs : List Loc} {Q : State → Prop} {E : En} {ad : Nat → Nat} {V : Mem} {ow : String} {b : ByteArray} {n : Nat} {ret : Option FieldType} {pc index : Nat} {ls : Array Slot} {rest : List Value} {a1 : Int32} {a2 : Int32} {r : Int32} {V1 : Mem} (hS : SF E) (hT : l.stackTraces = false) (hC : Cx p s m args c meth E ow b n ret) (hI : In E ad V s H locs) (hsz : ls.size = n) (hf : f_L_isEdited V a1 a2 = some (r, V1)) (hl : Cond.methodLink ow index yL_isEdited ∈ TB) (hR : 8 + 1 ≤ R.frames ∧ 8 + (5 + 11) + 40 * 8 ≤ R.locals) (hcs : cells + 2 ≤ R.cells ∧ slots + 12 ≤ R.slots) (hw : (rest.map fun v => v.category).sum ≤ 8) (hdg : decode b pc = .ok (.invokestatic index, 3)) (kk : ∀ (H1 : Heap) (locs1 : List Loc), In E ad V1 s H1 locs1 → W p l e R s m args below meth c H1 locs1 (cells + 2) (slots + 12) Q (F0 m (pc + 3) ls (.int r :: rest))) : W p l e R s m args below meth c H locs cells slots Q (F0 m pc ls (.ref (ad 265) :: .int a2 :: .int a1 :: .ref (ad 248) :: rest)) :=
  after_callA hI (runSW_tb (As := [.ref (ad 248), .int a1, .int a2, .ref (ad 265)]) (rest := rest) hC hI hsz (m_L_isEdited l hT E ad V a1 a2 hS r V1 hf) cv_L_isEdited hl rfl rfl hR hcs hw hdg) kk

theorem dL_editCount_0 : decode cL_editCount 0 = .ok (.aload_n 2, 1) := by decide +kernel
theorem dL_editCount_1 : decode cL_editCount 1 = .ok (.iconst 0, 1) := by decide +kernel
theorem dL_editCount_2 : decode cL_editCount 2 = .ok (.aload_n 0, 1) := by decide +kernel
theorem dL_editCount_3 : decode cL_editCount 3 = .ok (.iload_n 1, 1) := by decide +kernel
theorem dL_editCount_4 : decode cL_editCount 4 = .ok (.invokevirtual 113, 3) := by decide +kernel
theorem dL_editCount_7 : decode cL_editCount 7 = .ok (.i2l, 1) := by decide +kernel
theorem dL_editCount_8 : decode cL_editCount 8 = .ok (.lastore, 1) := by decide +kernel
theorem dL_editCount_9 : decode cL_editCount 9 = .ok (.goto 6, 3) := by decide +kernel
theorem dL_editCount_12 : decode cL_editCount 12 = .ok (.astore_n 3, 1) := by decide +kernel
theorem dL_editCount_13 : decode cL_editCount 13 = .ok (.iconst 1, 1) := by decide +kernel
theorem dL_editCount_14 : decode cL_editCount 14 = .ok (.ireturn, 1) := by decide +kernel
theorem dL_editCount_15 : decode cL_editCount 15 = .ok (.iconst 0, 1) := by decide +kernel
theorem dL_editCount_16 : decode cL_editCount 16 = .ok (.ireturn, 1) := by decide +kernel
def f_L_editCount (V : Mem) (a1 : Int32) : Option (Int32 × Mem) :=
  bh (f_X9_editCount V a1) (fun q V => if q = 1 then some (1, V) else none) fun r V1 =>
  lt (stv V1 265 0 r) fun V2 => some (0, V2)
theorem cv_L_editCount : (yL_editCount.cls ≠ "java/lang/invoke/MethodHandle" ∧ yL_editCount.cls ≠ "java/lang/invoke/VarHandle") ∧ Cond.initialized yL_editCount.cls ∈ TB ∧ Cond.codeWith yL_editCount cL_editCount 4 (some .int) [(0, 9, 12, 13)] ∈ TB ∧ (parseMethodDescriptor yL_editCount.desc).map (fun d => d.parameters.length) = some 3 ∧ Cond.static yL_editCount ∈ TB := ⟨⟨by decide +kernel, by decide +kernel⟩, tw_1_0, tw_5_58, by decide +kernel, tw_5_57⟩
set_option maxRecDepth 100000 in
set_option maxHeartbeats 4000000 in
theorem m_L_editCount (l : Launch) (hT : l.stackTraces = false) (E : En) (ad : Nat → Nat) (V : Mem) (a1 : Int32) (hS : SF E) (r : Int32) (Vz : Mem) (hf : f_L_editCount V a1 = some (r, Vz)) : MW l E ad yL_editCount cL_editCount 4 (some .int) [(0, 9, 12, 13)] 8 1 6 [.ref (ad 248), .int a1, .ref (ad 265)] V (some (.int r)) Vz := by
  refine entH (E := E) (ad := ad) (V := V) "LetterRepositoryLaw" (by decide +kernel) rfl (Nat.le_of_ble_eq_true rfl) ?_
  intro p e s m below meth c ls hC hTab hI hl
  have hx := hC.1
  have hb := hC.2.1
  have hl : lv_has ls 4 [(0, .ref (ad 248)), (1, .int a1), (2, .ref (ad 265))] := hl
  unfold f_L_editCount at hf
  obtain ⟨q, rr, V1, e1, hf⟩ := gbh hf
  refine lv_aload_n hx hb dL_editCount_0 rfl (lv_at hl 2 rfl) ?_
  refine lv_iconst (v := 0) hx hb dL_editCount_1 rfl ?_
  refine lv_aload_n hx hb dL_editCount_2 rfl (lv_at hl 0 rfl) ?_
  refine lv_iload_n hx hb dL_editCount_3 rfl (lv_at hl 1 rfl) ?_
  refine after_callH hI (xrunV_tb (As := [.int a1]) (rest := [.int 0, .ref (ad 265)]) hC hI hl.1 (m_X9_editCount l hT E ad V a1 hS q rr V1 e1) cv_X9_editCount tw_5_59 (by decide) (ce_248 _) rfl rfl rfl ⟨Nat.le_of_ble_eq_true rfl, Nat.le_of_ble_eq_true rfl⟩ ⟨Nat.le_of_ble_eq_true rfl, Nat.le_of_ble_eq_true rfl⟩ (Nat.le_of_ble_eq_true rfl) dL_editCount_4) (fun hq H locs q9 ce hI hcell hcv hcl => ?_) (fun hq H locs hI => ?_)
  · have hf := (if_neg hq).symm.trans hf
    rcases Decidable.em (q = 1) with c0 | c0
    · have hf := gt hf c0
      have hcl : s.vm.findClass "java/lang/IndexOutOfBoundsException" = some ce.cls := by rw [c0] at hcl; exact hcl
      refine vx_catch (own := "LetterRepositoryLaw") (name := "java/lang/IndexOutOfBoundsException") (E := "java/lang/IndexOutOfBoundsException") hC.2.2.2.1 [] (⟨0, 9, 12, 13⟩ : ExceptionTableEntry) [] (hTab.trans rfl) (fun _ h => nomatch h) (by decide) (by decide) (hC.2.2.2.2.1 _ tw_2_213) (ot_before hC (.inr tw_3_5) (fun _ => rfl)) hcell hcv hcl ?_
      refine lv_astore_n (lv' := [(3, .ref q9), (0, .ref (ad 248)), (1, .int a1), (2, .ref (ad 265))]) hx hb dL_editCount_12 rfl hl (Nat.lt_of_lt_of_eq (by decide) rfl) rfl (fun ls hl => ?_)
      refine lv_iconst (v := 1) hx hb dL_editCount_13 rfl ?_
      refine x_wid (c2 := 1) (s2 := 6) (Nat.le_of_ble_eq_true rfl) (Nat.le_of_ble_eq_true rfl) ?_
      exact r_iret2 hC hI hf dL_editCount_14
    have hf := gf hf c0
    cases hf
  · have hf := (if_pos hq).symm.trans hf
    refine lv_i2l (v := rr.toInt64) hx hb dL_editCount_7 rfl ?_
    obtain ⟨V2, e2, hf⟩ := gl hf
    refine r_last (x := rr) hC hI e2 dL_editCount_8 (fun H locs hI => ?_)
    refine lv_goto (tgt := 15) hx hb dL_editCount_9 (by decide) ?_
    refine lv_iconst (v := 0) hx hb dL_editCount_15 rfl ?_
    refine x_wid (c2 := 1) (s2 := 6) (Nat.le_of_ble_eq_true rfl) (Nat.le_of_ble_eq_true rfl) ?_
    exact r_iret2 hC hI hf dL_editCount_16
theorem kl_L_editCount {p : Program} {l : Launch} {e : Env} {R : Room} {cells slots : Nat} {s : State} {m : MethodId} {args : Array Value} {below : List Frame} {meth : Method} {c : Code} {H : Heap} {locs : List Loc} {Q : State → Prop} {E : En} {ad : Nat → Nat} {V : Mem} {ow : String} {b : ByteArray} {n : Nat} {ret : Option FieldType} {pc index : Nat} {ls : Array Slot} {rest : List Value} {a1 : Int32} {r : Int32} {V1 : Mem} (hS : SF E) (hT : l.stackTraces = false) (hC : Cx p s m args c meth E ow b n ret) (hI : In E ad V s H locs) (hsz : ls.size = n) (hf : f_L_editCount V a1 = some (r, V1)) (hl : Cond.methodLink ow index yL_editCount ∈ TB) (hR : 8 + 1 ≤ R.frames ∧ 8 + (4 + 11) + 40 * 8 ≤ R.locals) (hcs : cells + 1 ≤ R.cells ∧ slots + 6 ≤ R.slots) (hw : (rest.map fun v => v.category).sum ≤ 8) (hdg : decode b pc = .ok (.invokestatic index, 3)) (kk : ∀ (H1 : Heap) (locs1 : List Loc), In E ad V1 s H1 locs1 → W p l e R s m args below meth c H1 locs1 (cells + 1) (slots + 6) Q (F0 m (pc + 3) ls (.int r :: rest))) : W p l e R s m args below meth c H locs cells slots Q (F0 m pc ls (.ref (ad 265) :: .int a1 :: .ref (ad 248) :: rest)) :=
  after_callA hI (runSW_tb (As := [.ref (ad 248), .int a1, .ref (ad 265)]) (rest := rest) hC hI hsz (m_L_editCount l hT E ad V a1 hS r V1 hf) cv_L_editCount hl rfl rfl hR hcs hw hdg) kk

theorem dL_branchByHead_0 : decode cL_branchByHead 0 = .ok (.aload_n 2, 1) := by decide +kernel
theorem dL_branchByHead_1 : decode cL_branchByHead 1 = .ok (.iconst 0, 1) := by decide +kernel
theorem dL_branchByHead_2 : decode cL_branchByHead 2 = .ok (.aload_n 0, 1) := by decide +kernel
theorem dL_branchByHead_3 : decode cL_branchByHead 3 = .ok (.iload_n 1, 1) := by decide +kernel
theorem dL_branchByHead_4 : decode cL_branchByHead 4 = .ok (.invokevirtual 116, 3) := by decide +kernel
theorem dL_branchByHead_7 : decode cL_branchByHead 7 = .ok (.i2l, 1) := by decide +kernel
theorem dL_branchByHead_8 : decode cL_branchByHead 8 = .ok (.lastore, 1) := by decide +kernel
theorem dL_branchByHead_9 : decode cL_branchByHead 9 = .ok (.goto 6, 3) := by decide +kernel
theorem dL_branchByHead_12 : decode cL_branchByHead 12 = .ok (.astore_n 3, 1) := by decide +kernel
theorem dL_branchByHead_13 : decode cL_branchByHead 13 = .ok (.iconst 1, 1) := by decide +kernel
theorem dL_branchByHead_14 : decode cL_branchByHead 14 = .ok (.ireturn, 1) := by decide +kernel
theorem dL_branchByHead_15 : decode cL_branchByHead 15 = .ok (.iconst 0, 1) := by decide +kernel
theorem dL_branchByHead_16 : decode cL_branchByHead 16 = .ok (.ireturn, 1) := by decide +kernel
def f_L_branchByHead (V : Mem) (a1 : Int32) : Option (Int32 × Mem) :=
  bh (f_X9_branchByHead V a1) (fun q V => if q = 3 then some (1, V) else none) fun r V1 =>
  lt (stv V1 265 0 r) fun V2 => some (0, V2)
theorem cv_L_branchByHead : (yL_branchByHead.cls ≠ "java/lang/invoke/MethodHandle" ∧ yL_branchByHead.cls ≠ "java/lang/invoke/VarHandle") ∧ Cond.initialized yL_branchByHead.cls ∈ TB ∧ Cond.codeWith yL_branchByHead cL_branchByHead 4 (some .int) [(0, 9, 12, 30)] ∈ TB ∧ (parseMethodDescriptor yL_branchByHead.desc).map (fun d => d.parameters.length) = some 3 ∧ Cond.static yL_branchByHead ∈ TB := ⟨⟨by decide +kernel, by decide +kernel⟩, tw_1_0, tw_5_66, by decide +kernel, tw_5_65⟩
set_option maxRecDepth 100000 in
set_option maxHeartbeats 4000000 in
theorem m_L_branchByHead (l : Launch) (hT : l.stackTraces = false) (E : En) (ad : Nat → Nat) (V : Mem) (a1 : Int32) (hS : SF E) (r : Int32) (Vz : Mem) (hf : f_L_branchByHead V a1 = some (r, Vz)) : MW l E ad yL_branchByHead cL_branchByHead 4 (some .int) [(0, 9, 12, 30)] 8 1 6 [.ref (ad 248), .int a1, .ref (ad 265)] V (some (.int r)) Vz := by
  refine entH (E := E) (ad := ad) (V := V) "LetterRepositoryLaw" (by decide +kernel) rfl (Nat.le_of_ble_eq_true rfl) ?_
  intro p e s m below meth c ls hC hTab hI hl
  have hx := hC.1
  have hb := hC.2.1
  have hl : lv_has ls 4 [(0, .ref (ad 248)), (1, .int a1), (2, .ref (ad 265))] := hl
  unfold f_L_branchByHead at hf
  obtain ⟨q, rr, V1, e1, hf⟩ := gbh hf
  refine lv_aload_n hx hb dL_branchByHead_0 rfl (lv_at hl 2 rfl) ?_
  refine lv_iconst (v := 0) hx hb dL_branchByHead_1 rfl ?_
  refine lv_aload_n hx hb dL_branchByHead_2 rfl (lv_at hl 0 rfl) ?_
  refine lv_iload_n hx hb dL_branchByHead_3 rfl (lv_at hl 1 rfl) ?_
  refine after_callH hI (xrunV_tb (As := [.int a1]) (rest := [.int 0, .ref (ad 265)]) hC hI hl.1 (m_X9_branchByHead l hT E ad V a1 hS q rr V1 e1) cv_X9_branchByHead tw_5_67 (by decide) (ce_248 _) rfl rfl rfl ⟨Nat.le_of_ble_eq_true rfl, Nat.le_of_ble_eq_true rfl⟩ ⟨Nat.le_of_ble_eq_true rfl, Nat.le_of_ble_eq_true rfl⟩ (Nat.le_of_ble_eq_true rfl) dL_branchByHead_4) (fun hq H locs q9 ce hI hcell hcv hcl => ?_) (fun hq H locs hI => ?_)
  · have hf := (if_neg hq).symm.trans hf
    rcases Decidable.em (q = 3) with c0 | c0
    · have hf := gt hf c0
      have hcl : s.vm.findClass "java/util/NoSuchElementException" = some ce.cls := by rw [c0] at hcl; exact hcl
      refine vx_catch (own := "LetterRepositoryLaw") (name := "java/util/NoSuchElementException") (E := "java/util/NoSuchElementException") hC.2.2.2.1 [] (⟨0, 9, 12, 30⟩ : ExceptionTableEntry) [] (hTab.trans rfl) (fun _ h => nomatch h) (by decide) (by decide) (hC.2.2.2.2.1 _ tw_3_209) (ot_before hC (.inr tw_3_94) (fun _ => rfl)) hcell hcv hcl ?_
      refine lv_astore_n (lv' := [(3, .ref q9), (0, .ref (ad 248)), (1, .int a1), (2, .ref (ad 265))]) hx hb dL_branchByHead_12 rfl hl (Nat.lt_of_lt_of_eq (by decide) rfl) rfl (fun ls hl => ?_)
      refine lv_iconst (v := 1) hx hb dL_branchByHead_13 rfl ?_
      refine x_wid (c2 := 1) (s2 := 6) (Nat.le_of_ble_eq_true rfl) (Nat.le_of_ble_eq_true rfl) ?_
      exact r_iret2 hC hI hf dL_branchByHead_14
    have hf := gf hf c0
    cases hf
  · have hf := (if_pos hq).symm.trans hf
    refine lv_i2l (v := rr.toInt64) hx hb dL_branchByHead_7 rfl ?_
    obtain ⟨V2, e2, hf⟩ := gl hf
    refine r_last (x := rr) hC hI e2 dL_branchByHead_8 (fun H locs hI => ?_)
    refine lv_goto (tgt := 15) hx hb dL_branchByHead_9 (by decide) ?_
    refine lv_iconst (v := 0) hx hb dL_branchByHead_15 rfl ?_
    refine x_wid (c2 := 1) (s2 := 6) (Nat.le_of_ble_eq_true rfl) (Nat.le_of_ble_eq_true rfl) ?_
    exact r_iret2 hC hI hf dL_branchByHead_16
theorem kl_L_branchByHead {p : Program} {l : Launch} {e : Env} {R : Room} {cells slots : Nat} {s : State} {m : MethodId} {args : Array Value} {below : List Frame} {meth : Method} {c : Code} {H : Heap} {locs : List Loc} {Q : State → Prop} {E : En} {ad : Nat → Nat} {V : Mem} {ow : String} {b : ByteArray} {n : Nat} {ret : Option FieldType} {pc index : Nat} {ls : Array Slot} {rest : List Value} {a1 : Int32} {r : Int32} {V1 : Mem} (hS : SF E) (hT : l.stackTraces = false) (hC : Cx p s m args c meth E ow b n ret) (hI : In E ad V s H locs) (hsz : ls.size = n) (hf : f_L_branchByHead V a1 = some (r, V1)) (hl : Cond.methodLink ow index yL_branchByHead ∈ TB) (hR : 8 + 1 ≤ R.frames ∧ 8 + (4 + 11) + 40 * 8 ≤ R.locals) (hcs : cells + 1 ≤ R.cells ∧ slots + 6 ≤ R.slots) (hw : (rest.map fun v => v.category).sum ≤ 8) (hdg : decode b pc = .ok (.invokestatic index, 3)) (kk : ∀ (H1 : Heap) (locs1 : List Loc), In E ad V1 s H1 locs1 → W p l e R s m args below meth c H1 locs1 (cells + 1) (slots + 6) Q (F0 m (pc + 3) ls (.int r :: rest))) : W p l e R s m args below meth c H locs cells slots Q (F0 m pc ls (.ref (ad 265) :: .int a1 :: .ref (ad 248) :: rest)) :=
  after_callA hI (runSW_tb (As := [.ref (ad 248), .int a1, .ref (ad 265)]) (rest := rest) hC hI hsz (m_L_branchByHead l hT E ad V a1 hS r V1 hf) cv_L_branchByHead hl rfl rfl hR hcs hw hdg) kk

theorem dL_conflictCount_0 : decode cL_conflictCount 0 = .ok (.aload_n 3, 1) := by decide +kernel
theorem dL_conflictCount_1 : decode cL_conflictCount 1 = .ok (.iconst 0, 1) := by decide +kernel
theorem dL_conflictCount_2 : decode cL_conflictCount 2 = .ok (.aload_n 0, 1) := by decide +kernel
theorem dL_conflictCount_3 : decode cL_conflictCount 3 = .ok (.iload_n 1, 1) := by decide +kernel
theorem dL_conflictCount_4 : decode cL_conflictCount 4 = .ok (.iload_n 2, 1) := by decide +kernel
theorem dL_conflictCount_5 : decode cL_conflictCount 5 = .ok (.invokevirtual 119, 3) := by decide +kernel
theorem dL_conflictCount_8 : decode cL_conflictCount 8 = .ok (.i2l, 1) := by decide +kernel
theorem dL_conflictCount_9 : decode cL_conflictCount 9 = .ok (.lastore, 1) := by decide +kernel
theorem dL_conflictCount_10 : decode cL_conflictCount 10 = .ok (.goto 11, 3) := by decide +kernel
theorem dL_conflictCount_13 : decode cL_conflictCount 13 = .ok (.astore 4, 2) := by decide +kernel
theorem dL_conflictCount_15 : decode cL_conflictCount 15 = .ok (.iconst 1, 1) := by decide +kernel
theorem dL_conflictCount_16 : decode cL_conflictCount 16 = .ok (.ireturn, 1) := by decide +kernel
theorem dL_conflictCount_17 : decode cL_conflictCount 17 = .ok (.astore 4, 2) := by decide +kernel
theorem dL_conflictCount_19 : decode cL_conflictCount 19 = .ok (.iconst 2, 1) := by decide +kernel
theorem dL_conflictCount_20 : decode cL_conflictCount 20 = .ok (.ireturn, 1) := by decide +kernel
theorem dL_conflictCount_21 : decode cL_conflictCount 21 = .ok (.iconst 0, 1) := by decide +kernel
theorem dL_conflictCount_22 : decode cL_conflictCount 22 = .ok (.ireturn, 1) := by decide +kernel
def f_L_conflictCount (V : Mem) (a1 : Int32) (a2 : Int32) : Option (Int32 × Mem) :=
  bh (f_X9_conflictCount V a1 a2) (fun q V => if q = 1 then some (1, V) else if q = 2 then some (2, V) else none) fun r V1 =>
  lt (stv V1 265 0 r) fun V2 => some (0, V2)
theorem cv_L_conflictCount : (yL_conflictCount.cls ≠ "java/lang/invoke/MethodHandle" ∧ yL_conflictCount.cls ≠ "java/lang/invoke/VarHandle") ∧ Cond.initialized yL_conflictCount.cls ∈ TB ∧ Cond.codeWith yL_conflictCount cL_conflictCount 5 (some .int) [(0, 10, 13, 13), (0, 10, 17, 15)] ∈ TB ∧ (parseMethodDescriptor yL_conflictCount.desc).map (fun d => d.parameters.length) = some 4 ∧ Cond.static yL_conflictCount ∈ TB := ⟨⟨by decide +kernel, by decide +kernel⟩, tw_1_0, tw_5_82, by decide +kernel, tw_5_81⟩
set_option maxRecDepth 100000 in
set_option maxHeartbeats 4000000 in
theorem m_L_conflictCount (l : Launch) (hT : l.stackTraces = false) (E : En) (ad : Nat → Nat) (V : Mem) (a1 : Int32) (a2 : Int32) (hS : SF E) (r : Int32) (Vz : Mem) (hf : f_L_conflictCount V a1 a2 = some (r, Vz)) : MW l E ad yL_conflictCount cL_conflictCount 5 (some .int) [(0, 10, 13, 13), (0, 10, 17, 15)] 9 1 6 [.ref (ad 248), .int a1, .int a2, .ref (ad 265)] V (some (.int r)) Vz := by
  refine entH (E := E) (ad := ad) (V := V) "LetterRepositoryLaw" (by decide +kernel) rfl (Nat.le_of_ble_eq_true rfl) ?_
  intro p e s m below meth c ls hC hTab hI hl
  have hx := hC.1
  have hb := hC.2.1
  have hl : lv_has ls 5 [(0, .ref (ad 248)), (1, .int a1), (2, .int a2), (3, .ref (ad 265))] := hl
  unfold f_L_conflictCount at hf
  obtain ⟨q, rr, V1, e1, hf⟩ := gbh hf
  refine lv_aload_n hx hb dL_conflictCount_0 rfl (lv_at hl 3 rfl) ?_
  refine lv_iconst (v := 0) hx hb dL_conflictCount_1 rfl ?_
  refine lv_aload_n hx hb dL_conflictCount_2 rfl (lv_at hl 0 rfl) ?_
  refine lv_iload_n hx hb dL_conflictCount_3 rfl (lv_at hl 1 rfl) ?_
  refine lv_iload_n hx hb dL_conflictCount_4 rfl (lv_at hl 2 rfl) ?_
  refine after_callH hI (xrunV_tb (As := [.int a1, .int a2]) (rest := [.int 0, .ref (ad 265)]) hC hI hl.1 (m_X9_conflictCount l hT E ad V a1 a2 hS q rr V1 e1) cv_X9_conflictCount tw_5_83 (by decide) (ce_248 _) rfl rfl rfl ⟨Nat.le_of_ble_eq_true rfl, Nat.le_of_ble_eq_true rfl⟩ ⟨Nat.le_of_ble_eq_true rfl, Nat.le_of_ble_eq_true rfl⟩ (Nat.le_of_ble_eq_true rfl) dL_conflictCount_5) (fun hq H locs q9 ce hI hcell hcv hcl => ?_) (fun hq H locs hI => ?_)
  · have hf := (if_neg hq).symm.trans hf
    rcases Decidable.em (q = 1) with c0 | c0
    · have hf := gt hf c0
      have hcl : s.vm.findClass "java/lang/IndexOutOfBoundsException" = some ce.cls := by rw [c0] at hcl; exact hcl
      refine vx_catch (own := "LetterRepositoryLaw") (name := "java/lang/IndexOutOfBoundsException") (E := "java/lang/IndexOutOfBoundsException") hC.2.2.2.1 [] (⟨0, 10, 13, 13⟩ : ExceptionTableEntry) [(⟨0, 10, 17, 15⟩ : ExceptionTableEntry)] (hTab.trans rfl) (fun _ h => nomatch h) (by decide) (by decide) (hC.2.2.2.2.1 _ tw_2_213) (ot_before hC (.inr tw_3_5) (fun _ => rfl)) hcell hcv hcl ?_
      refine lv_astore (lv' := [(4, .ref q9), (0, .ref (ad 248)), (1, .int a1), (2, .int a2), (3, .ref (ad 265))]) hx hb dL_conflictCount_13 hl (Nat.lt_of_lt_of_eq (by decide) rfl) rfl (fun ls hl => ?_)
      refine lv_iconst (v := 1) hx hb dL_conflictCount_15 rfl ?_
      refine x_wid (c2 := 1) (s2 := 6) (Nat.le_of_ble_eq_true rfl) (Nat.le_of_ble_eq_true rfl) ?_
      exact r_iret2 hC hI hf dL_conflictCount_16
    have hf := gf hf c0
    rcases Decidable.em (q = 2) with c1 | c1
    · have hf := gt hf c1
      have hcl : s.vm.findClass "java/lang/IllegalArgumentException" = some ce.cls := by rw [c1] at hcl; exact hcl
      refine vx_catch (own := "LetterRepositoryLaw") (name := "java/lang/IllegalArgumentException") (E := "java/lang/IllegalArgumentException") hC.2.2.2.1 [(⟨0, 10, 13, 13⟩ : ExceptionTableEntry)] (⟨0, 10, 17, 15⟩ : ExceptionTableEntry) [] (hTab.trans rfl) (fun z hz => by
      rcases List.mem_cons.mp hz with rfl | hz
      · exact .inr ⟨by decide, "java/lang/IndexOutOfBoundsException", hC.2.2.2.2.1 _ tw_2_213, nc_of hS hC (List.mem_cons_of_mem _ List.mem_cons_self) List.mem_cons_self (by decide)⟩
      exact absurd hz List.not_mem_nil) (by decide) (by decide) (hC.2.2.2.2.1 _ tw_2_214) (ot_before hC (.inr tw_3_76) (fun _ => rfl)) hcell hcv hcl ?_
      refine lv_astore (lv' := [(4, .ref q9), (0, .ref (ad 248)), (1, .int a1), (2, .int a2), (3, .ref (ad 265))]) hx hb dL_conflictCount_17 hl (Nat.lt_of_lt_of_eq (by decide) rfl) rfl (fun ls hl => ?_)
      refine lv_iconst (v := 2) hx hb dL_conflictCount_19 rfl ?_
      refine x_wid (c2 := 1) (s2 := 6) (Nat.le_of_ble_eq_true rfl) (Nat.le_of_ble_eq_true rfl) ?_
      exact r_iret2 hC hI hf dL_conflictCount_20
    have hf := gf hf c1
    cases hf
  · have hf := (if_pos hq).symm.trans hf
    refine lv_i2l (v := rr.toInt64) hx hb dL_conflictCount_8 rfl ?_
    obtain ⟨V2, e2, hf⟩ := gl hf
    refine r_last (x := rr) hC hI e2 dL_conflictCount_9 (fun H locs hI => ?_)
    refine lv_goto (tgt := 21) hx hb dL_conflictCount_10 (by decide) ?_
    refine lv_iconst (v := 0) hx hb dL_conflictCount_21 rfl ?_
    refine x_wid (c2 := 1) (s2 := 6) (Nat.le_of_ble_eq_true rfl) (Nat.le_of_ble_eq_true rfl) ?_
    exact r_iret2 hC hI hf dL_conflictCount_22
theorem kl_L_conflictCount {p : Program} {l : Launch} {e : Env} {R : Room} {cells slots : Nat} {s : State} {m : MethodId} {args : Array Value} {below : List Frame} {meth : Method} {c : Code} {H : Heap} {locs : List Loc} {Q : State → Prop} {E : En} {ad : Nat → Nat} {V : Mem} {ow : String} {b : ByteArray} {n : Nat} {ret : Option FieldType} {pc index : Nat} {ls : Array Slot} {rest : List Value} {a1 : Int32} {a2 : Int32} {r : Int32} {V1 : Mem} (hS : SF E) (hT : l.stackTraces = false) (hC : Cx p s m args c meth E ow b n ret) (hI : In E ad V s H locs) (hsz : ls.size = n) (hf : f_L_conflictCount V a1 a2 = some (r, V1)) (hl : Cond.methodLink ow index yL_conflictCount ∈ TB) (hR : 9 + 1 ≤ R.frames ∧ 8 + (5 + 11) + 40 * 9 ≤ R.locals) (hcs : cells + 1 ≤ R.cells ∧ slots + 6 ≤ R.slots) (hw : (rest.map fun v => v.category).sum ≤ 8) (hdg : decode b pc = .ok (.invokestatic index, 3)) (kk : ∀ (H1 : Heap) (locs1 : List Loc), In E ad V1 s H1 locs1 → W p l e R s m args below meth c H1 locs1 (cells + 1) (slots + 6) Q (F0 m (pc + 3) ls (.int r :: rest))) : W p l e R s m args below meth c H locs cells slots Q (F0 m pc ls (.ref (ad 265) :: .int a2 :: .int a1 :: .ref (ad 248) :: rest)) :=
  after_callA hI (runSW_tb (As := [.ref (ad 248), .int a1, .int a2, .ref (ad 265)]) (rest := rest) hC hI hsz (m_L_conflictCount l hT E ad V a1 a2 hS r V1 hf) cv_L_conflictCount hl rfl rfl hR hcs hw hdg) kk

theorem dL_conflictAt_0 : decode cL_conflictAt 0 = .ok (.aload 4, 2) := by decide +kernel
theorem dL_conflictAt_2 : decode cL_conflictAt 2 = .ok (.iconst 0, 1) := by decide +kernel
theorem dL_conflictAt_3 : decode cL_conflictAt 3 = .ok (.aload_n 0, 1) := by decide +kernel
theorem dL_conflictAt_4 : decode cL_conflictAt 4 = .ok (.iload_n 1, 1) := by decide +kernel
theorem dL_conflictAt_5 : decode cL_conflictAt 5 = .ok (.iload_n 2, 1) := by decide +kernel
theorem dL_conflictAt_6 : decode cL_conflictAt 6 = .ok (.iload_n 3, 1) := by decide +kernel
theorem dL_conflictAt_7 : decode cL_conflictAt 7 = .ok (.invokevirtual 122, 3) := by decide +kernel
theorem dL_conflictAt_10 : decode cL_conflictAt 10 = .ok (.i2l, 1) := by decide +kernel
theorem dL_conflictAt_11 : decode cL_conflictAt 11 = .ok (.lastore, 1) := by decide +kernel
theorem dL_conflictAt_12 : decode cL_conflictAt 12 = .ok (.goto 15, 3) := by decide +kernel
theorem dL_conflictAt_15 : decode cL_conflictAt 15 = .ok (.astore 5, 2) := by decide +kernel
theorem dL_conflictAt_17 : decode cL_conflictAt 17 = .ok (.iconst 1, 1) := by decide +kernel
theorem dL_conflictAt_18 : decode cL_conflictAt 18 = .ok (.ireturn, 1) := by decide +kernel
theorem dL_conflictAt_19 : decode cL_conflictAt 19 = .ok (.astore 5, 2) := by decide +kernel
theorem dL_conflictAt_21 : decode cL_conflictAt 21 = .ok (.iconst 2, 1) := by decide +kernel
theorem dL_conflictAt_22 : decode cL_conflictAt 22 = .ok (.ireturn, 1) := by decide +kernel
theorem dL_conflictAt_23 : decode cL_conflictAt 23 = .ok (.astore 5, 2) := by decide +kernel
theorem dL_conflictAt_25 : decode cL_conflictAt 25 = .ok (.iconst 3, 1) := by decide +kernel
theorem dL_conflictAt_26 : decode cL_conflictAt 26 = .ok (.ireturn, 1) := by decide +kernel
theorem dL_conflictAt_27 : decode cL_conflictAt 27 = .ok (.iconst 0, 1) := by decide +kernel
theorem dL_conflictAt_28 : decode cL_conflictAt 28 = .ok (.ireturn, 1) := by decide +kernel
def f_L_conflictAt (V : Mem) (a1 : Int32) (a2 : Int32) (a3 : Int32) : Option (Int32 × Mem) :=
  bh (f_X9_conflictAt V a1 a2 a3) (fun q V => if q = 1 then some (1, V) else if q = 2 then some (2, V) else if q = 3 then some (3, V) else none) fun r V1 =>
  lt (stv V1 265 0 r) fun V2 => some (0, V2)
theorem cv_L_conflictAt : (yL_conflictAt.cls ≠ "java/lang/invoke/MethodHandle" ∧ yL_conflictAt.cls ≠ "java/lang/invoke/VarHandle") ∧ Cond.initialized yL_conflictAt.cls ∈ TB ∧ Cond.codeWith yL_conflictAt cL_conflictAt 6 (some .int) [(0, 12, 15, 13), (0, 12, 19, 15), (0, 12, 23, 30)] ∈ TB ∧ (parseMethodDescriptor yL_conflictAt.desc).map (fun d => d.parameters.length) = some 5 ∧ Cond.static yL_conflictAt ∈ TB := ⟨⟨by decide +kernel, by decide +kernel⟩, tw_1_0, tw_5_95, by decide +kernel, tw_5_94⟩
set_option maxRecDepth 100000 in
set_option maxHeartbeats 4000000 in
theorem m_L_conflictAt (l : Launch) (hT : l.stackTraces = false) (E : En) (ad : Nat → Nat) (V : Mem) (a1 : Int32) (a2 : Int32) (a3 : Int32) (hS : SF E) (r : Int32) (Vz : Mem) (hf : f_L_conflictAt V a1 a2 a3 = some (r, Vz)) : MW l E ad yL_conflictAt cL_conflictAt 6 (some .int) [(0, 12, 15, 13), (0, 12, 19, 15), (0, 12, 23, 30)] 9 2 12 [.ref (ad 248), .int a1, .int a2, .int a3, .ref (ad 265)] V (some (.int r)) Vz := by
  refine entH (E := E) (ad := ad) (V := V) "LetterRepositoryLaw" (by decide +kernel) rfl (Nat.le_of_ble_eq_true rfl) ?_
  intro p e s m below meth c ls hC hTab hI hl
  have hx := hC.1
  have hb := hC.2.1
  have hl : lv_has ls 6 [(0, .ref (ad 248)), (1, .int a1), (2, .int a2), (3, .int a3), (4, .ref (ad 265))] := hl
  unfold f_L_conflictAt at hf
  obtain ⟨q, rr, V1, e1, hf⟩ := gbh hf
  refine lv_aload hx hb dL_conflictAt_0 (lv_at hl 4 rfl) ?_
  refine lv_iconst (v := 0) hx hb dL_conflictAt_2 rfl ?_
  refine lv_aload_n hx hb dL_conflictAt_3 rfl (lv_at hl 0 rfl) ?_
  refine lv_iload_n hx hb dL_conflictAt_4 rfl (lv_at hl 1 rfl) ?_
  refine lv_iload_n hx hb dL_conflictAt_5 rfl (lv_at hl 2 rfl) ?_
  refine lv_iload_n hx hb dL_conflictAt_6 rfl (lv_at hl 3 rfl) ?_
  refine after_callH hI (xrunV_tb (As := [.int a1, .int a2, .int a3]) (rest := [.int 0, .ref (ad 265)]) hC hI hl.1 (m_X9_conflictAt l hT E ad V a1 a2 a3 hS q rr V1 e1) cv_X9_conflictAt tw_5_96 (by decide) (ce_248 _) rfl rfl rfl ⟨Nat.le_of_ble_eq_true rfl, Nat.le_of_ble_eq_true rfl⟩ ⟨Nat.le_of_ble_eq_true rfl, Nat.le_of_ble_eq_true rfl⟩ (Nat.le_of_ble_eq_true rfl) dL_conflictAt_7) (fun hq H locs q9 ce hI hcell hcv hcl => ?_) (fun hq H locs hI => ?_)
  · have hf := (if_neg hq).symm.trans hf
    rcases Decidable.em (q = 1) with c0 | c0
    · have hf := gt hf c0
      have hcl : s.vm.findClass "java/lang/IndexOutOfBoundsException" = some ce.cls := by rw [c0] at hcl; exact hcl
      refine vx_catch (own := "LetterRepositoryLaw") (name := "java/lang/IndexOutOfBoundsException") (E := "java/lang/IndexOutOfBoundsException") hC.2.2.2.1 [] (⟨0, 12, 15, 13⟩ : ExceptionTableEntry) [(⟨0, 12, 19, 15⟩ : ExceptionTableEntry), (⟨0, 12, 23, 30⟩ : ExceptionTableEntry)] (hTab.trans rfl) (fun _ h => nomatch h) (by decide) (by decide) (hC.2.2.2.2.1 _ tw_2_213) (ot_before hC (.inr tw_3_5) (fun _ => rfl)) hcell hcv hcl ?_
      refine lv_astore (lv' := [(5, .ref q9), (0, .ref (ad 248)), (1, .int a1), (2, .int a2), (3, .int a3), (4, .ref (ad 265))]) hx hb dL_conflictAt_15 hl (Nat.lt_of_lt_of_eq (by decide) rfl) rfl (fun ls hl => ?_)
      refine lv_iconst (v := 1) hx hb dL_conflictAt_17 rfl ?_
      refine x_wid (c2 := 2) (s2 := 12) (Nat.le_of_ble_eq_true rfl) (Nat.le_of_ble_eq_true rfl) ?_
      exact r_iret2 hC hI hf dL_conflictAt_18
    have hf := gf hf c0
    rcases Decidable.em (q = 2) with c1 | c1
    · have hf := gt hf c1
      have hcl : s.vm.findClass "java/lang/IllegalArgumentException" = some ce.cls := by rw [c1] at hcl; exact hcl
      refine vx_catch (own := "LetterRepositoryLaw") (name := "java/lang/IllegalArgumentException") (E := "java/lang/IllegalArgumentException") hC.2.2.2.1 [(⟨0, 12, 15, 13⟩ : ExceptionTableEntry)] (⟨0, 12, 19, 15⟩ : ExceptionTableEntry) [(⟨0, 12, 23, 30⟩ : ExceptionTableEntry)] (hTab.trans rfl) (fun z hz => by
      rcases List.mem_cons.mp hz with rfl | hz
      · exact .inr ⟨by decide, "java/lang/IndexOutOfBoundsException", hC.2.2.2.2.1 _ tw_2_213, nc_of hS hC (List.mem_cons_of_mem _ List.mem_cons_self) List.mem_cons_self (by decide)⟩
      exact absurd hz List.not_mem_nil) (by decide) (by decide) (hC.2.2.2.2.1 _ tw_2_214) (ot_before hC (.inr tw_3_76) (fun _ => rfl)) hcell hcv hcl ?_
      refine lv_astore (lv' := [(5, .ref q9), (0, .ref (ad 248)), (1, .int a1), (2, .int a2), (3, .int a3), (4, .ref (ad 265))]) hx hb dL_conflictAt_19 hl (Nat.lt_of_lt_of_eq (by decide) rfl) rfl (fun ls hl => ?_)
      refine lv_iconst (v := 2) hx hb dL_conflictAt_21 rfl ?_
      refine x_wid (c2 := 2) (s2 := 12) (Nat.le_of_ble_eq_true rfl) (Nat.le_of_ble_eq_true rfl) ?_
      exact r_iret2 hC hI hf dL_conflictAt_22
    have hf := gf hf c1
    rcases Decidable.em (q = 3) with c2 | c2
    · have hf := gt hf c2
      have hcl : s.vm.findClass "java/util/NoSuchElementException" = some ce.cls := by rw [c2] at hcl; exact hcl
      refine vx_catch (own := "LetterRepositoryLaw") (name := "java/util/NoSuchElementException") (E := "java/util/NoSuchElementException") hC.2.2.2.1 [(⟨0, 12, 15, 13⟩ : ExceptionTableEntry), (⟨0, 12, 19, 15⟩ : ExceptionTableEntry)] (⟨0, 12, 23, 30⟩ : ExceptionTableEntry) [] (hTab.trans rfl) (fun z hz => by
      rcases List.mem_cons.mp hz with rfl | hz
      · exact .inr ⟨by decide, "java/lang/IndexOutOfBoundsException", hC.2.2.2.2.1 _ tw_2_213, nc_of hS hC (List.mem_cons_of_mem _ (List.mem_cons_of_mem _ List.mem_cons_self)) List.mem_cons_self (by decide)⟩
      rcases List.mem_cons.mp hz with rfl | hz
      · exact .inr ⟨by decide, "java/lang/IllegalArgumentException", hC.2.2.2.2.1 _ tw_2_214, nc_of hS hC (List.mem_cons_of_mem _ (List.mem_cons_of_mem _ List.mem_cons_self)) (List.mem_cons_of_mem _ List.mem_cons_self) (by decide)⟩
      exact absurd hz List.not_mem_nil) (by decide) (by decide) (hC.2.2.2.2.1 _ tw_3_209) (ot_before hC (.inr tw_3_94) (fun _ => rfl)) hcell hcv hcl ?_
      refine lv_astore (lv' := [(5, .ref q9), (0, .ref (ad 248)), (1, .int a1), (2, .int a2), (3, .int a3), (4, .ref (ad 265))]) hx hb dL_conflictAt_23 hl (Nat.lt_of_lt_of_eq (by decide) rfl) rfl (fun ls hl => ?_)
      refine lv_iconst (v := 3) hx hb dL_conflictAt_25 rfl ?_
      refine x_wid (c2 := 2) (s2 := 12) (Nat.le_of_ble_eq_true rfl) (Nat.le_of_ble_eq_true rfl) ?_
      exact r_iret2 hC hI hf dL_conflictAt_26
    have hf := gf hf c2
    cases hf
  · have hf := (if_pos hq).symm.trans hf
    refine lv_i2l (v := rr.toInt64) hx hb dL_conflictAt_10 rfl ?_
    obtain ⟨V2, e2, hf⟩ := gl hf
    refine r_last (x := rr) hC hI e2 dL_conflictAt_11 (fun H locs hI => ?_)
    refine lv_goto (tgt := 27) hx hb dL_conflictAt_12 (by decide) ?_
    refine lv_iconst (v := 0) hx hb dL_conflictAt_27 rfl ?_
    refine x_wid (c2 := 2) (s2 := 12) (Nat.le_of_ble_eq_true rfl) (Nat.le_of_ble_eq_true rfl) ?_
    exact r_iret2 hC hI hf dL_conflictAt_28
theorem kl_L_conflictAt {p : Program} {l : Launch} {e : Env} {R : Room} {cells slots : Nat} {s : State} {m : MethodId} {args : Array Value} {below : List Frame} {meth : Method} {c : Code} {H : Heap} {locs : List Loc} {Q : State → Prop} {E : En} {ad : Nat → Nat} {V : Mem} {ow : String} {b : ByteArray} {n : Nat} {ret : Option FieldType} {pc index : Nat} {ls : Array Slot} {rest : List Value} {a1 : Int32} {a2 : Int32} {a3 : Int32} {r : Int32} {V1 : Mem} (hS : SF E) (hT : l.stackTraces = false) (hC : Cx p s m args c meth E ow b n ret) (hI : In E ad V s H locs) (hsz : ls.size = n) (hf : f_L_conflictAt V a1 a2 a3 = some (r, V1)) (hl : Cond.methodLink ow index yL_conflictAt ∈ TB) (hR : 9 + 1 ≤ R.frames ∧ 8 + (6 + 11) + 40 * 9 ≤ R.locals) (hcs : cells + 2 ≤ R.cells ∧ slots + 12 ≤ R.slots) (hw : (rest.map fun v => v.category).sum ≤ 8) (hdg : decode b pc = .ok (.invokestatic index, 3)) (kk : ∀ (H1 : Heap) (locs1 : List Loc), In E ad V1 s H1 locs1 → W p l e R s m args below meth c H1 locs1 (cells + 2) (slots + 12) Q (F0 m (pc + 3) ls (.int r :: rest))) : W p l e R s m args below meth c H locs cells slots Q (F0 m pc ls (.ref (ad 265) :: .int a3 :: .int a2 :: .int a1 :: .ref (ad 248) :: rest)) :=
  after_callA hI (runSW_tb (As := [.ref (ad 248), .int a1, .int a2, .int a3, .ref (ad 265)]) (rest := rest) hC hI hsz (m_L_conflictAt l hT E ad V a1 a2 a3 hS r V1 hf) cv_L_conflictAt hl rfl rfl hR hcs hw hdg) kk

theorem dL_canMerge_0 : decode cL_canMerge 0 = .ok (.aload_n 3, 1) := by decide +kernel
theorem dL_canMerge_1 : decode cL_canMerge 1 = .ok (.iconst 0, 1) := by decide +kernel
theorem dL_canMerge_2 : decode cL_canMerge 2 = .ok (.aload_n 0, 1) := by decide +kernel
theorem dL_canMerge_3 : decode cL_canMerge 3 = .ok (.iload_n 1, 1) := by decide +kernel
theorem dL_canMerge_4 : decode cL_canMerge 4 = .ok (.iload_n 2, 1) := by decide +kernel
theorem dL_canMerge_5 : decode cL_canMerge 5 = .ok (.invokevirtual 126, 3) := by decide +kernel
theorem dL_canMerge_8 : decode cL_canMerge 8 = .ok (.ifCond .eq 7, 3) := by decide +kernel
theorem dL_canMerge_11 : decode cL_canMerge 11 = .ok (.lconst 1, 1) := by decide +kernel
theorem dL_canMerge_12 : decode cL_canMerge 12 = .ok (.goto 4, 3) := by decide +kernel
theorem dL_canMerge_15 : decode cL_canMerge 15 = .ok (.lconst 0, 1) := by decide +kernel
theorem dL_canMerge_16 : decode cL_canMerge 16 = .ok (.lastore, 1) := by decide +kernel
theorem dL_canMerge_17 : decode cL_canMerge 17 = .ok (.goto 11, 3) := by decide +kernel
theorem dL_canMerge_20 : decode cL_canMerge 20 = .ok (.astore 4, 2) := by decide +kernel
theorem dL_canMerge_22 : decode cL_canMerge 22 = .ok (.iconst 1, 1) := by decide +kernel
theorem dL_canMerge_23 : decode cL_canMerge 23 = .ok (.ireturn, 1) := by decide +kernel
theorem dL_canMerge_24 : decode cL_canMerge 24 = .ok (.astore 4, 2) := by decide +kernel
theorem dL_canMerge_26 : decode cL_canMerge 26 = .ok (.iconst 2, 1) := by decide +kernel
theorem dL_canMerge_27 : decode cL_canMerge 27 = .ok (.ireturn, 1) := by decide +kernel
theorem dL_canMerge_28 : decode cL_canMerge 28 = .ok (.iconst 0, 1) := by decide +kernel
theorem dL_canMerge_29 : decode cL_canMerge 29 = .ok (.ireturn, 1) := by decide +kernel
def f_L_canMerge (V : Mem) (a1 : Int32) (a2 : Int32) : Option (Int32 × Mem) :=
  bh (f_X9_canMerge V a1 a2) (fun q V => if q = 1 then some (1, V) else if q = 2 then some (2, V) else none) fun r V1 =>
  if r = 0 then lt (stv V1 265 0 0) fun V2 => some (0, V2) else lt (stv V1 265 0 1) fun V2 => some (0, V2)
theorem cv_L_canMerge : (yL_canMerge.cls ≠ "java/lang/invoke/MethodHandle" ∧ yL_canMerge.cls ≠ "java/lang/invoke/VarHandle") ∧ Cond.initialized yL_canMerge.cls ∈ TB ∧ Cond.codeWith yL_canMerge cL_canMerge 5 (some .int) [(0, 17, 20, 13), (0, 17, 24, 15)] ∈ TB ∧ (parseMethodDescriptor yL_canMerge.desc).map (fun d => d.parameters.length) = some 4 ∧ Cond.static yL_canMerge ∈ TB := ⟨⟨by decide +kernel, by decide +kernel⟩, tw_1_0, tw_5_106, by decide +kernel, tw_5_105⟩
set_option maxRecDepth 100000 in
set_option maxHeartbeats 4000000 in
theorem m_L_canMerge (l : Launch) (hT : l.stackTraces = false) (E : En) (ad : Nat → Nat) (V : Mem) (a1 : Int32) (a2 : Int32) (hS : SF E) (r : Int32) (Vz : Mem) (hf : f_L_canMerge V a1 a2 = some (r, Vz)) : MW l E ad yL_canMerge cL_canMerge 5 (some .int) [(0, 17, 20, 13), (0, 17, 24, 15)] 9 1 6 [.ref (ad 248), .int a1, .int a2, .ref (ad 265)] V (some (.int r)) Vz := by
  refine entH (E := E) (ad := ad) (V := V) "LetterRepositoryLaw" (by decide +kernel) rfl (Nat.le_of_ble_eq_true rfl) ?_
  intro p e s m below meth c ls hC hTab hI hl
  have hx := hC.1
  have hb := hC.2.1
  have hl : lv_has ls 5 [(0, .ref (ad 248)), (1, .int a1), (2, .int a2), (3, .ref (ad 265))] := hl
  unfold f_L_canMerge at hf
  obtain ⟨q, rr, V1, e1, hf⟩ := gbh hf
  refine lv_aload_n hx hb dL_canMerge_0 rfl (lv_at hl 3 rfl) ?_
  refine lv_iconst (v := 0) hx hb dL_canMerge_1 rfl ?_
  refine lv_aload_n hx hb dL_canMerge_2 rfl (lv_at hl 0 rfl) ?_
  refine lv_iload_n hx hb dL_canMerge_3 rfl (lv_at hl 1 rfl) ?_
  refine lv_iload_n hx hb dL_canMerge_4 rfl (lv_at hl 2 rfl) ?_
  refine after_callH hI (xrunV_tb (As := [.int a1, .int a2]) (rest := [.int 0, .ref (ad 265)]) hC hI hl.1 (m_X9_canMerge l hT E ad V a1 a2 hS q rr V1 e1) cv_X9_canMerge tw_5_107 (by decide) (ce_248 _) rfl rfl rfl ⟨Nat.le_of_ble_eq_true rfl, Nat.le_of_ble_eq_true rfl⟩ ⟨Nat.le_of_ble_eq_true rfl, Nat.le_of_ble_eq_true rfl⟩ (Nat.le_of_ble_eq_true rfl) dL_canMerge_5) (fun hq H locs q9 ce hI hcell hcv hcl => ?_) (fun hq H locs hI => ?_)
  · have hf := (if_neg hq).symm.trans hf
    rcases Decidable.em (q = 1) with c0 | c0
    · have hf := gt hf c0
      have hcl : s.vm.findClass "java/lang/IndexOutOfBoundsException" = some ce.cls := by rw [c0] at hcl; exact hcl
      refine vx_catch (own := "LetterRepositoryLaw") (name := "java/lang/IndexOutOfBoundsException") (E := "java/lang/IndexOutOfBoundsException") hC.2.2.2.1 [] (⟨0, 17, 20, 13⟩ : ExceptionTableEntry) [(⟨0, 17, 24, 15⟩ : ExceptionTableEntry)] (hTab.trans rfl) (fun _ h => nomatch h) (by decide) (by decide) (hC.2.2.2.2.1 _ tw_2_213) (ot_before hC (.inr tw_3_5) (fun _ => rfl)) hcell hcv hcl ?_
      refine lv_astore (lv' := [(4, .ref q9), (0, .ref (ad 248)), (1, .int a1), (2, .int a2), (3, .ref (ad 265))]) hx hb dL_canMerge_20 hl (Nat.lt_of_lt_of_eq (by decide) rfl) rfl (fun ls hl => ?_)
      refine lv_iconst (v := 1) hx hb dL_canMerge_22 rfl ?_
      refine x_wid (c2 := 1) (s2 := 6) (Nat.le_of_ble_eq_true rfl) (Nat.le_of_ble_eq_true rfl) ?_
      exact r_iret2 hC hI hf dL_canMerge_23
    have hf := gf hf c0
    rcases Decidable.em (q = 2) with c1 | c1
    · have hf := gt hf c1
      have hcl : s.vm.findClass "java/lang/IllegalArgumentException" = some ce.cls := by rw [c1] at hcl; exact hcl
      refine vx_catch (own := "LetterRepositoryLaw") (name := "java/lang/IllegalArgumentException") (E := "java/lang/IllegalArgumentException") hC.2.2.2.1 [(⟨0, 17, 20, 13⟩ : ExceptionTableEntry)] (⟨0, 17, 24, 15⟩ : ExceptionTableEntry) [] (hTab.trans rfl) (fun z hz => by
      rcases List.mem_cons.mp hz with rfl | hz
      · exact .inr ⟨by decide, "java/lang/IndexOutOfBoundsException", hC.2.2.2.2.1 _ tw_2_213, nc_of hS hC (List.mem_cons_of_mem _ List.mem_cons_self) List.mem_cons_self (by decide)⟩
      exact absurd hz List.not_mem_nil) (by decide) (by decide) (hC.2.2.2.2.1 _ tw_2_214) (ot_before hC (.inr tw_3_76) (fun _ => rfl)) hcell hcv hcl ?_
      refine lv_astore (lv' := [(4, .ref q9), (0, .ref (ad 248)), (1, .int a1), (2, .int a2), (3, .ref (ad 265))]) hx hb dL_canMerge_24 hl (Nat.lt_of_lt_of_eq (by decide) rfl) rfl (fun ls hl => ?_)
      refine lv_iconst (v := 2) hx hb dL_canMerge_26 rfl ?_
      refine x_wid (c2 := 1) (s2 := 6) (Nat.le_of_ble_eq_true rfl) (Nat.le_of_ble_eq_true rfl) ?_
      exact r_iret2 hC hI hf dL_canMerge_27
    have hf := gf hf c1
    cases hf
  · have hf := (if_pos hq).symm.trans hf
    refine lv_if_eq (tgt := 15) hx hb dL_canMerge_8 (by decide) (fun c9 => ?_) (fun c9 => ?_)
    · have hf := (if_pos c9).symm.trans hf
      obtain ⟨V2, e2, hf⟩ := gl hf
      refine lv_lconst (v := (0 : Int32).toInt64) hx hb dL_canMerge_15 rfl ?_
      refine r_last (x := 0) hC hI e2 dL_canMerge_16 (fun H locs hI => ?_)
      refine lv_goto (tgt := 28) hx hb dL_canMerge_17 (by decide) ?_
      refine lv_iconst (v := 0) hx hb dL_canMerge_28 rfl ?_
      refine x_wid (c2 := 1) (s2 := 6) (Nat.le_of_ble_eq_true rfl) (Nat.le_of_ble_eq_true rfl) ?_
      exact r_iret2 hC hI hf dL_canMerge_29
    · have hf := (if_neg c9).symm.trans hf
      obtain ⟨V2, e2, hf⟩ := gl hf
      refine lv_lconst (v := (1 : Int32).toInt64) hx hb dL_canMerge_11 rfl ?_
      refine lv_goto (tgt := 16) hx hb dL_canMerge_12 (by decide) ?_
      refine r_last (x := 1) hC hI e2 dL_canMerge_16 (fun H locs hI => ?_)
      refine lv_goto (tgt := 28) hx hb dL_canMerge_17 (by decide) ?_
      refine lv_iconst (v := 0) hx hb dL_canMerge_28 rfl ?_
      refine x_wid (c2 := 1) (s2 := 6) (Nat.le_of_ble_eq_true rfl) (Nat.le_of_ble_eq_true rfl) ?_
      exact r_iret2 hC hI hf dL_canMerge_29
theorem kl_L_canMerge {p : Program} {l : Launch} {e : Env} {R : Room} {cells slots : Nat} {s : State} {m : MethodId} {args : Array Value} {below : List Frame} {meth : Method} {c : Code} {H : Heap} {locs : List Loc} {Q : State → Prop} {E : En} {ad : Nat → Nat} {V : Mem} {ow : String} {b : ByteArray} {n : Nat} {ret : Option FieldType} {pc index : Nat} {ls : Array Slot} {rest : List Value} {a1 : Int32} {a2 : Int32} {r : Int32} {V1 : Mem} (hS : SF E) (hT : l.stackTraces = false) (hC : Cx p s m args c meth E ow b n ret) (hI : In E ad V s H locs) (hsz : ls.size = n) (hf : f_L_canMerge V a1 a2 = some (r, V1)) (hl : Cond.methodLink ow index yL_canMerge ∈ TB) (hR : 9 + 1 ≤ R.frames ∧ 8 + (5 + 11) + 40 * 9 ≤ R.locals) (hcs : cells + 1 ≤ R.cells ∧ slots + 6 ≤ R.slots) (hw : (rest.map fun v => v.category).sum ≤ 8) (hdg : decode b pc = .ok (.invokestatic index, 3)) (kk : ∀ (H1 : Heap) (locs1 : List Loc), In E ad V1 s H1 locs1 → W p l e R s m args below meth c H1 locs1 (cells + 1) (slots + 6) Q (F0 m (pc + 3) ls (.int r :: rest))) : W p l e R s m args below meth c H locs cells slots Q (F0 m pc ls (.ref (ad 265) :: .int a2 :: .int a1 :: .ref (ad 248) :: rest)) :=
  after_callA hI (runSW_tb (As := [.ref (ad 248), .int a1, .int a2, .ref (ad 265)]) (rest := rest) hC hI hsz (m_L_canMerge l hT E ad V a1 a2 hS r V1 hf) cv_L_canMerge hl rfl rfl hR hcs hw hdg) kk

theorem dL_mergedLetter_0 : decode cL_mergedLetter 0 = .ok (.aload 4, 2) := by decide +kernel
theorem dL_mergedLetter_2 : decode cL_mergedLetter 2 = .ok (.iconst 0, 1) := by decide +kernel
theorem dL_mergedLetter_3 : decode cL_mergedLetter 3 = .ok (.aload_n 0, 1) := by decide +kernel
theorem dL_mergedLetter_4 : decode cL_mergedLetter 4 = .ok (.iload_n 1, 1) := by decide +kernel
theorem dL_mergedLetter_5 : decode cL_mergedLetter 5 = .ok (.iload_n 2, 1) := by decide +kernel
theorem dL_mergedLetter_6 : decode cL_mergedLetter 6 = .ok (.iload_n 3, 1) := by decide +kernel
theorem dL_mergedLetter_7 : decode cL_mergedLetter 7 = .ok (.invokevirtual 129, 3) := by decide +kernel
theorem dL_mergedLetter_10 : decode cL_mergedLetter 10 = .ok (.i2l, 1) := by decide +kernel
theorem dL_mergedLetter_11 : decode cL_mergedLetter 11 = .ok (.lastore, 1) := by decide +kernel
theorem dL_mergedLetter_12 : decode cL_mergedLetter 12 = .ok (.goto 15, 3) := by decide +kernel
theorem dL_mergedLetter_15 : decode cL_mergedLetter 15 = .ok (.astore 5, 2) := by decide +kernel
theorem dL_mergedLetter_17 : decode cL_mergedLetter 17 = .ok (.iconst 1, 1) := by decide +kernel
theorem dL_mergedLetter_18 : decode cL_mergedLetter 18 = .ok (.ireturn, 1) := by decide +kernel
theorem dL_mergedLetter_19 : decode cL_mergedLetter 19 = .ok (.astore 5, 2) := by decide +kernel
theorem dL_mergedLetter_21 : decode cL_mergedLetter 21 = .ok (.iconst 2, 1) := by decide +kernel
theorem dL_mergedLetter_22 : decode cL_mergedLetter 22 = .ok (.ireturn, 1) := by decide +kernel
theorem dL_mergedLetter_23 : decode cL_mergedLetter 23 = .ok (.astore 5, 2) := by decide +kernel
theorem dL_mergedLetter_25 : decode cL_mergedLetter 25 = .ok (.iconst 3, 1) := by decide +kernel
theorem dL_mergedLetter_26 : decode cL_mergedLetter 26 = .ok (.ireturn, 1) := by decide +kernel
theorem dL_mergedLetter_27 : decode cL_mergedLetter 27 = .ok (.iconst 0, 1) := by decide +kernel
theorem dL_mergedLetter_28 : decode cL_mergedLetter 28 = .ok (.ireturn, 1) := by decide +kernel
def f_L_mergedLetter (V : Mem) (a1 : Int32) (a2 : Int32) (a3 : Int32) : Option (Int32 × Mem) :=
  bh (f_X9_mergedLetter V a1 a2 a3) (fun q V => if q = 1 then some (1, V) else if q = 2 then some (2, V) else if q = 3 then some (3, V) else none) fun r V1 =>
  lt (stv V1 265 0 r) fun V2 => some (0, V2)
theorem cv_L_mergedLetter : (yL_mergedLetter.cls ≠ "java/lang/invoke/MethodHandle" ∧ yL_mergedLetter.cls ≠ "java/lang/invoke/VarHandle") ∧ Cond.initialized yL_mergedLetter.cls ∈ TB ∧ Cond.codeWith yL_mergedLetter cL_mergedLetter 6 (some .int) [(0, 12, 15, 13), (0, 12, 19, 15), (0, 12, 23, 30)] ∈ TB ∧ (parseMethodDescriptor yL_mergedLetter.desc).map (fun d => d.parameters.length) = some 5 ∧ Cond.static yL_mergedLetter ∈ TB := ⟨⟨by decide +kernel, by decide +kernel⟩, tw_1_0, tw_5_114, by decide +kernel, tw_5_113⟩
set_option maxRecDepth 100000 in
set_option maxHeartbeats 4000000 in
theorem m_L_mergedLetter (l : Launch) (hT : l.stackTraces = false) (E : En) (ad : Nat → Nat) (V : Mem) (a1 : Int32) (a2 : Int32) (a3 : Int32) (hS : SF E) (r : Int32) (Vz : Mem) (hf : f_L_mergedLetter V a1 a2 a3 = some (r, Vz)) : MW l E ad yL_mergedLetter cL_mergedLetter 6 (some .int) [(0, 12, 15, 13), (0, 12, 19, 15), (0, 12, 23, 30)] 9 3 18 [.ref (ad 248), .int a1, .int a2, .int a3, .ref (ad 265)] V (some (.int r)) Vz := by
  refine entH (E := E) (ad := ad) (V := V) "LetterRepositoryLaw" (by decide +kernel) rfl (Nat.le_of_ble_eq_true rfl) ?_
  intro p e s m below meth c ls hC hTab hI hl
  have hx := hC.1
  have hb := hC.2.1
  have hl : lv_has ls 6 [(0, .ref (ad 248)), (1, .int a1), (2, .int a2), (3, .int a3), (4, .ref (ad 265))] := hl
  unfold f_L_mergedLetter at hf
  obtain ⟨q, rr, V1, e1, hf⟩ := gbh hf
  refine lv_aload hx hb dL_mergedLetter_0 (lv_at hl 4 rfl) ?_
  refine lv_iconst (v := 0) hx hb dL_mergedLetter_2 rfl ?_
  refine lv_aload_n hx hb dL_mergedLetter_3 rfl (lv_at hl 0 rfl) ?_
  refine lv_iload_n hx hb dL_mergedLetter_4 rfl (lv_at hl 1 rfl) ?_
  refine lv_iload_n hx hb dL_mergedLetter_5 rfl (lv_at hl 2 rfl) ?_
  refine lv_iload_n hx hb dL_mergedLetter_6 rfl (lv_at hl 3 rfl) ?_
  refine after_callH hI (xrunV_tb (As := [.int a1, .int a2, .int a3]) (rest := [.int 0, .ref (ad 265)]) hC hI hl.1 (m_X9_mergedLetter l hT E ad V a1 a2 a3 hS q rr V1 e1) cv_X9_mergedLetter tw_5_115 (by decide) (ce_248 _) rfl rfl rfl ⟨Nat.le_of_ble_eq_true rfl, Nat.le_of_ble_eq_true rfl⟩ ⟨Nat.le_of_ble_eq_true rfl, Nat.le_of_ble_eq_true rfl⟩ (Nat.le_of_ble_eq_true rfl) dL_mergedLetter_7) (fun hq H locs q9 ce hI hcell hcv hcl => ?_) (fun hq H locs hI => ?_)
  · have hf := (if_neg hq).symm.trans hf
    rcases Decidable.em (q = 1) with c0 | c0
    · have hf := gt hf c0
      have hcl : s.vm.findClass "java/lang/IndexOutOfBoundsException" = some ce.cls := by rw [c0] at hcl; exact hcl
      refine vx_catch (own := "LetterRepositoryLaw") (name := "java/lang/IndexOutOfBoundsException") (E := "java/lang/IndexOutOfBoundsException") hC.2.2.2.1 [] (⟨0, 12, 15, 13⟩ : ExceptionTableEntry) [(⟨0, 12, 19, 15⟩ : ExceptionTableEntry), (⟨0, 12, 23, 30⟩ : ExceptionTableEntry)] (hTab.trans rfl) (fun _ h => nomatch h) (by decide) (by decide) (hC.2.2.2.2.1 _ tw_2_213) (ot_before hC (.inr tw_3_5) (fun _ => rfl)) hcell hcv hcl ?_
      refine lv_astore (lv' := [(5, .ref q9), (0, .ref (ad 248)), (1, .int a1), (2, .int a2), (3, .int a3), (4, .ref (ad 265))]) hx hb dL_mergedLetter_15 hl (Nat.lt_of_lt_of_eq (by decide) rfl) rfl (fun ls hl => ?_)
      refine lv_iconst (v := 1) hx hb dL_mergedLetter_17 rfl ?_
      refine x_wid (c2 := 3) (s2 := 18) (Nat.le_of_ble_eq_true rfl) (Nat.le_of_ble_eq_true rfl) ?_
      exact r_iret2 hC hI hf dL_mergedLetter_18
    have hf := gf hf c0
    rcases Decidable.em (q = 2) with c1 | c1
    · have hf := gt hf c1
      have hcl : s.vm.findClass "java/lang/IllegalArgumentException" = some ce.cls := by rw [c1] at hcl; exact hcl
      refine vx_catch (own := "LetterRepositoryLaw") (name := "java/lang/IllegalArgumentException") (E := "java/lang/IllegalArgumentException") hC.2.2.2.1 [(⟨0, 12, 15, 13⟩ : ExceptionTableEntry)] (⟨0, 12, 19, 15⟩ : ExceptionTableEntry) [(⟨0, 12, 23, 30⟩ : ExceptionTableEntry)] (hTab.trans rfl) (fun z hz => by
      rcases List.mem_cons.mp hz with rfl | hz
      · exact .inr ⟨by decide, "java/lang/IndexOutOfBoundsException", hC.2.2.2.2.1 _ tw_2_213, nc_of hS hC (List.mem_cons_of_mem _ List.mem_cons_self) List.mem_cons_self (by decide)⟩
      exact absurd hz List.not_mem_nil) (by decide) (by decide) (hC.2.2.2.2.1 _ tw_2_214) (ot_before hC (.inr tw_3_76) (fun _ => rfl)) hcell hcv hcl ?_
      refine lv_astore (lv' := [(5, .ref q9), (0, .ref (ad 248)), (1, .int a1), (2, .int a2), (3, .int a3), (4, .ref (ad 265))]) hx hb dL_mergedLetter_19 hl (Nat.lt_of_lt_of_eq (by decide) rfl) rfl (fun ls hl => ?_)
      refine lv_iconst (v := 2) hx hb dL_mergedLetter_21 rfl ?_
      refine x_wid (c2 := 3) (s2 := 18) (Nat.le_of_ble_eq_true rfl) (Nat.le_of_ble_eq_true rfl) ?_
      exact r_iret2 hC hI hf dL_mergedLetter_22
    have hf := gf hf c1
    rcases Decidable.em (q = 3) with c2 | c2
    · have hf := gt hf c2
      have hcl : s.vm.findClass "java/util/NoSuchElementException" = some ce.cls := by rw [c2] at hcl; exact hcl
      refine vx_catch (own := "LetterRepositoryLaw") (name := "java/util/NoSuchElementException") (E := "java/util/NoSuchElementException") hC.2.2.2.1 [(⟨0, 12, 15, 13⟩ : ExceptionTableEntry), (⟨0, 12, 19, 15⟩ : ExceptionTableEntry)] (⟨0, 12, 23, 30⟩ : ExceptionTableEntry) [] (hTab.trans rfl) (fun z hz => by
      rcases List.mem_cons.mp hz with rfl | hz
      · exact .inr ⟨by decide, "java/lang/IndexOutOfBoundsException", hC.2.2.2.2.1 _ tw_2_213, nc_of hS hC (List.mem_cons_of_mem _ (List.mem_cons_of_mem _ List.mem_cons_self)) List.mem_cons_self (by decide)⟩
      rcases List.mem_cons.mp hz with rfl | hz
      · exact .inr ⟨by decide, "java/lang/IllegalArgumentException", hC.2.2.2.2.1 _ tw_2_214, nc_of hS hC (List.mem_cons_of_mem _ (List.mem_cons_of_mem _ List.mem_cons_self)) (List.mem_cons_of_mem _ List.mem_cons_self) (by decide)⟩
      exact absurd hz List.not_mem_nil) (by decide) (by decide) (hC.2.2.2.2.1 _ tw_3_209) (ot_before hC (.inr tw_3_94) (fun _ => rfl)) hcell hcv hcl ?_
      refine lv_astore (lv' := [(5, .ref q9), (0, .ref (ad 248)), (1, .int a1), (2, .int a2), (3, .int a3), (4, .ref (ad 265))]) hx hb dL_mergedLetter_23 hl (Nat.lt_of_lt_of_eq (by decide) rfl) rfl (fun ls hl => ?_)
      refine lv_iconst (v := 3) hx hb dL_mergedLetter_25 rfl ?_
      refine x_wid (c2 := 3) (s2 := 18) (Nat.le_of_ble_eq_true rfl) (Nat.le_of_ble_eq_true rfl) ?_
      exact r_iret2 hC hI hf dL_mergedLetter_26
    have hf := gf hf c2
    cases hf
  · have hf := (if_pos hq).symm.trans hf
    refine lv_i2l (v := rr.toInt64) hx hb dL_mergedLetter_10 rfl ?_
    obtain ⟨V2, e2, hf⟩ := gl hf
    refine r_last (x := rr) hC hI e2 dL_mergedLetter_11 (fun H locs hI => ?_)
    refine lv_goto (tgt := 27) hx hb dL_mergedLetter_12 (by decide) ?_
    refine lv_iconst (v := 0) hx hb dL_mergedLetter_27 rfl ?_
    refine x_wid (c2 := 3) (s2 := 18) (Nat.le_of_ble_eq_true rfl) (Nat.le_of_ble_eq_true rfl) ?_
    exact r_iret2 hC hI hf dL_mergedLetter_28
theorem kl_L_mergedLetter {p : Program} {l : Launch} {e : Env} {R : Room} {cells slots : Nat} {s : State} {m : MethodId} {args : Array Value} {below : List Frame} {meth : Method} {c : Code} {H : Heap} {locs : List Loc} {Q : State → Prop} {E : En} {ad : Nat → Nat} {V : Mem} {ow : String} {b : ByteArray} {n : Nat} {ret : Option FieldType} {pc index : Nat} {ls : Array Slot} {rest : List Value} {a1 : Int32} {a2 : Int32} {a3 : Int32} {r : Int32} {V1 : Mem} (hS : SF E) (hT : l.stackTraces = false) (hC : Cx p s m args c meth E ow b n ret) (hI : In E ad V s H locs) (hsz : ls.size = n) (hf : f_L_mergedLetter V a1 a2 a3 = some (r, V1)) (hl : Cond.methodLink ow index yL_mergedLetter ∈ TB) (hR : 9 + 1 ≤ R.frames ∧ 8 + (6 + 11) + 40 * 9 ≤ R.locals) (hcs : cells + 3 ≤ R.cells ∧ slots + 18 ≤ R.slots) (hw : (rest.map fun v => v.category).sum ≤ 8) (hdg : decode b pc = .ok (.invokestatic index, 3)) (kk : ∀ (H1 : Heap) (locs1 : List Loc), In E ad V1 s H1 locs1 → W p l e R s m args below meth c H1 locs1 (cells + 3) (slots + 18) Q (F0 m (pc + 3) ls (.int r :: rest))) : W p l e R s m args below meth c H locs cells slots Q (F0 m pc ls (.ref (ad 265) :: .int a3 :: .int a2 :: .int a1 :: .ref (ad 248) :: rest)) :=
  after_callA hI (runSW_tb (As := [.ref (ad 248), .int a1, .int a2, .int a3, .ref (ad 265)]) (rest := rest) hC hI hsz (m_L_mergedLetter l hT E ad V a1 a2 a3 hS r V1 hf) cv_L_mergedLetter hl rfl rfl hR hcs hw hdg) kk

theorem dL_canPick_0 : decode cL_canPick 0 = .ok (.aload_n 3, 1) := by decide +kernel
theorem dL_canPick_1 : decode cL_canPick 1 = .ok (.iconst 0, 1) := by decide +kernel
theorem dL_canPick_2 : decode cL_canPick 2 = .ok (.aload_n 0, 1) := by decide +kernel
theorem dL_canPick_3 : decode cL_canPick 3 = .ok (.iload_n 1, 1) := by decide +kernel
theorem dL_canPick_4 : decode cL_canPick 4 = .ok (.iload_n 2, 1) := by decide +kernel
theorem dL_canPick_5 : decode cL_canPick 5 = .ok (.invokevirtual 133, 3) := by decide +kernel
theorem dL_canPick_8 : decode cL_canPick 8 = .ok (.ifCond .eq 7, 3) := by decide +kernel
theorem dL_canPick_11 : decode cL_canPick 11 = .ok (.lconst 1, 1) := by decide +kernel
theorem dL_canPick_12 : decode cL_canPick 12 = .ok (.goto 4, 3) := by decide +kernel
theorem dL_canPick_15 : decode cL_canPick 15 = .ok (.lconst 0, 1) := by decide +kernel
theorem dL_canPick_16 : decode cL_canPick 16 = .ok (.lastore, 1) := by decide +kernel
theorem dL_canPick_17 : decode cL_canPick 17 = .ok (.goto 11, 3) := by decide +kernel
theorem dL_canPick_20 : decode cL_canPick 20 = .ok (.astore 4, 2) := by decide +kernel
theorem dL_canPick_22 : decode cL_canPick 22 = .ok (.iconst 1, 1) := by decide +kernel
theorem dL_canPick_23 : decode cL_canPick 23 = .ok (.ireturn, 1) := by decide +kernel
theorem dL_canPick_24 : decode cL_canPick 24 = .ok (.astore 4, 2) := by decide +kernel
theorem dL_canPick_26 : decode cL_canPick 26 = .ok (.iconst 2, 1) := by decide +kernel
theorem dL_canPick_27 : decode cL_canPick 27 = .ok (.ireturn, 1) := by decide +kernel
theorem dL_canPick_28 : decode cL_canPick 28 = .ok (.iconst 0, 1) := by decide +kernel
theorem dL_canPick_29 : decode cL_canPick 29 = .ok (.ireturn, 1) := by decide +kernel
def f_L_canPick (V : Mem) (a1 : Int32) (a2 : Int32) : Option (Int32 × Mem) :=
  bh (f_X9_canPick V a1 a2) (fun q V => if q = 1 then some (1, V) else if q = 3 then some (2, V) else none) fun r V1 =>
  if r = 0 then lt (stv V1 265 0 0) fun V2 => some (0, V2) else lt (stv V1 265 0 1) fun V2 => some (0, V2)
theorem cv_L_canPick : (yL_canPick.cls ≠ "java/lang/invoke/MethodHandle" ∧ yL_canPick.cls ≠ "java/lang/invoke/VarHandle") ∧ Cond.initialized yL_canPick.cls ∈ TB ∧ Cond.codeWith yL_canPick cL_canPick 5 (some .int) [(0, 17, 20, 13), (0, 17, 24, 30)] ∈ TB ∧ (parseMethodDescriptor yL_canPick.desc).map (fun d => d.parameters.length) = some 4 ∧ Cond.static yL_canPick ∈ TB := ⟨⟨by decide +kernel, by decide +kernel⟩, tw_1_0, tw_5_123, by decide +kernel, tw_5_122⟩
set_option maxRecDepth 100000 in
set_option maxHeartbeats 4000000 in
theorem m_L_canPick (l : Launch) (hT : l.stackTraces = false) (E : En) (ad : Nat → Nat) (V : Mem) (a1 : Int32) (a2 : Int32) (hS : SF E) (r : Int32) (Vz : Mem) (hf : f_L_canPick V a1 a2 = some (r, Vz)) : MW l E ad yL_canPick cL_canPick 5 (some .int) [(0, 17, 20, 13), (0, 17, 24, 30)] 8 2 12 [.ref (ad 248), .int a1, .int a2, .ref (ad 265)] V (some (.int r)) Vz := by
  refine entH (E := E) (ad := ad) (V := V) "LetterRepositoryLaw" (by decide +kernel) rfl (Nat.le_of_ble_eq_true rfl) ?_
  intro p e s m below meth c ls hC hTab hI hl
  have hx := hC.1
  have hb := hC.2.1
  have hl : lv_has ls 5 [(0, .ref (ad 248)), (1, .int a1), (2, .int a2), (3, .ref (ad 265))] := hl
  unfold f_L_canPick at hf
  obtain ⟨q, rr, V1, e1, hf⟩ := gbh hf
  refine lv_aload_n hx hb dL_canPick_0 rfl (lv_at hl 3 rfl) ?_
  refine lv_iconst (v := 0) hx hb dL_canPick_1 rfl ?_
  refine lv_aload_n hx hb dL_canPick_2 rfl (lv_at hl 0 rfl) ?_
  refine lv_iload_n hx hb dL_canPick_3 rfl (lv_at hl 1 rfl) ?_
  refine lv_iload_n hx hb dL_canPick_4 rfl (lv_at hl 2 rfl) ?_
  refine after_callH hI (xrunV_tb (As := [.int a1, .int a2]) (rest := [.int 0, .ref (ad 265)]) hC hI hl.1 (m_X9_canPick l hT E ad V a1 a2 hS q rr V1 e1) cv_X9_canPick tw_5_124 (by decide) (ce_248 _) rfl rfl rfl ⟨Nat.le_of_ble_eq_true rfl, Nat.le_of_ble_eq_true rfl⟩ ⟨Nat.le_of_ble_eq_true rfl, Nat.le_of_ble_eq_true rfl⟩ (Nat.le_of_ble_eq_true rfl) dL_canPick_5) (fun hq H locs q9 ce hI hcell hcv hcl => ?_) (fun hq H locs hI => ?_)
  · have hf := (if_neg hq).symm.trans hf
    rcases Decidable.em (q = 1) with c0 | c0
    · have hf := gt hf c0
      have hcl : s.vm.findClass "java/lang/IndexOutOfBoundsException" = some ce.cls := by rw [c0] at hcl; exact hcl
      refine vx_catch (own := "LetterRepositoryLaw") (name := "java/lang/IndexOutOfBoundsException") (E := "java/lang/IndexOutOfBoundsException") hC.2.2.2.1 [] (⟨0, 17, 20, 13⟩ : ExceptionTableEntry) [(⟨0, 17, 24, 30⟩ : ExceptionTableEntry)] (hTab.trans rfl) (fun _ h => nomatch h) (by decide) (by decide) (hC.2.2.2.2.1 _ tw_2_213) (ot_before hC (.inr tw_3_5) (fun _ => rfl)) hcell hcv hcl ?_
      refine lv_astore (lv' := [(4, .ref q9), (0, .ref (ad 248)), (1, .int a1), (2, .int a2), (3, .ref (ad 265))]) hx hb dL_canPick_20 hl (Nat.lt_of_lt_of_eq (by decide) rfl) rfl (fun ls hl => ?_)
      refine lv_iconst (v := 1) hx hb dL_canPick_22 rfl ?_
      refine x_wid (c2 := 2) (s2 := 12) (Nat.le_of_ble_eq_true rfl) (Nat.le_of_ble_eq_true rfl) ?_
      exact r_iret2 hC hI hf dL_canPick_23
    have hf := gf hf c0
    rcases Decidable.em (q = 3) with c1 | c1
    · have hf := gt hf c1
      have hcl : s.vm.findClass "java/util/NoSuchElementException" = some ce.cls := by rw [c1] at hcl; exact hcl
      refine vx_catch (own := "LetterRepositoryLaw") (name := "java/util/NoSuchElementException") (E := "java/util/NoSuchElementException") hC.2.2.2.1 [(⟨0, 17, 20, 13⟩ : ExceptionTableEntry)] (⟨0, 17, 24, 30⟩ : ExceptionTableEntry) [] (hTab.trans rfl) (fun z hz => by
      rcases List.mem_cons.mp hz with rfl | hz
      · exact .inr ⟨by decide, "java/lang/IndexOutOfBoundsException", hC.2.2.2.2.1 _ tw_2_213, nc_of hS hC (List.mem_cons_of_mem _ (List.mem_cons_of_mem _ List.mem_cons_self)) List.mem_cons_self (by decide)⟩
      exact absurd hz List.not_mem_nil) (by decide) (by decide) (hC.2.2.2.2.1 _ tw_3_209) (ot_before hC (.inr tw_3_94) (fun _ => rfl)) hcell hcv hcl ?_
      refine lv_astore (lv' := [(4, .ref q9), (0, .ref (ad 248)), (1, .int a1), (2, .int a2), (3, .ref (ad 265))]) hx hb dL_canPick_24 hl (Nat.lt_of_lt_of_eq (by decide) rfl) rfl (fun ls hl => ?_)
      refine lv_iconst (v := 2) hx hb dL_canPick_26 rfl ?_
      refine x_wid (c2 := 2) (s2 := 12) (Nat.le_of_ble_eq_true rfl) (Nat.le_of_ble_eq_true rfl) ?_
      exact r_iret2 hC hI hf dL_canPick_27
    have hf := gf hf c1
    cases hf
  · have hf := (if_pos hq).symm.trans hf
    refine lv_if_eq (tgt := 15) hx hb dL_canPick_8 (by decide) (fun c9 => ?_) (fun c9 => ?_)
    · have hf := (if_pos c9).symm.trans hf
      obtain ⟨V2, e2, hf⟩ := gl hf
      refine lv_lconst (v := (0 : Int32).toInt64) hx hb dL_canPick_15 rfl ?_
      refine r_last (x := 0) hC hI e2 dL_canPick_16 (fun H locs hI => ?_)
      refine lv_goto (tgt := 28) hx hb dL_canPick_17 (by decide) ?_
      refine lv_iconst (v := 0) hx hb dL_canPick_28 rfl ?_
      refine x_wid (c2 := 2) (s2 := 12) (Nat.le_of_ble_eq_true rfl) (Nat.le_of_ble_eq_true rfl) ?_
      exact r_iret2 hC hI hf dL_canPick_29
    · have hf := (if_neg c9).symm.trans hf
      obtain ⟨V2, e2, hf⟩ := gl hf
      refine lv_lconst (v := (1 : Int32).toInt64) hx hb dL_canPick_11 rfl ?_
      refine lv_goto (tgt := 16) hx hb dL_canPick_12 (by decide) ?_
      refine r_last (x := 1) hC hI e2 dL_canPick_16 (fun H locs hI => ?_)
      refine lv_goto (tgt := 28) hx hb dL_canPick_17 (by decide) ?_
      refine lv_iconst (v := 0) hx hb dL_canPick_28 rfl ?_
      refine x_wid (c2 := 2) (s2 := 12) (Nat.le_of_ble_eq_true rfl) (Nat.le_of_ble_eq_true rfl) ?_
      exact r_iret2 hC hI hf dL_canPick_29
theorem kl_L_canPick {p : Program} {l : Launch} {e : Env} {R : Room} {cells slots : Nat} {s : State} {m : MethodId} {args : Array Value} {below : List Frame} {meth : Method} {c : Code} {H : Heap} {locs : List Loc} {Q : State → Prop} {E : En} {ad : Nat → Nat} {V : Mem} {ow : String} {b : ByteArray} {n : Nat} {ret : Option FieldType} {pc index : Nat} {ls : Array Slot} {rest : List Value} {a1 : Int32} {a2 : Int32} {r : Int32} {V1 : Mem} (hS : SF E) (hT : l.stackTraces = false) (hC : Cx p s m args c meth E ow b n ret) (hI : In E ad V s H locs) (hsz : ls.size = n) (hf : f_L_canPick V a1 a2 = some (r, V1)) (hl : Cond.methodLink ow index yL_canPick ∈ TB) (hR : 8 + 1 ≤ R.frames ∧ 8 + (5 + 11) + 40 * 8 ≤ R.locals) (hcs : cells + 2 ≤ R.cells ∧ slots + 12 ≤ R.slots) (hw : (rest.map fun v => v.category).sum ≤ 8) (hdg : decode b pc = .ok (.invokestatic index, 3)) (kk : ∀ (H1 : Heap) (locs1 : List Loc), In E ad V1 s H1 locs1 → W p l e R s m args below meth c H1 locs1 (cells + 2) (slots + 12) Q (F0 m (pc + 3) ls (.int r :: rest))) : W p l e R s m args below meth c H locs cells slots Q (F0 m pc ls (.ref (ad 265) :: .int a2 :: .int a1 :: .ref (ad 248) :: rest)) :=
  after_callA hI (runSW_tb (As := [.ref (ad 248), .int a1, .int a2, .ref (ad 265)]) (rest := rest) hC hI hsz (m_L_canPick l hT E ad V a1 a2 hS r V1 hf) cv_L_canPick hl rfl rfl hR hcs hw hdg) kk

theorem dL_taggedRevision_0 : decode cL_taggedRevision 0 = .ok (.aload_n 2, 1) := by decide +kernel
theorem dL_taggedRevision_1 : decode cL_taggedRevision 1 = .ok (.iconst 0, 1) := by decide +kernel
theorem dL_taggedRevision_2 : decode cL_taggedRevision 2 = .ok (.aload_n 0, 1) := by decide +kernel
theorem dL_taggedRevision_3 : decode cL_taggedRevision 3 = .ok (.iload_n 1, 1) := by decide +kernel
theorem dL_taggedRevision_4 : decode cL_taggedRevision 4 = .ok (.invokevirtual 136, 3) := by decide +kernel
theorem dL_taggedRevision_7 : decode cL_taggedRevision 7 = .ok (.i2l, 1) := by decide +kernel
theorem dL_taggedRevision_8 : decode cL_taggedRevision 8 = .ok (.lastore, 1) := by decide +kernel
theorem dL_taggedRevision_9 : decode cL_taggedRevision 9 = .ok (.goto 6, 3) := by decide +kernel
theorem dL_taggedRevision_12 : decode cL_taggedRevision 12 = .ok (.astore_n 3, 1) := by decide +kernel
theorem dL_taggedRevision_13 : decode cL_taggedRevision 13 = .ok (.iconst 1, 1) := by decide +kernel
theorem dL_taggedRevision_14 : decode cL_taggedRevision 14 = .ok (.ireturn, 1) := by decide +kernel
theorem dL_taggedRevision_15 : decode cL_taggedRevision 15 = .ok (.iconst 0, 1) := by decide +kernel
theorem dL_taggedRevision_16 : decode cL_taggedRevision 16 = .ok (.ireturn, 1) := by decide +kernel
def f_L_taggedRevision (V : Mem) (a1 : Int32) : Option (Int32 × Mem) :=
  bh (f_X9_taggedRevision V a1) (fun q V => if q = 3 then some (1, V) else none) fun r V1 =>
  lt (stv V1 265 0 r) fun V2 => some (0, V2)
theorem cv_L_taggedRevision : (yL_taggedRevision.cls ≠ "java/lang/invoke/MethodHandle" ∧ yL_taggedRevision.cls ≠ "java/lang/invoke/VarHandle") ∧ Cond.initialized yL_taggedRevision.cls ∈ TB ∧ Cond.codeWith yL_taggedRevision cL_taggedRevision 4 (some .int) [(0, 9, 12, 30)] ∈ TB ∧ (parseMethodDescriptor yL_taggedRevision.desc).map (fun d => d.parameters.length) = some 3 ∧ Cond.static yL_taggedRevision ∈ TB := ⟨⟨by decide +kernel, by decide +kernel⟩, tw_1_0, tw_5_130, by decide +kernel, tw_5_129⟩
set_option maxRecDepth 100000 in
set_option maxHeartbeats 4000000 in
theorem m_L_taggedRevision (l : Launch) (hT : l.stackTraces = false) (E : En) (ad : Nat → Nat) (V : Mem) (a1 : Int32) (hS : SF E) (r : Int32) (Vz : Mem) (hf : f_L_taggedRevision V a1 = some (r, Vz)) : MW l E ad yL_taggedRevision cL_taggedRevision 4 (some .int) [(0, 9, 12, 30)] 8 1 6 [.ref (ad 248), .int a1, .ref (ad 265)] V (some (.int r)) Vz := by
  refine entH (E := E) (ad := ad) (V := V) "LetterRepositoryLaw" (by decide +kernel) rfl (Nat.le_of_ble_eq_true rfl) ?_
  intro p e s m below meth c ls hC hTab hI hl
  have hx := hC.1
  have hb := hC.2.1
  have hl : lv_has ls 4 [(0, .ref (ad 248)), (1, .int a1), (2, .ref (ad 265))] := hl
  unfold f_L_taggedRevision at hf
  obtain ⟨q, rr, V1, e1, hf⟩ := gbh hf
  refine lv_aload_n hx hb dL_taggedRevision_0 rfl (lv_at hl 2 rfl) ?_
  refine lv_iconst (v := 0) hx hb dL_taggedRevision_1 rfl ?_
  refine lv_aload_n hx hb dL_taggedRevision_2 rfl (lv_at hl 0 rfl) ?_
  refine lv_iload_n hx hb dL_taggedRevision_3 rfl (lv_at hl 1 rfl) ?_
  refine after_callH hI (xrunV_tb (As := [.int a1]) (rest := [.int 0, .ref (ad 265)]) hC hI hl.1 (m_X9_taggedRevision l hT E ad V a1 hS q rr V1 e1) cv_X9_taggedRevision tw_5_131 (by decide) (ce_248 _) rfl rfl rfl ⟨Nat.le_of_ble_eq_true rfl, Nat.le_of_ble_eq_true rfl⟩ ⟨Nat.le_of_ble_eq_true rfl, Nat.le_of_ble_eq_true rfl⟩ (Nat.le_of_ble_eq_true rfl) dL_taggedRevision_4) (fun hq H locs q9 ce hI hcell hcv hcl => ?_) (fun hq H locs hI => ?_)
  · have hf := (if_neg hq).symm.trans hf
    rcases Decidable.em (q = 3) with c0 | c0
    · have hf := gt hf c0
      have hcl : s.vm.findClass "java/util/NoSuchElementException" = some ce.cls := by rw [c0] at hcl; exact hcl
      refine vx_catch (own := "LetterRepositoryLaw") (name := "java/util/NoSuchElementException") (E := "java/util/NoSuchElementException") hC.2.2.2.1 [] (⟨0, 9, 12, 30⟩ : ExceptionTableEntry) [] (hTab.trans rfl) (fun _ h => nomatch h) (by decide) (by decide) (hC.2.2.2.2.1 _ tw_3_209) (ot_before hC (.inr tw_3_94) (fun _ => rfl)) hcell hcv hcl ?_
      refine lv_astore_n (lv' := [(3, .ref q9), (0, .ref (ad 248)), (1, .int a1), (2, .ref (ad 265))]) hx hb dL_taggedRevision_12 rfl hl (Nat.lt_of_lt_of_eq (by decide) rfl) rfl (fun ls hl => ?_)
      refine lv_iconst (v := 1) hx hb dL_taggedRevision_13 rfl ?_
      refine x_wid (c2 := 1) (s2 := 6) (Nat.le_of_ble_eq_true rfl) (Nat.le_of_ble_eq_true rfl) ?_
      exact r_iret2 hC hI hf dL_taggedRevision_14
    have hf := gf hf c0
    cases hf
  · have hf := (if_pos hq).symm.trans hf
    refine lv_i2l (v := rr.toInt64) hx hb dL_taggedRevision_7 rfl ?_
    obtain ⟨V2, e2, hf⟩ := gl hf
    refine r_last (x := rr) hC hI e2 dL_taggedRevision_8 (fun H locs hI => ?_)
    refine lv_goto (tgt := 15) hx hb dL_taggedRevision_9 (by decide) ?_
    refine lv_iconst (v := 0) hx hb dL_taggedRevision_15 rfl ?_
    refine x_wid (c2 := 1) (s2 := 6) (Nat.le_of_ble_eq_true rfl) (Nat.le_of_ble_eq_true rfl) ?_
    exact r_iret2 hC hI hf dL_taggedRevision_16
theorem kl_L_taggedRevision {p : Program} {l : Launch} {e : Env} {R : Room} {cells slots : Nat} {s : State} {m : MethodId} {args : Array Value} {below : List Frame} {meth : Method} {c : Code} {H : Heap} {locs : List Loc} {Q : State → Prop} {E : En} {ad : Nat → Nat} {V : Mem} {ow : String} {b : ByteArray} {n : Nat} {ret : Option FieldType} {pc index : Nat} {ls : Array Slot} {rest : List Value} {a1 : Int32} {r : Int32} {V1 : Mem} (hS : SF E) (hT : l.stackTraces = false) (hC : Cx p s m args c meth E ow b n ret) (hI : In E ad V s H locs) (hsz : ls.size = n) (hf : f_L_taggedRevision V a1 = some (r, V1)) (hl : Cond.methodLink ow index yL_taggedRevision ∈ TB) (hR : 8 + 1 ≤ R.frames ∧ 8 + (4 + 11) + 40 * 8 ≤ R.locals) (hcs : cells + 1 ≤ R.cells ∧ slots + 6 ≤ R.slots) (hw : (rest.map fun v => v.category).sum ≤ 8) (hdg : decode b pc = .ok (.invokestatic index, 3)) (kk : ∀ (H1 : Heap) (locs1 : List Loc), In E ad V1 s H1 locs1 → W p l e R s m args below meth c H1 locs1 (cells + 1) (slots + 6) Q (F0 m (pc + 3) ls (.int r :: rest))) : W p l e R s m args below meth c H locs cells slots Q (F0 m pc ls (.ref (ad 265) :: .int a1 :: .ref (ad 248) :: rest)) :=
  after_callA hI (runSW_tb (As := [.ref (ad 248), .int a1, .ref (ad 265)]) (rest := rest) hC hI hsz (m_L_taggedRevision l hT E ad V a1 hS r V1 hf) cv_L_taggedRevision hl rfl rfl hR hcs hw hdg) kk

theorem dL_tagOf_0 : decode cL_tagOf 0 = .ok (.aload_n 2, 1) := by decide +kernel
theorem dL_tagOf_1 : decode cL_tagOf 1 = .ok (.iconst 0, 1) := by decide +kernel
theorem dL_tagOf_2 : decode cL_tagOf 2 = .ok (.aload_n 0, 1) := by decide +kernel
theorem dL_tagOf_3 : decode cL_tagOf 3 = .ok (.iload_n 1, 1) := by decide +kernel
theorem dL_tagOf_4 : decode cL_tagOf 4 = .ok (.invokevirtual 139, 3) := by decide +kernel
theorem dL_tagOf_7 : decode cL_tagOf 7 = .ok (.i2l, 1) := by decide +kernel
theorem dL_tagOf_8 : decode cL_tagOf 8 = .ok (.lastore, 1) := by decide +kernel
theorem dL_tagOf_9 : decode cL_tagOf 9 = .ok (.goto 6, 3) := by decide +kernel
theorem dL_tagOf_12 : decode cL_tagOf 12 = .ok (.astore_n 3, 1) := by decide +kernel
theorem dL_tagOf_13 : decode cL_tagOf 13 = .ok (.iconst 1, 1) := by decide +kernel
theorem dL_tagOf_14 : decode cL_tagOf 14 = .ok (.ireturn, 1) := by decide +kernel
theorem dL_tagOf_15 : decode cL_tagOf 15 = .ok (.iconst 0, 1) := by decide +kernel
theorem dL_tagOf_16 : decode cL_tagOf 16 = .ok (.ireturn, 1) := by decide +kernel
def f_L_tagOf (V : Mem) (a1 : Int32) : Option (Int32 × Mem) :=
  bh (f_X9_tagOf V a1) (fun q V => if q = 3 then some (1, V) else none) fun r V1 =>
  lt (stv V1 265 0 r) fun V2 => some (0, V2)
theorem cv_L_tagOf : (yL_tagOf.cls ≠ "java/lang/invoke/MethodHandle" ∧ yL_tagOf.cls ≠ "java/lang/invoke/VarHandle") ∧ Cond.initialized yL_tagOf.cls ∈ TB ∧ Cond.codeWith yL_tagOf cL_tagOf 4 (some .int) [(0, 9, 12, 30)] ∈ TB ∧ (parseMethodDescriptor yL_tagOf.desc).map (fun d => d.parameters.length) = some 3 ∧ Cond.static yL_tagOf ∈ TB := ⟨⟨by decide +kernel, by decide +kernel⟩, tw_1_0, tw_5_138, by decide +kernel, tw_5_137⟩
set_option maxRecDepth 100000 in
set_option maxHeartbeats 4000000 in
theorem m_L_tagOf (l : Launch) (hT : l.stackTraces = false) (E : En) (ad : Nat → Nat) (V : Mem) (a1 : Int32) (hS : SF E) (r : Int32) (Vz : Mem) (hf : f_L_tagOf V a1 = some (r, Vz)) : MW l E ad yL_tagOf cL_tagOf 4 (some .int) [(0, 9, 12, 30)] 8 2 12 [.ref (ad 248), .int a1, .ref (ad 265)] V (some (.int r)) Vz := by
  refine entH (E := E) (ad := ad) (V := V) "LetterRepositoryLaw" (by decide +kernel) rfl (Nat.le_of_ble_eq_true rfl) ?_
  intro p e s m below meth c ls hC hTab hI hl
  have hx := hC.1
  have hb := hC.2.1
  have hl : lv_has ls 4 [(0, .ref (ad 248)), (1, .int a1), (2, .ref (ad 265))] := hl
  unfold f_L_tagOf at hf
  obtain ⟨q, rr, V1, e1, hf⟩ := gbh hf
  refine lv_aload_n hx hb dL_tagOf_0 rfl (lv_at hl 2 rfl) ?_
  refine lv_iconst (v := 0) hx hb dL_tagOf_1 rfl ?_
  refine lv_aload_n hx hb dL_tagOf_2 rfl (lv_at hl 0 rfl) ?_
  refine lv_iload_n hx hb dL_tagOf_3 rfl (lv_at hl 1 rfl) ?_
  refine after_callH hI (xrunV_tb (As := [.int a1]) (rest := [.int 0, .ref (ad 265)]) hC hI hl.1 (m_X9_tagOf l hT E ad V a1 hS q rr V1 e1) cv_X9_tagOf tw_5_139 (by decide) (ce_248 _) rfl rfl rfl ⟨Nat.le_of_ble_eq_true rfl, Nat.le_of_ble_eq_true rfl⟩ ⟨Nat.le_of_ble_eq_true rfl, Nat.le_of_ble_eq_true rfl⟩ (Nat.le_of_ble_eq_true rfl) dL_tagOf_4) (fun hq H locs q9 ce hI hcell hcv hcl => ?_) (fun hq H locs hI => ?_)
  · have hf := (if_neg hq).symm.trans hf
    rcases Decidable.em (q = 3) with c0 | c0
    · have hf := gt hf c0
      have hcl : s.vm.findClass "java/util/NoSuchElementException" = some ce.cls := by rw [c0] at hcl; exact hcl
      refine vx_catch (own := "LetterRepositoryLaw") (name := "java/util/NoSuchElementException") (E := "java/util/NoSuchElementException") hC.2.2.2.1 [] (⟨0, 9, 12, 30⟩ : ExceptionTableEntry) [] (hTab.trans rfl) (fun _ h => nomatch h) (by decide) (by decide) (hC.2.2.2.2.1 _ tw_3_209) (ot_before hC (.inr tw_3_94) (fun _ => rfl)) hcell hcv hcl ?_
      refine lv_astore_n (lv' := [(3, .ref q9), (0, .ref (ad 248)), (1, .int a1), (2, .ref (ad 265))]) hx hb dL_tagOf_12 rfl hl (Nat.lt_of_lt_of_eq (by decide) rfl) rfl (fun ls hl => ?_)
      refine lv_iconst (v := 1) hx hb dL_tagOf_13 rfl ?_
      refine x_wid (c2 := 2) (s2 := 12) (Nat.le_of_ble_eq_true rfl) (Nat.le_of_ble_eq_true rfl) ?_
      exact r_iret2 hC hI hf dL_tagOf_14
    have hf := gf hf c0
    cases hf
  · have hf := (if_pos hq).symm.trans hf
    refine lv_i2l (v := rr.toInt64) hx hb dL_tagOf_7 rfl ?_
    obtain ⟨V2, e2, hf⟩ := gl hf
    refine r_last (x := rr) hC hI e2 dL_tagOf_8 (fun H locs hI => ?_)
    refine lv_goto (tgt := 15) hx hb dL_tagOf_9 (by decide) ?_
    refine lv_iconst (v := 0) hx hb dL_tagOf_15 rfl ?_
    refine x_wid (c2 := 2) (s2 := 12) (Nat.le_of_ble_eq_true rfl) (Nat.le_of_ble_eq_true rfl) ?_
    exact r_iret2 hC hI hf dL_tagOf_16
theorem kl_L_tagOf {p : Program} {l : Launch} {e : Env} {R : Room} {cells slots : Nat} {s : State} {m : MethodId} {args : Array Value} {below : List Frame} {meth : Method} {c : Code} {H : Heap} {locs : List Loc} {Q : State → Prop} {E : En} {ad : Nat → Nat} {V : Mem} {ow : String} {b : ByteArray} {n : Nat} {ret : Option FieldType} {pc index : Nat} {ls : Array Slot} {rest : List Value} {a1 : Int32} {r : Int32} {V1 : Mem} (hS : SF E) (hT : l.stackTraces = false) (hC : Cx p s m args c meth E ow b n ret) (hI : In E ad V s H locs) (hsz : ls.size = n) (hf : f_L_tagOf V a1 = some (r, V1)) (hl : Cond.methodLink ow index yL_tagOf ∈ TB) (hR : 8 + 1 ≤ R.frames ∧ 8 + (4 + 11) + 40 * 8 ≤ R.locals) (hcs : cells + 2 ≤ R.cells ∧ slots + 12 ≤ R.slots) (hw : (rest.map fun v => v.category).sum ≤ 8) (hdg : decode b pc = .ok (.invokestatic index, 3)) (kk : ∀ (H1 : Heap) (locs1 : List Loc), In E ad V1 s H1 locs1 → W p l e R s m args below meth c H1 locs1 (cells + 2) (slots + 12) Q (F0 m (pc + 3) ls (.int r :: rest))) : W p l e R s m args below meth c H locs cells slots Q (F0 m pc ls (.ref (ad 265) :: .int a1 :: .ref (ad 248) :: rest)) :=
  after_callA hI (runSW_tb (As := [.ref (ad 248), .int a1, .ref (ad 265)]) (rest := rest) hC hI hsz (m_L_tagOf l hT E ad V a1 hS r V1 hf) cv_L_tagOf hl rfl rfl hR hcs hw hdg) kk

theorem dL_formatRevision_0 : decode cL_formatRevision 0 = .ok (.aload_n 2, 1) := by decide +kernel
theorem dL_formatRevision_1 : decode cL_formatRevision 1 = .ok (.iconst 0, 1) := by decide +kernel
theorem dL_formatRevision_2 : decode cL_formatRevision 2 = .ok (.aload_n 0, 1) := by decide +kernel
theorem dL_formatRevision_3 : decode cL_formatRevision 3 = .ok (.iload_n 1, 1) := by decide +kernel
theorem dL_formatRevision_4 : decode cL_formatRevision 4 = .ok (.invokevirtual 143, 3) := by decide +kernel
theorem dL_formatRevision_7 : decode cL_formatRevision 7 = .ok (.i2l, 1) := by decide +kernel
theorem dL_formatRevision_8 : decode cL_formatRevision 8 = .ok (.lastore, 1) := by decide +kernel
theorem dL_formatRevision_9 : decode cL_formatRevision 9 = .ok (.goto 6, 3) := by decide +kernel
theorem dL_formatRevision_12 : decode cL_formatRevision 12 = .ok (.astore_n 3, 1) := by decide +kernel
theorem dL_formatRevision_13 : decode cL_formatRevision 13 = .ok (.iconst 1, 1) := by decide +kernel
theorem dL_formatRevision_14 : decode cL_formatRevision 14 = .ok (.ireturn, 1) := by decide +kernel
theorem dL_formatRevision_15 : decode cL_formatRevision 15 = .ok (.iconst 0, 1) := by decide +kernel
theorem dL_formatRevision_16 : decode cL_formatRevision 16 = .ok (.ireturn, 1) := by decide +kernel
def f_L_formatRevision (V : Mem) (a1 : Int32) : Option (Int32 × Mem) :=
  bh (f_X9_formatRevision V a1) (fun q V => if q = 3 then some (1, V) else none) fun r V1 =>
  lt (stv V1 265 0 r) fun V2 => some (0, V2)
theorem cv_L_formatRevision : (yL_formatRevision.cls ≠ "java/lang/invoke/MethodHandle" ∧ yL_formatRevision.cls ≠ "java/lang/invoke/VarHandle") ∧ Cond.initialized yL_formatRevision.cls ∈ TB ∧ Cond.codeWith yL_formatRevision cL_formatRevision 4 (some .int) [(0, 9, 12, 30)] ∈ TB ∧ (parseMethodDescriptor yL_formatRevision.desc).map (fun d => d.parameters.length) = some 3 ∧ Cond.static yL_formatRevision ∈ TB := ⟨⟨by decide +kernel, by decide +kernel⟩, tw_1_0, tw_5_149, by decide +kernel, tw_5_148⟩
set_option maxRecDepth 100000 in
set_option maxHeartbeats 4000000 in
theorem m_L_formatRevision (l : Launch) (hT : l.stackTraces = false) (E : En) (ad : Nat → Nat) (V : Mem) (a1 : Int32) (hS : SF E) (hFr : Fr E) (r : Int32) (Vz : Mem) (hf : f_L_formatRevision V a1 = some (r, Vz)) : MW l E ad yL_formatRevision cL_formatRevision 4 (some .int) [(0, 9, 12, 30)] 9 20 1374 [.ref (ad 248), .int a1, .ref (ad 265)] V (some (.int r)) Vz := by
  refine entH (E := E) (ad := ad) (V := V) "LetterRepositoryLaw" (by decide +kernel) rfl (Nat.le_of_ble_eq_true rfl) ?_
  intro p e s m below meth c ls hC hTab hI hl
  have hx := hC.1
  have hb := hC.2.1
  have hl : lv_has ls 4 [(0, .ref (ad 248)), (1, .int a1), (2, .ref (ad 265))] := hl
  unfold f_L_formatRevision at hf
  obtain ⟨q, rr, V1, e1, hf⟩ := gbh hf
  refine lv_aload_n hx hb dL_formatRevision_0 rfl (lv_at hl 2 rfl) ?_
  refine lv_iconst (v := 0) hx hb dL_formatRevision_1 rfl ?_
  refine lv_aload_n hx hb dL_formatRevision_2 rfl (lv_at hl 0 rfl) ?_
  refine lv_iload_n hx hb dL_formatRevision_3 rfl (lv_at hl 1 rfl) ?_
  refine after_callH hI (xrunV_tb (As := [.int a1]) (rest := [.int 0, .ref (ad 265)]) hC hI hl.1 (m_X9_formatRevision l hT E ad V a1 hS hFr q rr V1 e1) cv_X9_formatRevision tw_5_150 (by decide) (ce_248 _) rfl rfl rfl ⟨Nat.le_of_ble_eq_true rfl, Nat.le_of_ble_eq_true rfl⟩ ⟨Nat.le_of_ble_eq_true rfl, Nat.le_of_ble_eq_true rfl⟩ (Nat.le_of_ble_eq_true rfl) dL_formatRevision_4) (fun hq H locs q9 ce hI hcell hcv hcl => ?_) (fun hq H locs hI => ?_)
  · have hf := (if_neg hq).symm.trans hf
    rcases Decidable.em (q = 3) with c0 | c0
    · have hf := gt hf c0
      have hcl : s.vm.findClass "java/util/NoSuchElementException" = some ce.cls := by rw [c0] at hcl; exact hcl
      refine vx_catch (own := "LetterRepositoryLaw") (name := "java/util/NoSuchElementException") (E := "java/util/NoSuchElementException") hC.2.2.2.1 [] (⟨0, 9, 12, 30⟩ : ExceptionTableEntry) [] (hTab.trans rfl) (fun _ h => nomatch h) (by decide) (by decide) (hC.2.2.2.2.1 _ tw_3_209) (ot_before hC (.inr tw_3_94) (fun _ => rfl)) hcell hcv hcl ?_
      refine lv_astore_n (lv' := [(3, .ref q9), (0, .ref (ad 248)), (1, .int a1), (2, .ref (ad 265))]) hx hb dL_formatRevision_12 rfl hl (Nat.lt_of_lt_of_eq (by decide) rfl) rfl (fun ls hl => ?_)
      refine lv_iconst (v := 1) hx hb dL_formatRevision_13 rfl ?_
      refine x_wid (c2 := 20) (s2 := 1374) (Nat.le_of_ble_eq_true rfl) (Nat.le_of_ble_eq_true rfl) ?_
      exact r_iret2 hC hI hf dL_formatRevision_14
    have hf := gf hf c0
    cases hf
  · have hf := (if_pos hq).symm.trans hf
    refine lv_i2l (v := rr.toInt64) hx hb dL_formatRevision_7 rfl ?_
    obtain ⟨V2, e2, hf⟩ := gl hf
    refine r_last (x := rr) hC hI e2 dL_formatRevision_8 (fun H locs hI => ?_)
    refine lv_goto (tgt := 15) hx hb dL_formatRevision_9 (by decide) ?_
    refine lv_iconst (v := 0) hx hb dL_formatRevision_15 rfl ?_
    refine x_wid (c2 := 20) (s2 := 1374) (Nat.le_of_ble_eq_true rfl) (Nat.le_of_ble_eq_true rfl) ?_
    exact r_iret2 hC hI hf dL_formatRevision_16
theorem kl_L_formatRevision {p : Program} {l : Launch} {e : Env} {R : Room} {cells slots : Nat} {s : State} {m : MethodId} {args : Array Value} {below : List Frame} {meth : Method} {c : Code} {H : Heap} {locs : List Loc} {Q : State → Prop} {E : En} {ad : Nat → Nat} {V : Mem} {ow : String} {b : ByteArray} {n : Nat} {ret : Option FieldType} {pc index : Nat} {ls : Array Slot} {rest : List Value} {a1 : Int32} {r : Int32} {V1 : Mem} (hS : SF E) (hFr : Fr E) (hT : l.stackTraces = false) (hC : Cx p s m args c meth E ow b n ret) (hI : In E ad V s H locs) (hsz : ls.size = n) (hf : f_L_formatRevision V a1 = some (r, V1)) (hl : Cond.methodLink ow index yL_formatRevision ∈ TB) (hR : 9 + 1 ≤ R.frames ∧ 8 + (4 + 11) + 40 * 9 ≤ R.locals) (hcs : cells + 20 ≤ R.cells ∧ slots + 1374 ≤ R.slots) (hw : (rest.map fun v => v.category).sum ≤ 8) (hdg : decode b pc = .ok (.invokestatic index, 3)) (kk : ∀ (H1 : Heap) (locs1 : List Loc), In E ad V1 s H1 locs1 → W p l e R s m args below meth c H1 locs1 (cells + 20) (slots + 1374) Q (F0 m (pc + 3) ls (.int r :: rest))) : W p l e R s m args below meth c H locs cells slots Q (F0 m pc ls (.ref (ad 265) :: .int a1 :: .ref (ad 248) :: rest)) :=
  after_callA hI (runSW_tb (As := [.ref (ad 248), .int a1, .ref (ad 265)]) (rest := rest) hC hI hsz (m_L_formatRevision l hT E ad V a1 hS hFr r V1 hf) cv_L_formatRevision hl rfl rfl hR hcs hw hdg) kk

theorem dL_formatBranch_0 : decode cL_formatBranch 0 = .ok (.aload_n 2, 1) := by decide +kernel
theorem dL_formatBranch_1 : decode cL_formatBranch 1 = .ok (.iconst 0, 1) := by decide +kernel
theorem dL_formatBranch_2 : decode cL_formatBranch 2 = .ok (.aload_n 0, 1) := by decide +kernel
theorem dL_formatBranch_3 : decode cL_formatBranch 3 = .ok (.iload_n 1, 1) := by decide +kernel
theorem dL_formatBranch_4 : decode cL_formatBranch 4 = .ok (.invokevirtual 146, 3) := by decide +kernel
theorem dL_formatBranch_7 : decode cL_formatBranch 7 = .ok (.i2l, 1) := by decide +kernel
theorem dL_formatBranch_8 : decode cL_formatBranch 8 = .ok (.lastore, 1) := by decide +kernel
theorem dL_formatBranch_9 : decode cL_formatBranch 9 = .ok (.goto 6, 3) := by decide +kernel
theorem dL_formatBranch_12 : decode cL_formatBranch 12 = .ok (.astore_n 3, 1) := by decide +kernel
theorem dL_formatBranch_13 : decode cL_formatBranch 13 = .ok (.iconst 1, 1) := by decide +kernel
theorem dL_formatBranch_14 : decode cL_formatBranch 14 = .ok (.ireturn, 1) := by decide +kernel
theorem dL_formatBranch_15 : decode cL_formatBranch 15 = .ok (.iconst 0, 1) := by decide +kernel
theorem dL_formatBranch_16 : decode cL_formatBranch 16 = .ok (.ireturn, 1) := by decide +kernel
def f_L_formatBranch (V : Mem) (a1 : Int32) : Option (Int32 × Mem) :=
  bh (f_X9_formatBranch V a1) (fun q V => if q = 1 then some (1, V) else none) fun r V1 =>
  lt (stv V1 265 0 r) fun V2 => some (0, V2)
theorem cv_L_formatBranch : (yL_formatBranch.cls ≠ "java/lang/invoke/MethodHandle" ∧ yL_formatBranch.cls ≠ "java/lang/invoke/VarHandle") ∧ Cond.initialized yL_formatBranch.cls ∈ TB ∧ Cond.codeWith yL_formatBranch cL_formatBranch 4 (some .int) [(0, 9, 12, 13)] ∈ TB ∧ (parseMethodDescriptor yL_formatBranch.desc).map (fun d => d.parameters.length) = some 3 ∧ Cond.static yL_formatBranch ∈ TB := ⟨⟨by decide +kernel, by decide +kernel⟩, tw_1_0, tw_6_218, by decide +kernel, tw_6_217⟩
set_option maxRecDepth 100000 in
set_option maxHeartbeats 4000000 in
theorem m_L_formatBranch (l : Launch) (hT : l.stackTraces = false) (E : En) (ad : Nat → Nat) (V : Mem) (a1 : Int32) (hS : SF E) (hFr : Fr E) (r : Int32) (Vz : Mem) (hf : f_L_formatBranch V a1 = some (r, Vz)) : MW l E ad yL_formatBranch cL_formatBranch 4 (some .int) [(0, 9, 12, 13)] 8 15 1014 [.ref (ad 248), .int a1, .ref (ad 265)] V (some (.int r)) Vz := by
  refine entH (E := E) (ad := ad) (V := V) "LetterRepositoryLaw" (by decide +kernel) rfl (Nat.le_of_ble_eq_true rfl) ?_
  intro p e s m below meth c ls hC hTab hI hl
  have hx := hC.1
  have hb := hC.2.1
  have hl : lv_has ls 4 [(0, .ref (ad 248)), (1, .int a1), (2, .ref (ad 265))] := hl
  unfold f_L_formatBranch at hf
  obtain ⟨q, rr, V1, e1, hf⟩ := gbh hf
  refine lv_aload_n hx hb dL_formatBranch_0 rfl (lv_at hl 2 rfl) ?_
  refine lv_iconst (v := 0) hx hb dL_formatBranch_1 rfl ?_
  refine lv_aload_n hx hb dL_formatBranch_2 rfl (lv_at hl 0 rfl) ?_
  refine lv_iload_n hx hb dL_formatBranch_3 rfl (lv_at hl 1 rfl) ?_
  refine after_callH hI (xrunV_tb (As := [.int a1]) (rest := [.int 0, .ref (ad 265)]) hC hI hl.1 (m_X9_formatBranch l hT E ad V a1 hS hFr q rr V1 e1) cv_X9_formatBranch tw_6_219 (by decide) (ce_248 _) rfl rfl rfl ⟨Nat.le_of_ble_eq_true rfl, Nat.le_of_ble_eq_true rfl⟩ ⟨Nat.le_of_ble_eq_true rfl, Nat.le_of_ble_eq_true rfl⟩ (Nat.le_of_ble_eq_true rfl) dL_formatBranch_4) (fun hq H locs q9 ce hI hcell hcv hcl => ?_) (fun hq H locs hI => ?_)
  · have hf := (if_neg hq).symm.trans hf
    rcases Decidable.em (q = 1) with c0 | c0
    · have hf := gt hf c0
      have hcl : s.vm.findClass "java/lang/IndexOutOfBoundsException" = some ce.cls := by rw [c0] at hcl; exact hcl
      refine vx_catch (own := "LetterRepositoryLaw") (name := "java/lang/IndexOutOfBoundsException") (E := "java/lang/IndexOutOfBoundsException") hC.2.2.2.1 [] (⟨0, 9, 12, 13⟩ : ExceptionTableEntry) [] (hTab.trans rfl) (fun _ h => nomatch h) (by decide) (by decide) (hC.2.2.2.2.1 _ tw_2_213) (ot_before hC (.inr tw_3_5) (fun _ => rfl)) hcell hcv hcl ?_
      refine lv_astore_n (lv' := [(3, .ref q9), (0, .ref (ad 248)), (1, .int a1), (2, .ref (ad 265))]) hx hb dL_formatBranch_12 rfl hl (Nat.lt_of_lt_of_eq (by decide) rfl) rfl (fun ls hl => ?_)
      refine lv_iconst (v := 1) hx hb dL_formatBranch_13 rfl ?_
      refine x_wid (c2 := 15) (s2 := 1014) (Nat.le_of_ble_eq_true rfl) (Nat.le_of_ble_eq_true rfl) ?_
      exact r_iret2 hC hI hf dL_formatBranch_14
    have hf := gf hf c0
    cases hf
  · have hf := (if_pos hq).symm.trans hf
    refine lv_i2l (v := rr.toInt64) hx hb dL_formatBranch_7 rfl ?_
    obtain ⟨V2, e2, hf⟩ := gl hf
    refine r_last (x := rr) hC hI e2 dL_formatBranch_8 (fun H locs hI => ?_)
    refine lv_goto (tgt := 15) hx hb dL_formatBranch_9 (by decide) ?_
    refine lv_iconst (v := 0) hx hb dL_formatBranch_15 rfl ?_
    refine x_wid (c2 := 15) (s2 := 1014) (Nat.le_of_ble_eq_true rfl) (Nat.le_of_ble_eq_true rfl) ?_
    exact r_iret2 hC hI hf dL_formatBranch_16
theorem kl_L_formatBranch {p : Program} {l : Launch} {e : Env} {R : Room} {cells slots : Nat} {s : State} {m : MethodId} {args : Array Value} {below : List Frame} {meth : Method} {c : Code} {H : Heap} {locs : List Loc} {Q : State → Prop} {E : En} {ad : Nat → Nat} {V : Mem} {ow : String} {b : ByteArray} {n : Nat} {ret : Option FieldType} {pc index : Nat} {ls : Array Slot} {rest : List Value} {a1 : Int32} {r : Int32} {V1 : Mem} (hS : SF E) (hFr : Fr E) (hT : l.stackTraces = false) (hC : Cx p s m args c meth E ow b n ret) (hI : In E ad V s H locs) (hsz : ls.size = n) (hf : f_L_formatBranch V a1 = some (r, V1)) (hl : Cond.methodLink ow index yL_formatBranch ∈ TB) (hR : 8 + 1 ≤ R.frames ∧ 8 + (4 + 11) + 40 * 8 ≤ R.locals) (hcs : cells + 15 ≤ R.cells ∧ slots + 1014 ≤ R.slots) (hw : (rest.map fun v => v.category).sum ≤ 8) (hdg : decode b pc = .ok (.invokestatic index, 3)) (kk : ∀ (H1 : Heap) (locs1 : List Loc), In E ad V1 s H1 locs1 → W p l e R s m args below meth c H1 locs1 (cells + 15) (slots + 1014) Q (F0 m (pc + 3) ls (.int r :: rest))) : W p l e R s m args below meth c H locs cells slots Q (F0 m pc ls (.ref (ad 265) :: .int a1 :: .ref (ad 248) :: rest)) :=
  after_callA hI (runSW_tb (As := [.ref (ad 248), .int a1, .ref (ad 265)]) (rest := rest) hC hI hsz (m_L_formatBranch l hT E ad V a1 hS hFr r V1 hf) cv_L_formatBranch hl rfl rfl hR hcs hw hdg) kk

theorem dL_formatMerge_0 : decode cL_formatMerge 0 = .ok (.aload_n 3, 1) := by decide +kernel
theorem dL_formatMerge_1 : decode cL_formatMerge 1 = .ok (.iconst 0, 1) := by decide +kernel
theorem dL_formatMerge_2 : decode cL_formatMerge 2 = .ok (.aload_n 0, 1) := by decide +kernel
theorem dL_formatMerge_3 : decode cL_formatMerge 3 = .ok (.iload_n 1, 1) := by decide +kernel
theorem dL_formatMerge_4 : decode cL_formatMerge 4 = .ok (.iload_n 2, 1) := by decide +kernel
theorem dL_formatMerge_5 : decode cL_formatMerge 5 = .ok (.invokevirtual 149, 3) := by decide +kernel
theorem dL_formatMerge_8 : decode cL_formatMerge 8 = .ok (.i2l, 1) := by decide +kernel
theorem dL_formatMerge_9 : decode cL_formatMerge 9 = .ok (.lastore, 1) := by decide +kernel
theorem dL_formatMerge_10 : decode cL_formatMerge 10 = .ok (.goto 11, 3) := by decide +kernel
theorem dL_formatMerge_13 : decode cL_formatMerge 13 = .ok (.astore 4, 2) := by decide +kernel
theorem dL_formatMerge_15 : decode cL_formatMerge 15 = .ok (.iconst 1, 1) := by decide +kernel
theorem dL_formatMerge_16 : decode cL_formatMerge 16 = .ok (.ireturn, 1) := by decide +kernel
theorem dL_formatMerge_17 : decode cL_formatMerge 17 = .ok (.astore 4, 2) := by decide +kernel
theorem dL_formatMerge_19 : decode cL_formatMerge 19 = .ok (.iconst 2, 1) := by decide +kernel
theorem dL_formatMerge_20 : decode cL_formatMerge 20 = .ok (.ireturn, 1) := by decide +kernel
theorem dL_formatMerge_21 : decode cL_formatMerge 21 = .ok (.iconst 0, 1) := by decide +kernel
theorem dL_formatMerge_22 : decode cL_formatMerge 22 = .ok (.ireturn, 1) := by decide +kernel
def f_L_formatMerge (V : Mem) (a1 : Int32) (a2 : Int32) : Option (Int32 × Mem) :=
  bh (f_X9_formatMerge V a1 a2) (fun q V => if q = 1 then some (1, V) else if q = 2 then some (2, V) else none) fun r V1 =>
  lt (stv V1 265 0 r) fun V2 => some (0, V2)
theorem cv_L_formatMerge : (yL_formatMerge.cls ≠ "java/lang/invoke/MethodHandle" ∧ yL_formatMerge.cls ≠ "java/lang/invoke/VarHandle") ∧ Cond.initialized yL_formatMerge.cls ∈ TB ∧ Cond.codeWith yL_formatMerge cL_formatMerge 5 (some .int) [(0, 10, 13, 13), (0, 10, 17, 15)] ∈ TB ∧ (parseMethodDescriptor yL_formatMerge.desc).map (fun d => d.parameters.length) = some 4 ∧ Cond.static yL_formatMerge ∈ TB := ⟨⟨by decide +kernel, by decide +kernel⟩, tw_1_0, tw_6_225, by decide +kernel, tw_6_224⟩
set_option maxRecDepth 100000 in
set_option maxHeartbeats 4000000 in
theorem m_L_formatMerge (l : Launch) (hT : l.stackTraces = false) (E : En) (ad : Nat → Nat) (V : Mem) (a1 : Int32) (a2 : Int32) (hS : SF E) (hFr : Fr E) (r : Int32) (Vz : Mem) (hf : f_L_formatMerge V a1 a2 = some (r, Vz)) : MW l E ad yL_formatMerge cL_formatMerge 5 (some .int) [(0, 10, 13, 13), (0, 10, 17, 15)] 9 10 654 [.ref (ad 248), .int a1, .int a2, .ref (ad 265)] V (some (.int r)) Vz := by
  refine entH (E := E) (ad := ad) (V := V) "LetterRepositoryLaw" (by decide +kernel) rfl (Nat.le_of_ble_eq_true rfl) ?_
  intro p e s m below meth c ls hC hTab hI hl
  have hx := hC.1
  have hb := hC.2.1
  have hl : lv_has ls 5 [(0, .ref (ad 248)), (1, .int a1), (2, .int a2), (3, .ref (ad 265))] := hl
  unfold f_L_formatMerge at hf
  obtain ⟨q, rr, V1, e1, hf⟩ := gbh hf
  refine lv_aload_n hx hb dL_formatMerge_0 rfl (lv_at hl 3 rfl) ?_
  refine lv_iconst (v := 0) hx hb dL_formatMerge_1 rfl ?_
  refine lv_aload_n hx hb dL_formatMerge_2 rfl (lv_at hl 0 rfl) ?_
  refine lv_iload_n hx hb dL_formatMerge_3 rfl (lv_at hl 1 rfl) ?_
  refine lv_iload_n hx hb dL_formatMerge_4 rfl (lv_at hl 2 rfl) ?_
  refine after_callH hI (xrunV_tb (As := [.int a1, .int a2]) (rest := [.int 0, .ref (ad 265)]) hC hI hl.1 (m_X9_formatMerge l hT E ad V a1 a2 hS hFr q rr V1 e1) cv_X9_formatMerge tw_6_226 (by decide) (ce_248 _) rfl rfl rfl ⟨Nat.le_of_ble_eq_true rfl, Nat.le_of_ble_eq_true rfl⟩ ⟨Nat.le_of_ble_eq_true rfl, Nat.le_of_ble_eq_true rfl⟩ (Nat.le_of_ble_eq_true rfl) dL_formatMerge_5) (fun hq H locs q9 ce hI hcell hcv hcl => ?_) (fun hq H locs hI => ?_)
  · have hf := (if_neg hq).symm.trans hf
    rcases Decidable.em (q = 1) with c0 | c0
    · have hf := gt hf c0
      have hcl : s.vm.findClass "java/lang/IndexOutOfBoundsException" = some ce.cls := by rw [c0] at hcl; exact hcl
      refine vx_catch (own := "LetterRepositoryLaw") (name := "java/lang/IndexOutOfBoundsException") (E := "java/lang/IndexOutOfBoundsException") hC.2.2.2.1 [] (⟨0, 10, 13, 13⟩ : ExceptionTableEntry) [(⟨0, 10, 17, 15⟩ : ExceptionTableEntry)] (hTab.trans rfl) (fun _ h => nomatch h) (by decide) (by decide) (hC.2.2.2.2.1 _ tw_2_213) (ot_before hC (.inr tw_3_5) (fun _ => rfl)) hcell hcv hcl ?_
      refine lv_astore (lv' := [(4, .ref q9), (0, .ref (ad 248)), (1, .int a1), (2, .int a2), (3, .ref (ad 265))]) hx hb dL_formatMerge_13 hl (Nat.lt_of_lt_of_eq (by decide) rfl) rfl (fun ls hl => ?_)
      refine lv_iconst (v := 1) hx hb dL_formatMerge_15 rfl ?_
      refine x_wid (c2 := 10) (s2 := 654) (Nat.le_of_ble_eq_true rfl) (Nat.le_of_ble_eq_true rfl) ?_
      exact r_iret2 hC hI hf dL_formatMerge_16
    have hf := gf hf c0
    rcases Decidable.em (q = 2) with c1 | c1
    · have hf := gt hf c1
      have hcl : s.vm.findClass "java/lang/IllegalArgumentException" = some ce.cls := by rw [c1] at hcl; exact hcl
      refine vx_catch (own := "LetterRepositoryLaw") (name := "java/lang/IllegalArgumentException") (E := "java/lang/IllegalArgumentException") hC.2.2.2.1 [(⟨0, 10, 13, 13⟩ : ExceptionTableEntry)] (⟨0, 10, 17, 15⟩ : ExceptionTableEntry) [] (hTab.trans rfl) (fun z hz => by
      rcases List.mem_cons.mp hz with rfl | hz
      · exact .inr ⟨by decide, "java/lang/IndexOutOfBoundsException", hC.2.2.2.2.1 _ tw_2_213, nc_of hS hC (List.mem_cons_of_mem _ List.mem_cons_self) List.mem_cons_self (by decide)⟩
      exact absurd hz List.not_mem_nil) (by decide) (by decide) (hC.2.2.2.2.1 _ tw_2_214) (ot_before hC (.inr tw_3_76) (fun _ => rfl)) hcell hcv hcl ?_
      refine lv_astore (lv' := [(4, .ref q9), (0, .ref (ad 248)), (1, .int a1), (2, .int a2), (3, .ref (ad 265))]) hx hb dL_formatMerge_17 hl (Nat.lt_of_lt_of_eq (by decide) rfl) rfl (fun ls hl => ?_)
      refine lv_iconst (v := 2) hx hb dL_formatMerge_19 rfl ?_
      refine x_wid (c2 := 10) (s2 := 654) (Nat.le_of_ble_eq_true rfl) (Nat.le_of_ble_eq_true rfl) ?_
      exact r_iret2 hC hI hf dL_formatMerge_20
    have hf := gf hf c1
    cases hf
  · have hf := (if_pos hq).symm.trans hf
    refine lv_i2l (v := rr.toInt64) hx hb dL_formatMerge_8 rfl ?_
    obtain ⟨V2, e2, hf⟩ := gl hf
    refine r_last (x := rr) hC hI e2 dL_formatMerge_9 (fun H locs hI => ?_)
    refine lv_goto (tgt := 21) hx hb dL_formatMerge_10 (by decide) ?_
    refine lv_iconst (v := 0) hx hb dL_formatMerge_21 rfl ?_
    refine x_wid (c2 := 10) (s2 := 654) (Nat.le_of_ble_eq_true rfl) (Nat.le_of_ble_eq_true rfl) ?_
    exact r_iret2 hC hI hf dL_formatMerge_22
theorem kl_L_formatMerge {p : Program} {l : Launch} {e : Env} {R : Room} {cells slots : Nat} {s : State} {m : MethodId} {args : Array Value} {below : List Frame} {meth : Method} {c : Code} {H : Heap} {locs : List Loc} {Q : State → Prop} {E : En} {ad : Nat → Nat} {V : Mem} {ow : String} {b : ByteArray} {n : Nat} {ret : Option FieldType} {pc index : Nat} {ls : Array Slot} {rest : List Value} {a1 : Int32} {a2 : Int32} {r : Int32} {V1 : Mem} (hS : SF E) (hFr : Fr E) (hT : l.stackTraces = false) (hC : Cx p s m args c meth E ow b n ret) (hI : In E ad V s H locs) (hsz : ls.size = n) (hf : f_L_formatMerge V a1 a2 = some (r, V1)) (hl : Cond.methodLink ow index yL_formatMerge ∈ TB) (hR : 9 + 1 ≤ R.frames ∧ 8 + (5 + 11) + 40 * 9 ≤ R.locals) (hcs : cells + 10 ≤ R.cells ∧ slots + 654 ≤ R.slots) (hw : (rest.map fun v => v.category).sum ≤ 8) (hdg : decode b pc = .ok (.invokestatic index, 3)) (kk : ∀ (H1 : Heap) (locs1 : List Loc), In E ad V1 s H1 locs1 → W p l e R s m args below meth c H1 locs1 (cells + 10) (slots + 654) Q (F0 m (pc + 3) ls (.int r :: rest))) : W p l e R s m args below meth c H locs cells slots Q (F0 m pc ls (.ref (ad 265) :: .int a2 :: .int a1 :: .ref (ad 248) :: rest)) :=
  after_callA hI (runSW_tb (As := [.ref (ad 248), .int a1, .int a2, .ref (ad 265)]) (rest := rest) hC hI hsz (m_L_formatMerge l hT E ad V a1 a2 hS hFr r V1 hf) cv_L_formatMerge hl rfl rfl hR hcs hw hdg) kk

theorem dL_lineChar_0 : decode cL_lineChar 0 = .ok (.aload_n 2, 1) := by decide +kernel
theorem dL_lineChar_1 : decode cL_lineChar 1 = .ok (.iconst 0, 1) := by decide +kernel
theorem dL_lineChar_2 : decode cL_lineChar 2 = .ok (.aload_n 0, 1) := by decide +kernel
theorem dL_lineChar_3 : decode cL_lineChar 3 = .ok (.iload_n 1, 1) := by decide +kernel
theorem dL_lineChar_4 : decode cL_lineChar 4 = .ok (.invokevirtual 152, 3) := by decide +kernel
theorem dL_lineChar_7 : decode cL_lineChar 7 = .ok (.i2l, 1) := by decide +kernel
theorem dL_lineChar_8 : decode cL_lineChar 8 = .ok (.lastore, 1) := by decide +kernel
theorem dL_lineChar_9 : decode cL_lineChar 9 = .ok (.goto 6, 3) := by decide +kernel
theorem dL_lineChar_12 : decode cL_lineChar 12 = .ok (.astore_n 3, 1) := by decide +kernel
theorem dL_lineChar_13 : decode cL_lineChar 13 = .ok (.iconst 1, 1) := by decide +kernel
theorem dL_lineChar_14 : decode cL_lineChar 14 = .ok (.ireturn, 1) := by decide +kernel
theorem dL_lineChar_15 : decode cL_lineChar 15 = .ok (.iconst 0, 1) := by decide +kernel
theorem dL_lineChar_16 : decode cL_lineChar 16 = .ok (.ireturn, 1) := by decide +kernel
def f_L_lineChar (V : Mem) (a1 : Int32) : Option (Int32 × Mem) :=
  bh (f_X9_lineChar V a1) (fun q V => if q = 1 then some (1, V) else none) fun r V1 =>
  lt (stv V1 265 0 r) fun V2 => some (0, V2)
theorem cv_L_lineChar : (yL_lineChar.cls ≠ "java/lang/invoke/MethodHandle" ∧ yL_lineChar.cls ≠ "java/lang/invoke/VarHandle") ∧ Cond.initialized yL_lineChar.cls ∈ TB ∧ Cond.codeWith yL_lineChar cL_lineChar 4 (some .int) [(0, 9, 12, 13)] ∈ TB ∧ (parseMethodDescriptor yL_lineChar.desc).map (fun d => d.parameters.length) = some 3 ∧ Cond.static yL_lineChar ∈ TB := ⟨⟨by decide +kernel, by decide +kernel⟩, tw_1_0, tw_6_232, by decide +kernel, tw_6_231⟩
set_option maxRecDepth 100000 in
set_option maxHeartbeats 4000000 in
theorem m_L_lineChar (l : Launch) (hT : l.stackTraces = false) (E : En) (ad : Nat → Nat) (V : Mem) (a1 : Int32) (hS : SF E) (hFr : Fr E) (r : Int32) (Vz : Mem) (hf : f_L_lineChar V a1 = some (r, Vz)) : MW l E ad yL_lineChar cL_lineChar 4 (some .int) [(0, 9, 12, 13)] 7 1 6 [.ref (ad 248), .int a1, .ref (ad 265)] V (some (.int r)) Vz := by
  refine entH (E := E) (ad := ad) (V := V) "LetterRepositoryLaw" (by decide +kernel) rfl (Nat.le_of_ble_eq_true rfl) ?_
  intro p e s m below meth c ls hC hTab hI hl
  have hx := hC.1
  have hb := hC.2.1
  have hl : lv_has ls 4 [(0, .ref (ad 248)), (1, .int a1), (2, .ref (ad 265))] := hl
  unfold f_L_lineChar at hf
  obtain ⟨q, rr, V1, e1, hf⟩ := gbh hf
  refine lv_aload_n hx hb dL_lineChar_0 rfl (lv_at hl 2 rfl) ?_
  refine lv_iconst (v := 0) hx hb dL_lineChar_1 rfl ?_
  refine lv_aload_n hx hb dL_lineChar_2 rfl (lv_at hl 0 rfl) ?_
  refine lv_iload_n hx hb dL_lineChar_3 rfl (lv_at hl 1 rfl) ?_
  refine after_callH hI (xrunV_tb (As := [.int a1]) (rest := [.int 0, .ref (ad 265)]) hC hI hl.1 (m_X9_lineChar l hT E ad V a1 hS hFr q rr V1 e1) cv_X9_lineChar tw_6_233 (by decide) (ce_248 _) rfl rfl rfl ⟨Nat.le_of_ble_eq_true rfl, Nat.le_of_ble_eq_true rfl⟩ ⟨Nat.le_of_ble_eq_true rfl, Nat.le_of_ble_eq_true rfl⟩ (Nat.le_of_ble_eq_true rfl) dL_lineChar_4) (fun hq H locs q9 ce hI hcell hcv hcl => ?_) (fun hq H locs hI => ?_)
  · have hf := (if_neg hq).symm.trans hf
    rcases Decidable.em (q = 1) with c0 | c0
    · have hf := gt hf c0
      have hcl : s.vm.findClass "java/lang/IndexOutOfBoundsException" = some ce.cls := by rw [c0] at hcl; exact hcl
      refine vx_catch (own := "LetterRepositoryLaw") (name := "java/lang/IndexOutOfBoundsException") (E := "java/lang/IndexOutOfBoundsException") hC.2.2.2.1 [] (⟨0, 9, 12, 13⟩ : ExceptionTableEntry) [] (hTab.trans rfl) (fun _ h => nomatch h) (by decide) (by decide) (hC.2.2.2.2.1 _ tw_2_213) (ot_before hC (.inr tw_3_5) (fun _ => rfl)) hcell hcv hcl ?_
      refine lv_astore_n (lv' := [(3, .ref q9), (0, .ref (ad 248)), (1, .int a1), (2, .ref (ad 265))]) hx hb dL_lineChar_12 rfl hl (Nat.lt_of_lt_of_eq (by decide) rfl) rfl (fun ls hl => ?_)
      refine lv_iconst (v := 1) hx hb dL_lineChar_13 rfl ?_
      refine x_wid (c2 := 1) (s2 := 6) (Nat.le_of_ble_eq_true rfl) (Nat.le_of_ble_eq_true rfl) ?_
      exact r_iret2 hC hI hf dL_lineChar_14
    have hf := gf hf c0
    cases hf
  · have hf := (if_pos hq).symm.trans hf
    refine lv_i2l (v := rr.toInt64) hx hb dL_lineChar_7 rfl ?_
    obtain ⟨V2, e2, hf⟩ := gl hf
    refine r_last (x := rr) hC hI e2 dL_lineChar_8 (fun H locs hI => ?_)
    refine lv_goto (tgt := 15) hx hb dL_lineChar_9 (by decide) ?_
    refine lv_iconst (v := 0) hx hb dL_lineChar_15 rfl ?_
    refine x_wid (c2 := 1) (s2 := 6) (Nat.le_of_ble_eq_true rfl) (Nat.le_of_ble_eq_true rfl) ?_
    exact r_iret2 hC hI hf dL_lineChar_16
theorem kl_L_lineChar {p : Program} {l : Launch} {e : Env} {R : Room} {cells slots : Nat} {s : State} {m : MethodId} {args : Array Value} {below : List Frame} {meth : Method} {c : Code} {H : Heap} {locs : List Loc} {Q : State → Prop} {E : En} {ad : Nat → Nat} {V : Mem} {ow : String} {b : ByteArray} {n : Nat} {ret : Option FieldType} {pc index : Nat} {ls : Array Slot} {rest : List Value} {a1 : Int32} {r : Int32} {V1 : Mem} (hS : SF E) (hFr : Fr E) (hT : l.stackTraces = false) (hC : Cx p s m args c meth E ow b n ret) (hI : In E ad V s H locs) (hsz : ls.size = n) (hf : f_L_lineChar V a1 = some (r, V1)) (hl : Cond.methodLink ow index yL_lineChar ∈ TB) (hR : 7 + 1 ≤ R.frames ∧ 8 + (4 + 11) + 40 * 7 ≤ R.locals) (hcs : cells + 1 ≤ R.cells ∧ slots + 6 ≤ R.slots) (hw : (rest.map fun v => v.category).sum ≤ 8) (hdg : decode b pc = .ok (.invokestatic index, 3)) (kk : ∀ (H1 : Heap) (locs1 : List Loc), In E ad V1 s H1 locs1 → W p l e R s m args below meth c H1 locs1 (cells + 1) (slots + 6) Q (F0 m (pc + 3) ls (.int r :: rest))) : W p l e R s m args below meth c H locs cells slots Q (F0 m pc ls (.ref (ad 265) :: .int a1 :: .ref (ad 248) :: rest)) :=
  after_callA hI (runSW_tb (As := [.ref (ad 248), .int a1, .ref (ad 265)]) (rest := rest) hC hI hsz (m_L_lineChar l hT E ad V a1 hS hFr r V1 hf) cv_L_lineChar hl rfl rfl hR hcs hw hdg) kk

theorem dL_append_0 : decode cL_append 0 = .ok (.aload_n 2, 1) := by decide +kernel
theorem dL_append_1 : decode cL_append 1 = .ok (.iconst 0, 1) := by decide +kernel
theorem dL_append_2 : decode cL_append 2 = .ok (.aload_n 0, 1) := by decide +kernel
theorem dL_append_3 : decode cL_append 3 = .ok (.iload_n 1, 1) := by decide +kernel
theorem dL_append_4 : decode cL_append 4 = .ok (.invokevirtual 155, 3) := by decide +kernel
theorem dL_append_7 : decode cL_append 7 = .ok (.i2l, 1) := by decide +kernel
theorem dL_append_8 : decode cL_append 8 = .ok (.lastore, 1) := by decide +kernel
theorem dL_append_9 : decode cL_append 9 = .ok (.goto 9, 3) := by decide +kernel
theorem dL_append_12 : decode cL_append 12 = .ok (.astore_n 3, 1) := by decide +kernel
theorem dL_append_13 : decode cL_append 13 = .ok (.iconst 1, 1) := by decide +kernel
theorem dL_append_14 : decode cL_append 14 = .ok (.ireturn, 1) := by decide +kernel
theorem dL_append_15 : decode cL_append 15 = .ok (.astore_n 3, 1) := by decide +kernel
theorem dL_append_16 : decode cL_append 16 = .ok (.iconst 2, 1) := by decide +kernel
theorem dL_append_17 : decode cL_append 17 = .ok (.ireturn, 1) := by decide +kernel
theorem dL_append_18 : decode cL_append 18 = .ok (.iconst 0, 1) := by decide +kernel
theorem dL_append_19 : decode cL_append 19 = .ok (.ireturn, 1) := by decide +kernel
def f_L_append (V : Mem) (a1 : Int32) : Option (Int32 × Mem) :=
  bh (f_X9_append V a1) (fun q V => if q = 2 then some (1, V) else if q = 4 then some (2, V) else none) fun r V1 =>
  lt (stv V1 265 0 r) fun V2 => some (0, V2)
theorem cv_L_append : (yL_append.cls ≠ "java/lang/invoke/MethodHandle" ∧ yL_append.cls ≠ "java/lang/invoke/VarHandle") ∧ Cond.initialized yL_append.cls ∈ TB ∧ Cond.codeWith yL_append cL_append 4 (some .int) [(0, 9, 12, 15), (0, 9, 15, 25)] ∈ TB ∧ (parseMethodDescriptor yL_append.desc).map (fun d => d.parameters.length) = some 3 ∧ Cond.static yL_append ∈ TB := ⟨⟨by decide +kernel, by decide +kernel⟩, tw_1_0, tw_7_10, by decide +kernel, tw_7_9⟩
set_option maxRecDepth 100000 in
set_option maxHeartbeats 4000000 in
theorem m_L_append (l : Launch) (hT : l.stackTraces = false) (E : En) (ad : Nat → Nat) (V : Mem) (a1 : Int32) (hS : SF E) (hFr : Fr E) (r : Int32) (Vz : Mem) (hf : f_L_append V a1 = some (r, Vz)) : MW l E ad yL_append cL_append 4 (some .int) [(0, 9, 12, 15), (0, 9, 15, 25)] 8 1 72 [.ref (ad 248), .int a1, .ref (ad 265)] V (some (.int r)) Vz := by
  refine entH (E := E) (ad := ad) (V := V) "LetterRepositoryLaw" (by decide +kernel) rfl (Nat.le_of_ble_eq_true rfl) ?_
  intro p e s m below meth c ls hC hTab hI hl
  have hx := hC.1
  have hb := hC.2.1
  have hl : lv_has ls 4 [(0, .ref (ad 248)), (1, .int a1), (2, .ref (ad 265))] := hl
  unfold f_L_append at hf
  obtain ⟨q, rr, V1, e1, hf⟩ := gbh hf
  refine lv_aload_n hx hb dL_append_0 rfl (lv_at hl 2 rfl) ?_
  refine lv_iconst (v := 0) hx hb dL_append_1 rfl ?_
  refine lv_aload_n hx hb dL_append_2 rfl (lv_at hl 0 rfl) ?_
  refine lv_iload_n hx hb dL_append_3 rfl (lv_at hl 1 rfl) ?_
  refine after_callH hI (xrunV_tb (As := [.int a1]) (rest := [.int 0, .ref (ad 265)]) hC hI hl.1 (m_X9_append l hT E ad V a1 hS hFr q rr V1 e1) cv_X9_append tw_7_11 (by decide) (ce_248 _) rfl rfl rfl ⟨Nat.le_of_ble_eq_true rfl, Nat.le_of_ble_eq_true rfl⟩ ⟨Nat.le_of_ble_eq_true rfl, Nat.le_of_ble_eq_true rfl⟩ (Nat.le_of_ble_eq_true rfl) dL_append_4) (fun hq H locs q9 ce hI hcell hcv hcl => ?_) (fun hq H locs hI => ?_)
  · have hf := (if_neg hq).symm.trans hf
    rcases Decidable.em (q = 2) with c0 | c0
    · have hf := gt hf c0
      have hcl : s.vm.findClass "java/lang/IllegalArgumentException" = some ce.cls := by rw [c0] at hcl; exact hcl
      refine vx_catch (own := "LetterRepositoryLaw") (name := "java/lang/IllegalArgumentException") (E := "java/lang/IllegalArgumentException") hC.2.2.2.1 [] (⟨0, 9, 12, 15⟩ : ExceptionTableEntry) [(⟨0, 9, 15, 25⟩ : ExceptionTableEntry)] (hTab.trans rfl) (fun _ h => nomatch h) (by decide) (by decide) (hC.2.2.2.2.1 _ tw_2_214) (ot_before hC (.inr tw_3_76) (fun _ => rfl)) hcell hcv hcl ?_
      refine lv_astore_n (lv' := [(3, .ref q9), (0, .ref (ad 248)), (1, .int a1), (2, .ref (ad 265))]) hx hb dL_append_12 rfl hl (Nat.lt_of_lt_of_eq (by decide) rfl) rfl (fun ls hl => ?_)
      refine lv_iconst (v := 1) hx hb dL_append_13 rfl ?_
      refine x_wid (c2 := 1) (s2 := 72) (Nat.le_of_ble_eq_true rfl) (Nat.le_of_ble_eq_true rfl) ?_
      exact r_iret2 hC hI hf dL_append_14
    have hf := gf hf c0
    rcases Decidable.em (q = 4) with c1 | c1
    · have hf := gt hf c1
      have hcl : s.vm.findClass "java/lang/IllegalStateException" = some ce.cls := by rw [c1] at hcl; exact hcl
      refine vx_catch (own := "LetterRepositoryLaw") (name := "java/lang/IllegalStateException") (E := "java/lang/IllegalStateException") hC.2.2.2.1 [(⟨0, 9, 12, 15⟩ : ExceptionTableEntry)] (⟨0, 9, 15, 25⟩ : ExceptionTableEntry) [] (hTab.trans rfl) (fun z hz => by
      rcases List.mem_cons.mp hz with rfl | hz
      · exact .inr ⟨by decide, "java/lang/IllegalArgumentException", hC.2.2.2.2.1 _ tw_2_214, nc_of hS hC (List.mem_cons_of_mem _ (List.mem_cons_of_mem _ (List.mem_cons_of_mem _ List.mem_cons_self))) (List.mem_cons_of_mem _ List.mem_cons_self) (by decide)⟩
      exact absurd hz List.not_mem_nil) (by decide) (by decide) (hC.2.2.2.2.1 _ tw_3_173) (ot_before hC (.inr tw_3_112) (fun _ => rfl)) hcell hcv hcl ?_
      refine lv_astore_n (lv' := [(3, .ref q9), (0, .ref (ad 248)), (1, .int a1), (2, .ref (ad 265))]) hx hb dL_append_15 rfl hl (Nat.lt_of_lt_of_eq (by decide) rfl) rfl (fun ls hl => ?_)
      refine lv_iconst (v := 2) hx hb dL_append_16 rfl ?_
      refine x_wid (c2 := 1) (s2 := 72) (Nat.le_of_ble_eq_true rfl) (Nat.le_of_ble_eq_true rfl) ?_
      exact r_iret2 hC hI hf dL_append_17
    have hf := gf hf c1
    cases hf
  · have hf := (if_pos hq).symm.trans hf
    refine lv_i2l (v := rr.toInt64) hx hb dL_append_7 rfl ?_
    obtain ⟨V2, e2, hf⟩ := gl hf
    refine r_last (x := rr) hC hI e2 dL_append_8 (fun H locs hI => ?_)
    refine lv_goto (tgt := 18) hx hb dL_append_9 (by decide) ?_
    refine lv_iconst (v := 0) hx hb dL_append_18 rfl ?_
    refine x_wid (c2 := 1) (s2 := 72) (Nat.le_of_ble_eq_true rfl) (Nat.le_of_ble_eq_true rfl) ?_
    exact r_iret2 hC hI hf dL_append_19
theorem kl_L_append {p : Program} {l : Launch} {e : Env} {R : Room} {cells slots : Nat} {s : State} {m : MethodId} {args : Array Value} {below : List Frame} {meth : Method} {c : Code} {H : Heap} {locs : List Loc} {Q : State → Prop} {E : En} {ad : Nat → Nat} {V : Mem} {ow : String} {b : ByteArray} {n : Nat} {ret : Option FieldType} {pc index : Nat} {ls : Array Slot} {rest : List Value} {a1 : Int32} {r : Int32} {V1 : Mem} (hS : SF E) (hFr : Fr E) (hT : l.stackTraces = false) (hC : Cx p s m args c meth E ow b n ret) (hI : In E ad V s H locs) (hsz : ls.size = n) (hf : f_L_append V a1 = some (r, V1)) (hl : Cond.methodLink ow index yL_append ∈ TB) (hR : 8 + 1 ≤ R.frames ∧ 8 + (4 + 11) + 40 * 8 ≤ R.locals) (hcs : cells + 1 ≤ R.cells ∧ slots + 72 ≤ R.slots) (hw : (rest.map fun v => v.category).sum ≤ 8) (hdg : decode b pc = .ok (.invokestatic index, 3)) (kk : ∀ (H1 : Heap) (locs1 : List Loc), In E ad V1 s H1 locs1 → W p l e R s m args below meth c H1 locs1 (cells + 1) (slots + 72) Q (F0 m (pc + 3) ls (.int r :: rest))) : W p l e R s m args below meth c H locs cells slots Q (F0 m pc ls (.ref (ad 265) :: .int a1 :: .ref (ad 248) :: rest)) :=
  after_callA hI (runSW_tb (As := [.ref (ad 248), .int a1, .ref (ad 265)]) (rest := rest) hC hI hsz (m_L_append l hT E ad V a1 hS hFr r V1 hf) cv_L_append hl rfl rfl hR hcs hw hdg) kk

theorem dL_run_0 : decode cL_run 0 = .ok (.aload_n 1, 1) := by decide +kernel
theorem dL_run_1 : decode cL_run 1 = .ok (.iconst 0, 1) := by decide +kernel
theorem dL_run_2 : decode cL_run 2 = .ok (.aload_n 0, 1) := by decide +kernel
theorem dL_run_3 : decode cL_run 3 = .ok (.invokevirtual 158, 3) := by decide +kernel
theorem dL_run_6 : decode cL_run 6 = .ok (.i2l, 1) := by decide +kernel
theorem dL_run_7 : decode cL_run 7 = .ok (.lastore, 1) := by decide +kernel
theorem dL_run_8 : decode cL_run 8 = .ok (.goto 9, 3) := by decide +kernel
theorem dL_run_11 : decode cL_run 11 = .ok (.astore_n 2, 1) := by decide +kernel
theorem dL_run_12 : decode cL_run 12 = .ok (.iconst 1, 1) := by decide +kernel
theorem dL_run_13 : decode cL_run 13 = .ok (.ireturn, 1) := by decide +kernel
theorem dL_run_14 : decode cL_run 14 = .ok (.astore_n 2, 1) := by decide +kernel
theorem dL_run_15 : decode cL_run 15 = .ok (.iconst 2, 1) := by decide +kernel
theorem dL_run_16 : decode cL_run 16 = .ok (.ireturn, 1) := by decide +kernel
theorem dL_run_17 : decode cL_run 17 = .ok (.iconst 0, 1) := by decide +kernel
theorem dL_run_18 : decode cL_run 18 = .ok (.ireturn, 1) := by decide +kernel
def f_L_run (V : Mem) : Option (Int32 × Mem) :=
  bh (f_X9_run V) (fun q V => if q = 2 then some (1, V) else if q = 4 then some (2, V) else none) fun r V1 =>
  lt (stv V1 265 0 r) fun V2 => some (0, V2)
theorem cv_L_run : (yL_run.cls ≠ "java/lang/invoke/MethodHandle" ∧ yL_run.cls ≠ "java/lang/invoke/VarHandle") ∧ Cond.initialized yL_run.cls ∈ TB ∧ Cond.codeWith yL_run cL_run 3 (some .int) [(0, 8, 11, 15), (0, 8, 14, 25)] ∈ TB ∧ (parseMethodDescriptor yL_run.desc).map (fun d => d.parameters.length) = some 2 ∧ Cond.static yL_run ∈ TB := ⟨⟨by decide +kernel, by decide +kernel⟩, tw_1_0, tw_7_19, by decide +kernel, tw_7_18⟩
set_option maxRecDepth 100000 in
set_option maxHeartbeats 4000000 in
theorem m_L_run (l : Launch) (hT : l.stackTraces = false) (E : En) (ad : Nat → Nat) (V : Mem) (hS : SF E) (hFr : Fr E) (r : Int32) (Vz : Mem) (hf : f_L_run V = some (r, Vz)) : MW l E ad yL_run cL_run 3 (some .int) [(0, 8, 11, 15), (0, 8, 14, 25)] 34 2 78 [.ref (ad 248), .ref (ad 265)] V (some (.int r)) Vz := by
  refine entH (E := E) (ad := ad) (V := V) "LetterRepositoryLaw" (by decide +kernel) rfl (Nat.le_of_ble_eq_true rfl) ?_
  intro p e s m below meth c ls hC hTab hI hl
  have hx := hC.1
  have hb := hC.2.1
  have hl : lv_has ls 3 [(0, .ref (ad 248)), (1, .ref (ad 265))] := hl
  unfold f_L_run at hf
  obtain ⟨q, rr, V1, e1, hf⟩ := gbh hf
  refine lv_aload_n hx hb dL_run_0 rfl (lv_at hl 1 rfl) ?_
  refine lv_iconst (v := 0) hx hb dL_run_1 rfl ?_
  refine lv_aload_n hx hb dL_run_2 rfl (lv_at hl 0 rfl) ?_
  refine after_callH hI (xrunV_tb (As := []) (rest := [.int 0, .ref (ad 265)]) hC hI hl.1 (m_X9_run l hT E ad V hS hFr q rr V1 e1) cv_X9_run tw_7_20 (by decide) (ce_248 _) rfl rfl rfl ⟨Nat.le_of_ble_eq_true rfl, Nat.le_of_ble_eq_true rfl⟩ ⟨Nat.le_of_ble_eq_true rfl, Nat.le_of_ble_eq_true rfl⟩ (Nat.le_of_ble_eq_true rfl) dL_run_3) (fun hq H locs q9 ce hI hcell hcv hcl => ?_) (fun hq H locs hI => ?_)
  · have hf := (if_neg hq).symm.trans hf
    rcases Decidable.em (q = 2) with c0 | c0
    · have hf := gt hf c0
      have hcl : s.vm.findClass "java/lang/IllegalArgumentException" = some ce.cls := by rw [c0] at hcl; exact hcl
      refine vx_catch (own := "LetterRepositoryLaw") (name := "java/lang/IllegalArgumentException") (E := "java/lang/IllegalArgumentException") hC.2.2.2.1 [] (⟨0, 8, 11, 15⟩ : ExceptionTableEntry) [(⟨0, 8, 14, 25⟩ : ExceptionTableEntry)] (hTab.trans rfl) (fun _ h => nomatch h) (by decide) (by decide) (hC.2.2.2.2.1 _ tw_2_214) (ot_before hC (.inr tw_3_76) (fun _ => rfl)) hcell hcv hcl ?_
      refine lv_astore_n (lv' := [(2, .ref q9), (0, .ref (ad 248)), (1, .ref (ad 265))]) hx hb dL_run_11 rfl hl (Nat.lt_of_lt_of_eq (by decide) rfl) rfl (fun ls hl => ?_)
      refine lv_iconst (v := 1) hx hb dL_run_12 rfl ?_
      refine x_wid (c2 := 2) (s2 := 78) (Nat.le_of_ble_eq_true rfl) (Nat.le_of_ble_eq_true rfl) ?_
      exact r_iret2 hC hI hf dL_run_13
    have hf := gf hf c0
    rcases Decidable.em (q = 4) with c1 | c1
    · have hf := gt hf c1
      have hcl : s.vm.findClass "java/lang/IllegalStateException" = some ce.cls := by rw [c1] at hcl; exact hcl
      refine vx_catch (own := "LetterRepositoryLaw") (name := "java/lang/IllegalStateException") (E := "java/lang/IllegalStateException") hC.2.2.2.1 [(⟨0, 8, 11, 15⟩ : ExceptionTableEntry)] (⟨0, 8, 14, 25⟩ : ExceptionTableEntry) [] (hTab.trans rfl) (fun z hz => by
      rcases List.mem_cons.mp hz with rfl | hz
      · exact .inr ⟨by decide, "java/lang/IllegalArgumentException", hC.2.2.2.2.1 _ tw_2_214, nc_of hS hC (List.mem_cons_of_mem _ (List.mem_cons_of_mem _ (List.mem_cons_of_mem _ List.mem_cons_self))) (List.mem_cons_of_mem _ List.mem_cons_self) (by decide)⟩
      exact absurd hz List.not_mem_nil) (by decide) (by decide) (hC.2.2.2.2.1 _ tw_3_173) (ot_before hC (.inr tw_3_112) (fun _ => rfl)) hcell hcv hcl ?_
      refine lv_astore_n (lv' := [(2, .ref q9), (0, .ref (ad 248)), (1, .ref (ad 265))]) hx hb dL_run_14 rfl hl (Nat.lt_of_lt_of_eq (by decide) rfl) rfl (fun ls hl => ?_)
      refine lv_iconst (v := 2) hx hb dL_run_15 rfl ?_
      refine x_wid (c2 := 2) (s2 := 78) (Nat.le_of_ble_eq_true rfl) (Nat.le_of_ble_eq_true rfl) ?_
      exact r_iret2 hC hI hf dL_run_16
    have hf := gf hf c1
    cases hf
  · have hf := (if_pos hq).symm.trans hf
    refine lv_i2l (v := rr.toInt64) hx hb dL_run_6 rfl ?_
    obtain ⟨V2, e2, hf⟩ := gl hf
    refine r_last (x := rr) hC hI e2 dL_run_7 (fun H locs hI => ?_)
    refine lv_goto (tgt := 17) hx hb dL_run_8 (by decide) ?_
    refine lv_iconst (v := 0) hx hb dL_run_17 rfl ?_
    refine x_wid (c2 := 2) (s2 := 78) (Nat.le_of_ble_eq_true rfl) (Nat.le_of_ble_eq_true rfl) ?_
    exact r_iret2 hC hI hf dL_run_18
theorem kl_L_run {p : Program} {l : Launch} {e : Env} {R : Room} {cells slots : Nat} {s : State} {m : MethodId} {args : Array Value} {below : List Frame} {meth : Method} {c : Code} {H : Heap} {locs : List Loc} {Q : State → Prop} {E : En} {ad : Nat → Nat} {V : Mem} {ow : String} {b : ByteArray} {n : Nat} {ret : Option FieldType} {pc index : Nat} {ls : Array Slot} {rest : List Value} {r : Int32} {V1 : Mem} (hS : SF E) (hFr : Fr E) (hT : l.stackTraces = false) (hC : Cx p s m args c meth E ow b n ret) (hI : In E ad V s H locs) (hsz : ls.size = n) (hf : f_L_run V = some (r, V1)) (hl : Cond.methodLink ow index yL_run ∈ TB) (hR : 34 + 1 ≤ R.frames ∧ 8 + (3 + 11) + 40 * 34 ≤ R.locals) (hcs : cells + 2 ≤ R.cells ∧ slots + 78 ≤ R.slots) (hw : (rest.map fun v => v.category).sum ≤ 8) (hdg : decode b pc = .ok (.invokestatic index, 3)) (kk : ∀ (H1 : Heap) (locs1 : List Loc), In E ad V1 s H1 locs1 → W p l e R s m args below meth c H1 locs1 (cells + 2) (slots + 78) Q (F0 m (pc + 3) ls (.int r :: rest))) : W p l e R s m args below meth c H locs cells slots Q (F0 m pc ls (.ref (ad 265) :: .ref (ad 248) :: rest)) :=
  after_callA hI (runSW_tb (As := [.ref (ad 248), .ref (ad 265)]) (rest := rest) hC hI hsz (m_L_run l hT E ad V hS hFr r V1 hf) cv_L_run hl rfl rfl hR hcs hw hdg) kk

theorem dL_errorPosition_0 : decode cL_errorPosition 0 = .ok (.aload_n 1, 1) := by decide +kernel
theorem dL_errorPosition_1 : decode cL_errorPosition 1 = .ok (.iconst 0, 1) := by decide +kernel
theorem dL_errorPosition_2 : decode cL_errorPosition 2 = .ok (.aload_n 0, 1) := by decide +kernel
theorem dL_errorPosition_3 : decode cL_errorPosition 3 = .ok (.invokevirtual 162, 3) := by decide +kernel
theorem dL_errorPosition_6 : decode cL_errorPosition 6 = .ok (.i2l, 1) := by decide +kernel
theorem dL_errorPosition_7 : decode cL_errorPosition 7 = .ok (.lastore, 1) := by decide +kernel
theorem dL_errorPosition_8 : decode cL_errorPosition 8 = .ok (.goto 6, 3) := by decide +kernel
theorem dL_errorPosition_11 : decode cL_errorPosition 11 = .ok (.astore_n 2, 1) := by decide +kernel
theorem dL_errorPosition_12 : decode cL_errorPosition 12 = .ok (.iconst 1, 1) := by decide +kernel
theorem dL_errorPosition_13 : decode cL_errorPosition 13 = .ok (.ireturn, 1) := by decide +kernel
theorem dL_errorPosition_14 : decode cL_errorPosition 14 = .ok (.iconst 0, 1) := by decide +kernel
theorem dL_errorPosition_15 : decode cL_errorPosition 15 = .ok (.ireturn, 1) := by decide +kernel
def f_L_errorPosition (V : Mem) : Option (Int32 × Mem) :=
  bh (f_X9_errorPosition V) (fun q V => if q = 3 then some (1, V) else none) fun r V1 =>
  lt (stv V1 265 0 r) fun V2 => some (0, V2)
theorem cv_L_errorPosition : (yL_errorPosition.cls ≠ "java/lang/invoke/MethodHandle" ∧ yL_errorPosition.cls ≠ "java/lang/invoke/VarHandle") ∧ Cond.initialized yL_errorPosition.cls ∈ TB ∧ Cond.codeWith yL_errorPosition cL_errorPosition 3 (some .int) [(0, 8, 11, 30)] ∈ TB ∧ (parseMethodDescriptor yL_errorPosition.desc).map (fun d => d.parameters.length) = some 2 ∧ Cond.static yL_errorPosition ∈ TB := ⟨⟨by decide +kernel, by decide +kernel⟩, tw_1_0, tw_7_145, by decide +kernel, tw_7_144⟩
set_option maxRecDepth 100000 in
set_option maxHeartbeats 4000000 in
theorem m_L_errorPosition (l : Launch) (hT : l.stackTraces = false) (E : En) (ad : Nat → Nat) (V : Mem) (hS : SF E) (r : Int32) (Vz : Mem) (hf : f_L_errorPosition V = some (r, Vz)) : MW l E ad yL_errorPosition cL_errorPosition 3 (some .int) [(0, 8, 11, 30)] 8 1 6 [.ref (ad 248), .ref (ad 265)] V (some (.int r)) Vz := by
  refine entH (E := E) (ad := ad) (V := V) "LetterRepositoryLaw" (by decide +kernel) rfl (Nat.le_of_ble_eq_true rfl) ?_
  intro p e s m below meth c ls hC hTab hI hl
  have hx := hC.1
  have hb := hC.2.1
  have hl : lv_has ls 3 [(0, .ref (ad 248)), (1, .ref (ad 265))] := hl
  unfold f_L_errorPosition at hf
  obtain ⟨q, rr, V1, e1, hf⟩ := gbh hf
  refine lv_aload_n hx hb dL_errorPosition_0 rfl (lv_at hl 1 rfl) ?_
  refine lv_iconst (v := 0) hx hb dL_errorPosition_1 rfl ?_
  refine lv_aload_n hx hb dL_errorPosition_2 rfl (lv_at hl 0 rfl) ?_
  refine after_callH hI (xrunV_tb (As := []) (rest := [.int 0, .ref (ad 265)]) hC hI hl.1 (m_X9_errorPosition l hT E ad V hS q rr V1 e1) cv_X9_errorPosition tw_7_146 (by decide) (ce_248 _) rfl rfl rfl ⟨Nat.le_of_ble_eq_true rfl, Nat.le_of_ble_eq_true rfl⟩ ⟨Nat.le_of_ble_eq_true rfl, Nat.le_of_ble_eq_true rfl⟩ (Nat.le_of_ble_eq_true rfl) dL_errorPosition_3) (fun hq H locs q9 ce hI hcell hcv hcl => ?_) (fun hq H locs hI => ?_)
  · have hf := (if_neg hq).symm.trans hf
    rcases Decidable.em (q = 3) with c0 | c0
    · have hf := gt hf c0
      have hcl : s.vm.findClass "java/util/NoSuchElementException" = some ce.cls := by rw [c0] at hcl; exact hcl
      refine vx_catch (own := "LetterRepositoryLaw") (name := "java/util/NoSuchElementException") (E := "java/util/NoSuchElementException") hC.2.2.2.1 [] (⟨0, 8, 11, 30⟩ : ExceptionTableEntry) [] (hTab.trans rfl) (fun _ h => nomatch h) (by decide) (by decide) (hC.2.2.2.2.1 _ tw_3_209) (ot_before hC (.inr tw_3_94) (fun _ => rfl)) hcell hcv hcl ?_
      refine lv_astore_n (lv' := [(2, .ref q9), (0, .ref (ad 248)), (1, .ref (ad 265))]) hx hb dL_errorPosition_11 rfl hl (Nat.lt_of_lt_of_eq (by decide) rfl) rfl (fun ls hl => ?_)
      refine lv_iconst (v := 1) hx hb dL_errorPosition_12 rfl ?_
      refine x_wid (c2 := 1) (s2 := 6) (Nat.le_of_ble_eq_true rfl) (Nat.le_of_ble_eq_true rfl) ?_
      exact r_iret2 hC hI hf dL_errorPosition_13
    have hf := gf hf c0
    cases hf
  · have hf := (if_pos hq).symm.trans hf
    refine lv_i2l (v := rr.toInt64) hx hb dL_errorPosition_6 rfl ?_
    obtain ⟨V2, e2, hf⟩ := gl hf
    refine r_last (x := rr) hC hI e2 dL_errorPosition_7 (fun H locs hI => ?_)
    refine lv_goto (tgt := 14) hx hb dL_errorPosition_8 (by decide) ?_
    refine lv_iconst (v := 0) hx hb dL_errorPosition_14 rfl ?_
    refine x_wid (c2 := 1) (s2 := 6) (Nat.le_of_ble_eq_true rfl) (Nat.le_of_ble_eq_true rfl) ?_
    exact r_iret2 hC hI hf dL_errorPosition_15
theorem kl_L_errorPosition {p : Program} {l : Launch} {e : Env} {R : Room} {cells slots : Nat} {s : State} {m : MethodId} {args : Array Value} {below : List Frame} {meth : Method} {c : Code} {H : Heap} {locs : List Loc} {Q : State → Prop} {E : En} {ad : Nat → Nat} {V : Mem} {ow : String} {b : ByteArray} {n : Nat} {ret : Option FieldType} {pc index : Nat} {ls : Array Slot} {rest : List Value} {r : Int32} {V1 : Mem} (hS : SF E) (hT : l.stackTraces = false) (hC : Cx p s m args c meth E ow b n ret) (hI : In E ad V s H locs) (hsz : ls.size = n) (hf : f_L_errorPosition V = some (r, V1)) (hl : Cond.methodLink ow index yL_errorPosition ∈ TB) (hR : 8 + 1 ≤ R.frames ∧ 8 + (3 + 11) + 40 * 8 ≤ R.locals) (hcs : cells + 1 ≤ R.cells ∧ slots + 6 ≤ R.slots) (hw : (rest.map fun v => v.category).sum ≤ 8) (hdg : decode b pc = .ok (.invokestatic index, 3)) (kk : ∀ (H1 : Heap) (locs1 : List Loc), In E ad V1 s H1 locs1 → W p l e R s m args below meth c H1 locs1 (cells + 1) (slots + 6) Q (F0 m (pc + 3) ls (.int r :: rest))) : W p l e R s m args below meth c H locs cells slots Q (F0 m pc ls (.ref (ad 265) :: .ref (ad 248) :: rest)) :=
  after_callA hI (runSW_tb (As := [.ref (ad 248), .ref (ad 265)]) (rest := rest) hC hI hsz (m_L_errorPosition l hT E ad V hS r V1 hf) cv_L_errorPosition hl rfl rfl hR hcs hw hdg) kk

theorem dL_failedCommand_0 : decode cL_failedCommand 0 = .ok (.aload_n 1, 1) := by decide +kernel
theorem dL_failedCommand_1 : decode cL_failedCommand 1 = .ok (.iconst 0, 1) := by decide +kernel
theorem dL_failedCommand_2 : decode cL_failedCommand 2 = .ok (.aload_n 0, 1) := by decide +kernel
theorem dL_failedCommand_3 : decode cL_failedCommand 3 = .ok (.invokevirtual 165, 3) := by decide +kernel
theorem dL_failedCommand_6 : decode cL_failedCommand 6 = .ok (.i2l, 1) := by decide +kernel
theorem dL_failedCommand_7 : decode cL_failedCommand 7 = .ok (.lastore, 1) := by decide +kernel
theorem dL_failedCommand_8 : decode cL_failedCommand 8 = .ok (.goto 6, 3) := by decide +kernel
theorem dL_failedCommand_11 : decode cL_failedCommand 11 = .ok (.astore_n 2, 1) := by decide +kernel
theorem dL_failedCommand_12 : decode cL_failedCommand 12 = .ok (.iconst 1, 1) := by decide +kernel
theorem dL_failedCommand_13 : decode cL_failedCommand 13 = .ok (.ireturn, 1) := by decide +kernel
theorem dL_failedCommand_14 : decode cL_failedCommand 14 = .ok (.iconst 0, 1) := by decide +kernel
theorem dL_failedCommand_15 : decode cL_failedCommand 15 = .ok (.ireturn, 1) := by decide +kernel
def f_L_failedCommand (V : Mem) : Option (Int32 × Mem) :=
  bh (f_X9_failedCommand V) (fun q V => if q = 3 then some (1, V) else none) fun r V1 =>
  lt (stv V1 265 0 r) fun V2 => some (0, V2)
theorem cv_L_failedCommand : (yL_failedCommand.cls ≠ "java/lang/invoke/MethodHandle" ∧ yL_failedCommand.cls ≠ "java/lang/invoke/VarHandle") ∧ Cond.initialized yL_failedCommand.cls ∈ TB ∧ Cond.codeWith yL_failedCommand cL_failedCommand 3 (some .int) [(0, 8, 11, 30)] ∈ TB ∧ (parseMethodDescriptor yL_failedCommand.desc).map (fun d => d.parameters.length) = some 2 ∧ Cond.static yL_failedCommand ∈ TB := ⟨⟨by decide +kernel, by decide +kernel⟩, tw_1_0, tw_7_152, by decide +kernel, tw_7_151⟩
set_option maxRecDepth 100000 in
set_option maxHeartbeats 4000000 in
theorem m_L_failedCommand (l : Launch) (hT : l.stackTraces = false) (E : En) (ad : Nat → Nat) (V : Mem) (hS : SF E) (r : Int32) (Vz : Mem) (hf : f_L_failedCommand V = some (r, Vz)) : MW l E ad yL_failedCommand cL_failedCommand 3 (some .int) [(0, 8, 11, 30)] 8 1 6 [.ref (ad 248), .ref (ad 265)] V (some (.int r)) Vz := by
  refine entH (E := E) (ad := ad) (V := V) "LetterRepositoryLaw" (by decide +kernel) rfl (Nat.le_of_ble_eq_true rfl) ?_
  intro p e s m below meth c ls hC hTab hI hl
  have hx := hC.1
  have hb := hC.2.1
  have hl : lv_has ls 3 [(0, .ref (ad 248)), (1, .ref (ad 265))] := hl
  unfold f_L_failedCommand at hf
  obtain ⟨q, rr, V1, e1, hf⟩ := gbh hf
  refine lv_aload_n hx hb dL_failedCommand_0 rfl (lv_at hl 1 rfl) ?_
  refine lv_iconst (v := 0) hx hb dL_failedCommand_1 rfl ?_
  refine lv_aload_n hx hb dL_failedCommand_2 rfl (lv_at hl 0 rfl) ?_
  refine after_callH hI (xrunV_tb (As := []) (rest := [.int 0, .ref (ad 265)]) hC hI hl.1 (m_X9_failedCommand l hT E ad V hS q rr V1 e1) cv_X9_failedCommand tw_7_153 (by decide) (ce_248 _) rfl rfl rfl ⟨Nat.le_of_ble_eq_true rfl, Nat.le_of_ble_eq_true rfl⟩ ⟨Nat.le_of_ble_eq_true rfl, Nat.le_of_ble_eq_true rfl⟩ (Nat.le_of_ble_eq_true rfl) dL_failedCommand_3) (fun hq H locs q9 ce hI hcell hcv hcl => ?_) (fun hq H locs hI => ?_)
  · have hf := (if_neg hq).symm.trans hf
    rcases Decidable.em (q = 3) with c0 | c0
    · have hf := gt hf c0
      have hcl : s.vm.findClass "java/util/NoSuchElementException" = some ce.cls := by rw [c0] at hcl; exact hcl
      refine vx_catch (own := "LetterRepositoryLaw") (name := "java/util/NoSuchElementException") (E := "java/util/NoSuchElementException") hC.2.2.2.1 [] (⟨0, 8, 11, 30⟩ : ExceptionTableEntry) [] (hTab.trans rfl) (fun _ h => nomatch h) (by decide) (by decide) (hC.2.2.2.2.1 _ tw_3_209) (ot_before hC (.inr tw_3_94) (fun _ => rfl)) hcell hcv hcl ?_
      refine lv_astore_n (lv' := [(2, .ref q9), (0, .ref (ad 248)), (1, .ref (ad 265))]) hx hb dL_failedCommand_11 rfl hl (Nat.lt_of_lt_of_eq (by decide) rfl) rfl (fun ls hl => ?_)
      refine lv_iconst (v := 1) hx hb dL_failedCommand_12 rfl ?_
      refine x_wid (c2 := 1) (s2 := 6) (Nat.le_of_ble_eq_true rfl) (Nat.le_of_ble_eq_true rfl) ?_
      exact r_iret2 hC hI hf dL_failedCommand_13
    have hf := gf hf c0
    cases hf
  · have hf := (if_pos hq).symm.trans hf
    refine lv_i2l (v := rr.toInt64) hx hb dL_failedCommand_6 rfl ?_
    obtain ⟨V2, e2, hf⟩ := gl hf
    refine r_last (x := rr) hC hI e2 dL_failedCommand_7 (fun H locs hI => ?_)
    refine lv_goto (tgt := 14) hx hb dL_failedCommand_8 (by decide) ?_
    refine lv_iconst (v := 0) hx hb dL_failedCommand_14 rfl ?_
    refine x_wid (c2 := 1) (s2 := 6) (Nat.le_of_ble_eq_true rfl) (Nat.le_of_ble_eq_true rfl) ?_
    exact r_iret2 hC hI hf dL_failedCommand_15
theorem kl_L_failedCommand {p : Program} {l : Launch} {e : Env} {R : Room} {cells slots : Nat} {s : State} {m : MethodId} {args : Array Value} {below : List Frame} {meth : Method} {c : Code} {H : Heap} {locs : List Loc} {Q : State → Prop} {E : En} {ad : Nat → Nat} {V : Mem} {ow : String} {b : ByteArray} {n : Nat} {ret : Option FieldType} {pc index : Nat} {ls : Array Slot} {rest : List Value} {r : Int32} {V1 : Mem} (hS : SF E) (hT : l.stackTraces = false) (hC : Cx p s m args c meth E ow b n ret) (hI : In E ad V s H locs) (hsz : ls.size = n) (hf : f_L_failedCommand V = some (r, V1)) (hl : Cond.methodLink ow index yL_failedCommand ∈ TB) (hR : 8 + 1 ≤ R.frames ∧ 8 + (3 + 11) + 40 * 8 ≤ R.locals) (hcs : cells + 1 ≤ R.cells ∧ slots + 6 ≤ R.slots) (hw : (rest.map fun v => v.category).sum ≤ 8) (hdg : decode b pc = .ok (.invokestatic index, 3)) (kk : ∀ (H1 : Heap) (locs1 : List Loc), In E ad V1 s H1 locs1 → W p l e R s m args below meth c H1 locs1 (cells + 1) (slots + 6) Q (F0 m (pc + 3) ls (.int r :: rest))) : W p l e R s m args below meth c H locs cells slots Q (F0 m pc ls (.ref (ad 265) :: .ref (ad 248) :: rest)) :=
  after_callA hI (runSW_tb (As := [.ref (ad 248), .ref (ad 265)]) (rest := rest) hC hI hsz (m_L_failedCommand l hT E ad V hS r V1 hf) cv_L_failedCommand hl rfl rfl hR hcs hw hdg) kk

theorem dL_undo_0 : decode cL_undo 0 = .ok (.aload_n 1, 1) := by decide +kernel
theorem dL_undo_1 : decode cL_undo 1 = .ok (.iconst 0, 1) := by decide +kernel
theorem dL_undo_2 : decode cL_undo 2 = .ok (.aload_n 0, 1) := by decide +kernel
theorem dL_undo_3 : decode cL_undo 3 = .ok (.invokevirtual 168, 3) := by decide +kernel
theorem dL_undo_6 : decode cL_undo 6 = .ok (.i2l, 1) := by decide +kernel
theorem dL_undo_7 : decode cL_undo 7 = .ok (.lastore, 1) := by decide +kernel
theorem dL_undo_8 : decode cL_undo 8 = .ok (.goto 6, 3) := by decide +kernel
theorem dL_undo_11 : decode cL_undo 11 = .ok (.astore_n 2, 1) := by decide +kernel
theorem dL_undo_12 : decode cL_undo 12 = .ok (.iconst 1, 1) := by decide +kernel
theorem dL_undo_13 : decode cL_undo 13 = .ok (.ireturn, 1) := by decide +kernel
theorem dL_undo_14 : decode cL_undo 14 = .ok (.iconst 0, 1) := by decide +kernel
theorem dL_undo_15 : decode cL_undo 15 = .ok (.ireturn, 1) := by decide +kernel
def f_L_undo (V : Mem) : Option (Int32 × Mem) :=
  bh (f_X9_undo V) (fun q V => if q = 4 then some (1, V) else none) fun r V1 =>
  lt (stv V1 265 0 r) fun V2 => some (0, V2)
theorem cv_L_undo : (yL_undo.cls ≠ "java/lang/invoke/MethodHandle" ∧ yL_undo.cls ≠ "java/lang/invoke/VarHandle") ∧ Cond.initialized yL_undo.cls ∈ TB ∧ Cond.codeWith yL_undo cL_undo 3 (some .int) [(0, 8, 11, 25)] ∈ TB ∧ (parseMethodDescriptor yL_undo.desc).map (fun d => d.parameters.length) = some 2 ∧ Cond.static yL_undo ∈ TB := ⟨⟨by decide +kernel, by decide +kernel⟩, tw_1_0, tw_7_159, by decide +kernel, tw_7_158⟩
set_option maxRecDepth 100000 in
set_option maxHeartbeats 4000000 in
theorem m_L_undo (l : Launch) (hT : l.stackTraces = false) (E : En) (ad : Nat → Nat) (V : Mem) (hS : SF E) (r : Int32) (Vz : Mem) (hf : f_L_undo V = some (r, Vz)) : MW l E ad yL_undo cL_undo 3 (some .int) [(0, 8, 11, 25)] 7 1 6 [.ref (ad 248), .ref (ad 265)] V (some (.int r)) Vz := by
  refine entH (E := E) (ad := ad) (V := V) "LetterRepositoryLaw" (by decide +kernel) rfl (Nat.le_of_ble_eq_true rfl) ?_
  intro p e s m below meth c ls hC hTab hI hl
  have hx := hC.1
  have hb := hC.2.1
  have hl : lv_has ls 3 [(0, .ref (ad 248)), (1, .ref (ad 265))] := hl
  unfold f_L_undo at hf
  obtain ⟨q, rr, V1, e1, hf⟩ := gbh hf
  refine lv_aload_n hx hb dL_undo_0 rfl (lv_at hl 1 rfl) ?_
  refine lv_iconst (v := 0) hx hb dL_undo_1 rfl ?_
  refine lv_aload_n hx hb dL_undo_2 rfl (lv_at hl 0 rfl) ?_
  refine after_callH hI (xrunV_tb (As := []) (rest := [.int 0, .ref (ad 265)]) hC hI hl.1 (m_X9_undo l hT E ad V hS q rr V1 e1) cv_X9_undo tw_7_160 (by decide) (ce_248 _) rfl rfl rfl ⟨Nat.le_of_ble_eq_true rfl, Nat.le_of_ble_eq_true rfl⟩ ⟨Nat.le_of_ble_eq_true rfl, Nat.le_of_ble_eq_true rfl⟩ (Nat.le_of_ble_eq_true rfl) dL_undo_3) (fun hq H locs q9 ce hI hcell hcv hcl => ?_) (fun hq H locs hI => ?_)
  · have hf := (if_neg hq).symm.trans hf
    rcases Decidable.em (q = 4) with c0 | c0
    · have hf := gt hf c0
      have hcl : s.vm.findClass "java/lang/IllegalStateException" = some ce.cls := by rw [c0] at hcl; exact hcl
      refine vx_catch (own := "LetterRepositoryLaw") (name := "java/lang/IllegalStateException") (E := "java/lang/IllegalStateException") hC.2.2.2.1 [] (⟨0, 8, 11, 25⟩ : ExceptionTableEntry) [] (hTab.trans rfl) (fun _ h => nomatch h) (by decide) (by decide) (hC.2.2.2.2.1 _ tw_3_173) (ot_before hC (.inr tw_3_112) (fun _ => rfl)) hcell hcv hcl ?_
      refine lv_astore_n (lv' := [(2, .ref q9), (0, .ref (ad 248)), (1, .ref (ad 265))]) hx hb dL_undo_11 rfl hl (Nat.lt_of_lt_of_eq (by decide) rfl) rfl (fun ls hl => ?_)
      refine lv_iconst (v := 1) hx hb dL_undo_12 rfl ?_
      refine x_wid (c2 := 1) (s2 := 6) (Nat.le_of_ble_eq_true rfl) (Nat.le_of_ble_eq_true rfl) ?_
      exact r_iret2 hC hI hf dL_undo_13
    have hf := gf hf c0
    cases hf
  · have hf := (if_pos hq).symm.trans hf
    refine lv_i2l (v := rr.toInt64) hx hb dL_undo_6 rfl ?_
    obtain ⟨V2, e2, hf⟩ := gl hf
    refine r_last (x := rr) hC hI e2 dL_undo_7 (fun H locs hI => ?_)
    refine lv_goto (tgt := 14) hx hb dL_undo_8 (by decide) ?_
    refine lv_iconst (v := 0) hx hb dL_undo_14 rfl ?_
    refine x_wid (c2 := 1) (s2 := 6) (Nat.le_of_ble_eq_true rfl) (Nat.le_of_ble_eq_true rfl) ?_
    exact r_iret2 hC hI hf dL_undo_15
theorem kl_L_undo {p : Program} {l : Launch} {e : Env} {R : Room} {cells slots : Nat} {s : State} {m : MethodId} {args : Array Value} {below : List Frame} {meth : Method} {c : Code} {H : Heap} {locs : List Loc} {Q : State → Prop} {E : En} {ad : Nat → Nat} {V : Mem} {ow : String} {b : ByteArray} {n : Nat} {ret : Option FieldType} {pc index : Nat} {ls : Array Slot} {rest : List Value} {r : Int32} {V1 : Mem} (hS : SF E) (hT : l.stackTraces = false) (hC : Cx p s m args c meth E ow b n ret) (hI : In E ad V s H locs) (hsz : ls.size = n) (hf : f_L_undo V = some (r, V1)) (hl : Cond.methodLink ow index yL_undo ∈ TB) (hR : 7 + 1 ≤ R.frames ∧ 8 + (3 + 11) + 40 * 7 ≤ R.locals) (hcs : cells + 1 ≤ R.cells ∧ slots + 6 ≤ R.slots) (hw : (rest.map fun v => v.category).sum ≤ 8) (hdg : decode b pc = .ok (.invokestatic index, 3)) (kk : ∀ (H1 : Heap) (locs1 : List Loc), In E ad V1 s H1 locs1 → W p l e R s m args below meth c H1 locs1 (cells + 1) (slots + 6) Q (F0 m (pc + 3) ls (.int r :: rest))) : W p l e R s m args below meth c H locs cells slots Q (F0 m pc ls (.ref (ad 265) :: .ref (ad 248) :: rest)) :=
  after_callA hI (runSW_tb (As := [.ref (ad 248), .ref (ad 265)]) (rest := rest) hC hI hsz (m_L_undo l hT E ad V hS r V1 hf) cv_L_undo hl rfl rfl hR hcs hw hdg) kk

theorem dL_restore_0 : decode cL_restore 0 = .ok (.aload_n 1, 1) := by decide +kernel
theorem dL_restore_1 : decode cL_restore 1 = .ok (.iconst 0, 1) := by decide +kernel
theorem dL_restore_2 : decode cL_restore 2 = .ok (.aload_n 0, 1) := by decide +kernel
theorem dL_restore_3 : decode cL_restore 3 = .ok (.invokevirtual 171, 3) := by decide +kernel
theorem dL_restore_6 : decode cL_restore 6 = .ok (.i2l, 1) := by decide +kernel
theorem dL_restore_7 : decode cL_restore 7 = .ok (.lastore, 1) := by decide +kernel
theorem dL_restore_8 : decode cL_restore 8 = .ok (.goto 6, 3) := by decide +kernel
theorem dL_restore_11 : decode cL_restore 11 = .ok (.astore_n 2, 1) := by decide +kernel
theorem dL_restore_12 : decode cL_restore 12 = .ok (.iconst 1, 1) := by decide +kernel
theorem dL_restore_13 : decode cL_restore 13 = .ok (.ireturn, 1) := by decide +kernel
theorem dL_restore_14 : decode cL_restore 14 = .ok (.iconst 0, 1) := by decide +kernel
theorem dL_restore_15 : decode cL_restore 15 = .ok (.ireturn, 1) := by decide +kernel
def f_L_restore (V : Mem) : Option (Int32 × Mem) :=
  bh (f_X9_restore V) (fun q V => if q = 4 then some (1, V) else none) fun r V1 =>
  lt (stv V1 265 0 r) fun V2 => some (0, V2)
theorem cv_L_restore : (yL_restore.cls ≠ "java/lang/invoke/MethodHandle" ∧ yL_restore.cls ≠ "java/lang/invoke/VarHandle") ∧ Cond.initialized yL_restore.cls ∈ TB ∧ Cond.codeWith yL_restore cL_restore 3 (some .int) [(0, 8, 11, 25)] ∈ TB ∧ (parseMethodDescriptor yL_restore.desc).map (fun d => d.parameters.length) = some 2 ∧ Cond.static yL_restore ∈ TB := ⟨⟨by decide +kernel, by decide +kernel⟩, tw_1_0, tw_7_173, by decide +kernel, tw_7_172⟩
set_option maxRecDepth 100000 in
set_option maxHeartbeats 4000000 in
theorem m_L_restore (l : Launch) (hT : l.stackTraces = false) (E : En) (ad : Nat → Nat) (V : Mem) (hS : SF E) (r : Int32) (Vz : Mem) (hf : f_L_restore V = some (r, Vz)) : MW l E ad yL_restore cL_restore 3 (some .int) [(0, 8, 11, 25)] 7 1 6 [.ref (ad 248), .ref (ad 265)] V (some (.int r)) Vz := by
  refine entH (E := E) (ad := ad) (V := V) "LetterRepositoryLaw" (by decide +kernel) rfl (Nat.le_of_ble_eq_true rfl) ?_
  intro p e s m below meth c ls hC hTab hI hl
  have hx := hC.1
  have hb := hC.2.1
  have hl : lv_has ls 3 [(0, .ref (ad 248)), (1, .ref (ad 265))] := hl
  unfold f_L_restore at hf
  obtain ⟨q, rr, V1, e1, hf⟩ := gbh hf
  refine lv_aload_n hx hb dL_restore_0 rfl (lv_at hl 1 rfl) ?_
  refine lv_iconst (v := 0) hx hb dL_restore_1 rfl ?_
  refine lv_aload_n hx hb dL_restore_2 rfl (lv_at hl 0 rfl) ?_
  refine after_callH hI (xrunV_tb (As := []) (rest := [.int 0, .ref (ad 265)]) hC hI hl.1 (m_X9_restore l hT E ad V hS q rr V1 e1) cv_X9_restore tw_7_174 (by decide) (ce_248 _) rfl rfl rfl ⟨Nat.le_of_ble_eq_true rfl, Nat.le_of_ble_eq_true rfl⟩ ⟨Nat.le_of_ble_eq_true rfl, Nat.le_of_ble_eq_true rfl⟩ (Nat.le_of_ble_eq_true rfl) dL_restore_3) (fun hq H locs q9 ce hI hcell hcv hcl => ?_) (fun hq H locs hI => ?_)
  · have hf := (if_neg hq).symm.trans hf
    rcases Decidable.em (q = 4) with c0 | c0
    · have hf := gt hf c0
      have hcl : s.vm.findClass "java/lang/IllegalStateException" = some ce.cls := by rw [c0] at hcl; exact hcl
      refine vx_catch (own := "LetterRepositoryLaw") (name := "java/lang/IllegalStateException") (E := "java/lang/IllegalStateException") hC.2.2.2.1 [] (⟨0, 8, 11, 25⟩ : ExceptionTableEntry) [] (hTab.trans rfl) (fun _ h => nomatch h) (by decide) (by decide) (hC.2.2.2.2.1 _ tw_3_173) (ot_before hC (.inr tw_3_112) (fun _ => rfl)) hcell hcv hcl ?_
      refine lv_astore_n (lv' := [(2, .ref q9), (0, .ref (ad 248)), (1, .ref (ad 265))]) hx hb dL_restore_11 rfl hl (Nat.lt_of_lt_of_eq (by decide) rfl) rfl (fun ls hl => ?_)
      refine lv_iconst (v := 1) hx hb dL_restore_12 rfl ?_
      refine x_wid (c2 := 1) (s2 := 6) (Nat.le_of_ble_eq_true rfl) (Nat.le_of_ble_eq_true rfl) ?_
      exact r_iret2 hC hI hf dL_restore_13
    have hf := gf hf c0
    cases hf
  · have hf := (if_pos hq).symm.trans hf
    refine lv_i2l (v := rr.toInt64) hx hb dL_restore_6 rfl ?_
    obtain ⟨V2, e2, hf⟩ := gl hf
    refine r_last (x := rr) hC hI e2 dL_restore_7 (fun H locs hI => ?_)
    refine lv_goto (tgt := 14) hx hb dL_restore_8 (by decide) ?_
    refine lv_iconst (v := 0) hx hb dL_restore_14 rfl ?_
    refine x_wid (c2 := 1) (s2 := 6) (Nat.le_of_ble_eq_true rfl) (Nat.le_of_ble_eq_true rfl) ?_
    exact r_iret2 hC hI hf dL_restore_15
theorem kl_L_restore {p : Program} {l : Launch} {e : Env} {R : Room} {cells slots : Nat} {s : State} {m : MethodId} {args : Array Value} {below : List Frame} {meth : Method} {c : Code} {H : Heap} {locs : List Loc} {Q : State → Prop} {E : En} {ad : Nat → Nat} {V : Mem} {ow : String} {b : ByteArray} {n : Nat} {ret : Option FieldType} {pc index : Nat} {ls : Array Slot} {rest : List Value} {r : Int32} {V1 : Mem} (hS : SF E) (hT : l.stackTraces = false) (hC : Cx p s m args c meth E ow b n ret) (hI : In E ad V s H locs) (hsz : ls.size = n) (hf : f_L_restore V = some (r, V1)) (hl : Cond.methodLink ow index yL_restore ∈ TB) (hR : 7 + 1 ≤ R.frames ∧ 8 + (3 + 11) + 40 * 7 ≤ R.locals) (hcs : cells + 1 ≤ R.cells ∧ slots + 6 ≤ R.slots) (hw : (rest.map fun v => v.category).sum ≤ 8) (hdg : decode b pc = .ok (.invokestatic index, 3)) (kk : ∀ (H1 : Heap) (locs1 : List Loc), In E ad V1 s H1 locs1 → W p l e R s m args below meth c H1 locs1 (cells + 1) (slots + 6) Q (F0 m (pc + 3) ls (.int r :: rest))) : W p l e R s m args below meth c H locs cells slots Q (F0 m pc ls (.ref (ad 265) :: .ref (ad 248) :: rest)) :=
  after_callA hI (runSW_tb (As := [.ref (ad 248), .ref (ad 265)]) (rest := rest) hC hI hsz (m_L_restore l hT E ad V hS r V1 hf) cv_L_restore hl rfl rfl hR hcs hw hdg) kk
