section R097
variable {p : Program} {l : Launch} {e : Env} {R : Room} {s : State} {m : MethodId} {args : Array Value} {below : List Frame} {meth : Method} {c : Code} {H : Heap} {locs : List Loc} {cells slots : Nat} {Q : State → Prop}
variable {E : En} {ad sa : Nat → Nat} {ow : String} {b : ByteArray} {n index : Nat} {ret : Option FieldType} {pc : Nat} {ls : Array Slot} {rest : List Value} {A : Nat → Prop} {ws : va_W}
abbrev fre (b0 sz : Nat) : Nat → Prop := fun q => q = b0 ∨ sz ≤ q
/-- a constructor's start: a blank object -/
def PreI (E : En) (sz b0 ci : Nat) (fs : List Value) (U : State) : Prop := U.heap.size = sz ∧ va_P (eD E) vwCl [(b0, .inr (ci, fs))] U.heap ∧ ours E b0 ∧ va_K (eD E) vwCl (tysOf E) U ∧ eZ E ≤ U.heap.size ∧ eS E U U.heap ∧ StOk E ∧ NWs U
/-- its end: the object's cells, nn of them -/
def QI (E : En) (b0 nn : Nat) (cf : (Nat → Nat) → Nat → va_E) : Array Value → State → Outcome → State → Prop := fun _ st oc t =>
  (oc = .returned none ∧ ∃ ad : Nat → Nat, ad 0 = b0 ∧ va_P (eD E) vwCl (pool nn ad (cf ad)) t.heap ∧ va_D (fre b0 st.heap.size) (pool nn ad (cf ad))) ∧ va_F (fre b0 st.heap.size) st t
def MI (l : Launch) (E : En) (y : MethodName) (b : ByteArray) (n d mc ms sz b0 : Nat) (av : List Value) (ci : Nat) (fs : List Value) (nn : Nat) (cf : (Nat → Nat) → Nat → va_E) : Prop :=
  Met l y (.code y b n none :: TB) (rmx d mc ms) (va_Pc (.ref b0 :: av) (PreI E sz b0 ci fs)) (QI E b0 nn cf) mc ms (fre b0 sz)
theorem preI_blind {sz b0 ci : Nat} {fs : List Value} {av : List Value} : FrameBlind (va_Pc av (PreI E sz b0 ci fs)) := fun a U g mk q => ⟨q.1, q.2.1, q.2.2.1, q.2.2.2.1, va_K.moved (u := U) (U := U.calling g mk a) (Vm.Alike.refl U.vm) q.2.2.2.2.1, q.2.2.2.2.2.1, q.2.2.2.2.2.2.2.1.2.1 U (U.calling g mk a) U.heap rfl q.2.2.2.2.2.2.1, q.2.2.2.2.2.2.2.1, NWs.same (s := U) (U := U.calling g mk a) rfl q.2.2.2.2.2.2.2.2⟩
/-- the fixed part -/
def CI (p : Program) (s : State) (m : MethodId) (args : Array Value) (c : Code) (meth : Method) (E : En) (ow : String) (b : ByteArray) (n : Nat) : Prop := Cx p s m args c meth E ow b n none ∧ meth.name = "<init>"
theorem entI {l : Launch} {y : MethodName} {b : ByteArray} {n d mc ms sz b0 ci : Nat} {fs av : List Value} {Q : Array Value → State → Outcome → State → Prop} (ow : String) (hy : plainName y.cls = true) (how : y.cls = ow) (hin : y.name = "<init>") (hn : (lg_sl (.ref b0 :: av)).length ≤ n)
    (body : ∀ (p : Program) (e : Env) (s : State) (m : MethodId) (below : List Frame) (meth : Method) (c : Code) (ls : Array Slot), CI p s m (Value.ref b0 :: av).toArray c meth E ow b n → (∀ q, fre b0 s.heap.size q → ours E q) → va_P (eD E) vwCl [(b0, .inr (ci, fs))] s.heap → va_D (fre b0 s.heap.size) [(b0, .inr (ci, fs))] → va_S (fre b0 s.heap.size) s.heap s.heap [] → lv_has ls n (lv_args 0 (.ref b0 :: av)) → W p l e (rmx d mc ms) s m (Value.ref b0 :: av).toArray below meth c s.heap [] 0 0 (MQ below Q (Value.ref b0 :: av).toArray s mc ms (fre b0 s.heap.size)) (F0 m 0 ls [])) :
    Met l y (.code y b n none :: TB) (rmx d mc ms) (va_Pc (.ref b0 :: av) (PreI E sz b0 ci fs)) Q mc ms (fre b0 sz) := by
  refine Met.ofW (cc := b) (maxL := n) (ret := none) hy rfl ?_
  intro p e s m args below meth c s₁ B hml hv
  obtain ⟨rfl, rfl, hP, hb0, hK, hz, hs, hok, hnw⟩ := hv
  have hts := atoms_spec (ws := .code y b n none :: TB) B.pre
  have hown : s.vm.findClass y.cls = some m.cls := findClass_of_methodNamed B.named
  have hl := lv_entry (.ref b0 :: av) hn
  rw [lg_entry_eq]
  refine body p e s m below meth c _ ⟨⟨B.exec, B.bytes, hml, by rw [← how]; exact hown, fun w hw => hts w (List.mem_cons_of_mem _ hw), hK, hz, hs, hok, B.returns, B.notSynchronized, hnw⟩, (name_of_methodNamed B.named B.method).1.trans hin⟩ ?_ hP ⟨?_, ?_⟩ va_S.rf hl
  · intro q hq
    rcases hq with rfl | hq
    · exact hb0
    · exact Nat.le_trans hz hq
  · intro i j x y hx hy _
    have h1 : i < 1 := (List.getElem?_eq_some_iff.mp hx).1
    have h2 : j < 1 := (List.getElem?_eq_some_iff.mp hy).1
    omega
  · intro k x hx
    have h1 : k < 1 := (List.getElem?_eq_some_iff.mp hx).1
    obtain rfl : k = 0 := by omega
    cases hx
    exact .inl rfl
theorem i_obj {rest : List Value} {a : Nat} (hC : CI p s m args c meth E ow b n) (hsz : ls.size = n) (hl : Cond.methodLink ow index Lib.objectInit ∈ TB) (hR : 1 ≤ R.frames ∧ (rest.map fun v => v.category).sum + 13 ≤ R.locals) (hdg : decode b pc = .ok (.invokespecial index, 3)) (kk : W p l e R s m args below meth c H locs cells slots Q (F0 m (pc + 3) ls rest)) : W p l e R s m args below meth c H locs cells slots Q (F0 m pc ls (.ref a :: rest)) :=
  W.objInit hC.1.1 hC.1.2.1 hC.1.2.2.2.1 (hC.1.2.2.2.2.1 _ hl) (hC.1.2.2.2.2.1 _ tw_1_40) (hC.1.2.2.2.2.1 _ tw_1_41) rfl (hsz.trans hC.1.2.2.1.symm) rfl hdg hR.1 (by show 2 * 0 + _ + 12 ≤ _; omega) kk
/-- the world behind a constructor's call -/
theorem i_join {A : Nat → Prop} {q nn : Nat} {e0 : va_E} {cf : (Nat → Nat) → Nat → va_E} {ad' : Nat → Nat} {H1 : Heap} (hP : va_P (eD E) vwCl (ws ++ [(q, e0)]) H) (hD : va_D A (ws ++ [(q, e0)])) (hz : ∀ x, H.size ≤ x → A x) (hF : H.size ≤ H1.size ∧ ∀ x : Nat, x < H.size → ¬ fre q H.size x → H1[x]? = H[x]?) (hP1 : va_P (eD E) vwCl (pool nn ad' (cf ad')) H1) (hD1 : va_D (fre q H.size) (pool nn ad' (cf ad'))) :
    va_P (eD E) vwCl (ws ++ pool nn ad' (cf ad')) H1 ∧ va_D A (ws ++ pool nn ad' (cf ad')) := by
  have hq : (ws ++ [(q, e0)])[ws.length]? = some (q, e0) := by rw [List.getElem?_append_right (Nat.le_refl _)]; simp
  have hold : ∀ (k : Nat) (x : Nat × va_E), ws[k]? = some x → (ws ++ [(q, e0)])[k]? = some x ∧ k < ws.length := fun k x hx => by
    have hk := (List.getElem?_eq_some_iff.mp hx).1
    exact ⟨by rw [List.getElem?_append_left hk]; exact hx, hk⟩
  have hne : ∀ (k : Nat) (x : Nat × va_E), ws[k]? = some x → x.1 < H.size ∧ x.1 ≠ q := fun k x hx => by
    obtain ⟨h1, h2⟩ := hold k x hx
    refine ⟨(hP k x h1).lt, fun e => ?_⟩
    have := hD.1 k ws.length x (q, e0) h1 hq e
    omega
  have hws : va_P (eD E) vwCl ws H := fun k x hx => hP k x (hold k x hx).1
  have hws1 : va_P (eD E) vwCl ws H1 := hws.kept (fun k x hx => hF.2 x.1 (hne k x hx).1 (fun h => by
    rcases h with h | h
    · exact (hne k x hx).2 h
    · exact absurd (hne k x hx).1 (Nat.not_lt.mpr h)))
  refine ⟨fun k x hx => ?_, fun i j x y hx hy hxy => ?_, fun k x hx => ?_⟩
  · by_cases h : k < ws.length
    · rw [List.getElem?_append_left h] at hx; exact hws1 k x hx
    · rw [List.getElem?_append_right (Nat.not_lt.mp h)] at hx; exact hP1 _ x hx
  · have hpn : ∀ (k : Nat) (x : Nat × va_E), (pool nn ad' (cf ad'))[k]? = some x → x.1 = q ∨ H.size ≤ x.1 := fun k x hx => hD1.2 k x hx
    by_cases h1 : i < ws.length <;> by_cases h2 : j < ws.length
    · rw [List.getElem?_append_left h1] at hx
      rw [List.getElem?_append_left h2] at hy
      exact hD.1 i j x y (hold i x hx).1 (hold j y hy).1 hxy
    · rw [List.getElem?_append_left h1] at hx
      rw [List.getElem?_append_right (Nat.not_lt.mp h2)] at hy
      have a1 := hne i x hx
      rcases hpn _ y hy with h | h
      · exact absurd (hxy.trans h) a1.2
      · rw [← hxy] at h; exact absurd a1.1 (Nat.not_lt.mpr h)
    · rw [List.getElem?_append_left h2] at hy
      rw [List.getElem?_append_right (Nat.not_lt.mp h1)] at hx
      have a1 := hne j y hy
      rcases hpn _ x hx with h | h
      · exact absurd (hxy.symm.trans h) a1.2
      · rw [hxy] at h; exact absurd a1.1 (Nat.not_lt.mpr h)
    · rw [List.getElem?_append_right (Nat.not_lt.mp h1)] at hx
      rw [List.getElem?_append_right (Nat.not_lt.mp h2)] at hy
      have := hD1.1 _ _ x y hx hy hxy
      omega
  · by_cases h : k < ws.length
    · rw [List.getElem?_append_left h] at hx; exact hD.2 k x (hold k x hx).1
    · rw [List.getElem?_append_right (Nat.not_lt.mp h)] at hx
      rcases hD1.2 _ x hx with h | h
      · rw [h]; exact hD.2 _ _ hq
      · exact hz _ h
def CalI (y : MethodName) (bytes : ByteArray) (n : Nat) (na : Nat) : Prop := CalY y bytes n none na ∧ y.name = "<init>" ∧ Cond.instanceMethod y ∈ TB
theorem i_pre {A : Nat → Prop} {q ci : Nat} {fs0 : List Value} {ret : Option FieldType} (hC : Cx p s m args c meth E ow b n ret) (hsub : ∀ q, A q → ours E q) (hP : va_P (eD E) vwCl (ws ++ [(q, .inr (ci, fs0))]) H) (hD : va_D A (ws ++ [(q, .inr (ci, fs0))])) (hS : va_S A s.heap H locs) (U : State) (hU : U.heap = H) (hW : s.WarmedH U.vm) : PreI E H.size q ci fs0 U := by
  have hqw : (ws ++ [(q, (.inr (ci, fs0) : va_E))])[ws.length]? = some (q, .inr (ci, fs0)) := by rw [List.getElem?_append_right (Nat.le_refl _)]; simp
  obtain ⟨-, -, -, -, -, hK, hz, hs, hok, -, -, hnw⟩ := hC
  refine ⟨by rw [hU], fun k x hx => ?_, hsub q (hD.2 _ _ hqw), va_K.moved hW.alike hK, ?_, ?_, hok, hnw.warm hW⟩
  · have h1 : k < 1 := (List.getElem?_eq_some_iff.mp hx).1
    obtain rfl : k = 0 := by omega
    cases hx
    rw [hU]
    exact hP _ _ hqw
  · rw [hU]; exact Nat.le_trans hz hS.1
  · rw [hU]; exact hok.1 s U H hW (hok.2.2 s s.heap H hs (fun a h1 h2 => hS.2.1 a h1 (fun h => h2 (hsub a h))))
theorem i_after {A : Nat → Prop} {q nn mc ms ci : Nat} {fs0 : List Value} {cf : (Nat → Nat) → Nat → va_E} {a : Array Value} {st : List Value} (hsub : ∀ q, A q → ours E q) (hP : va_P (eD E) vwCl (ws ++ [(q, .inr (ci, fs0))]) H) (hD : va_D A (ws ++ [(q, .inr (ci, fs0))])) (hS : va_S A s.heap H locs) (hz : ∀ x, s.heap.size ≤ x → A x)
    (hr : va_Run p l e R s m args below meth c H locs cells slots mc ms (F0 m pc ls st) rest (QI E q nn cf a) (fre q H.size))
    (kk : ∀ (ad' : Nat → Nat) (H1 : Heap) (locs1 : List Loc), ad' 0 = q → va_P (eD E) vwCl (ws ++ pool nn ad' (cf ad')) H1 → va_D A (ws ++ pool nn ad' (cf ad')) → va_S A s.heap H1 locs1 → W p l e R s m args below meth c H1 locs1 (cells + mc) (slots + ms) Q (F0 m (pc + 3) ls rest)) : W p l e R s m args below meth c H locs cells slots Q (F0 m pc ls st) := by
  intro T hT X
  obtain ⟨w, st₀, t, T', L, h0, X', hL, e1, e2, ⟨⟨hv, ad', ha, hP1, hD1⟩, hF⟩, st⟩ := hr T hT X
  cases hv
  obtain ⟨hz1, hk⟩ := hF
  rw [h0] at hz1 hk hD1
  have hzH : ∀ x, H.size ≤ x → A x := fun x hx => hz x (Nat.le_trans hS.1 hx)
  obtain ⟨j1, j2⟩ := i_join hP hD hzH ⟨hz1, hk⟩ hP1 hD1
  have hq : A q := hD.2 ws.length (q, .inr (ci, fs0)) (by rw [List.getElem?_append_right (Nat.le_refl _)]; simp)
  have hS1 : va_S A s.heap T'.heap (locs ++ L) := by
    refine ⟨Nat.le_trans hS.1 (by rw [e1]; exact hz1), fun x h1 h2 => ?_, fun z hz' => ?_⟩
    · rw [e1, hk x (Nat.lt_of_lt_of_le h1 hS.1) (fun h => by
        rcases h with h | h
        · exact h2 (h ▸ hq)
        · exact h2 (hzH x h))]
      exact hS.2.1 x h1 h2
    · rcases List.mem_append.mp hz' with h | h
      · exact hS.2.2 z h
      · rcases hL z h with h | h
        · exact h ▸ hq
        · exact hzH _ h
  obtain ⟨t2, a1, b1⟩ := kk ad' T'.heap (locs ++ L) ha (by rw [e1]; exact j1) j2 hS1 T' rfl X'
  exact ⟨t2, st t2 a1, b1⟩
theorem callN_tb {y : MethodName} {bytes : ByteArray} {n1 na index mc ms : Nat} {host : String} {ret1 : Option FieldType} {rm : Room} (hC : Cx p s m args c meth E ow b n ret) (hy : CalY y bytes n1 ret1 na) (hl : Cond.methodLinkNest ow index y host ∈ NB) (hrc : rm.cells = mc) (hrs : rm.slots = ms) (hR : rm.frames + 1 ≤ R.frames ∧ 8 + (n1 + 11) + rm.locals ≤ R.locals) :
    va_CN R s args ow index y host bytes n1 ret1 (.code y bytes n1 ret1 :: TB) rm mc ms na := by
  have ht := hC.2.2.2.2.1
  obtain ⟨h1, h2, h3, h4⟩ := hy
  refine ⟨⟨hrc, hrs, hR.1, hR.2, fun w hw a' U hW => ?_, List.mem_cons_self⟩, ht _ h3, ht _ h2, h1, fun sig h => ?_, va_Nw.use rfl (hC.2.2.2.2.2.2.2.2.2.2.2 _ hl)⟩
  · rcases List.mem_cons.mp hw with rfl | hw
    · exact word_at hW (tb_good _ h3) (ht _ h3)
    · exact word_at hW (tb_good _ hw) (ht _ hw)
  · rw [h] at h4
    exact (Option.some.inj h4).symm
theorem i_ctor {A : Nat → Prop} {q nn mc ms ci d1 n1 na : Nat} {y : MethodName} {bytes : ByteArray} {As st : List Value} {fs0 : List Value} {cf : (Nat → Nat) → Nat → va_E} (hC : CI p s m args c meth E ow b n) (hsub : ∀ q, A q → ours E q) (hP : va_P (eD E) vwCl (ws ++ [(q, .inr (ci, fs0))]) H) (hD : va_D A (ws ++ [(q, .inr (ci, fs0))])) (hS : va_S A s.heap H locs) (hz : ∀ x, s.heap.size ≤ x → A x) (hsz : ls.size = n)
    (hM : MI l E y bytes n1 d1 mc ms H.size q As ci fs0 nn cf) (hy : CalI y bytes n1 na) (hl : Cond.methodLink ow index y ∈ TB) (hn : As.length = na) (hst : st = As.reverse ++ .ref q :: rest) (hR : d1 + 1 ≤ R.frames ∧ 8 + (n1 + 11) + 40 * d1 ≤ R.locals) (hcs : cells + mc ≤ R.cells ∧ slots + ms ≤ R.slots) (hw : (rest.map fun v => v.category).sum ≤ 8) (hdg : decode b pc = .ok (.invokespecial index, 3))
    (kk : ∀ (ad' : Nat → Nat) (H1 : Heap) (locs1 : List Loc), ad' 0 = q → va_P (eD E) vwCl (ws ++ pool nn ad' (cf ad')) H1 → va_D A (ws ++ pool nn ad' (cf ad')) → va_S A s.heap H1 locs1 → W p l e R s m args below meth c H1 locs1 (cells + mc) (slots + ms) Q (F0 m (pc + 3) ls rest)) : W p l e R s m args below meth c H locs cells slots Q (F0 m pc ls st) := by
  have ht := hC.1.2.2.2.2.1
  have hqw : (ws ++ [(q, (.inr (ci, fs0) : va_E))])[ws.length]? = some (q, .inr (ci, fs0)) := by rw [List.getElem?_append_right (Nat.le_refl _)]; simp
  refine i_after hsub hP hD hS hz (va_runI (Ts := TB) (As := As) (rest := rest) ⟨hC.1.1, hC.1.2.1, hC.1.2.2.1, hC.1.2.2.2.1, ht⟩ hM ⟨callB_tb (na := na) hC.1 hy.1 hl rfl rfl hR, hy.2.1, ht _ hy.2.2⟩ ⟨preI_blind, fun U hU hW => ⟨rfl, ?_⟩⟩ rfl hn hsz hst (lv_room (rest := st) (ls := ls) (pc := pc) (m := m) hw) hdg hcs) kk
  exact i_pre hC.1 hsub hP hD hS U hU hW
theorem i_ctorN {host : String} {A : Nat → Prop} {q nn mc ms ci d1 n1 na : Nat} {y : MethodName} {bytes : ByteArray} {As st : List Value} {fs0 : List Value} {cf : (Nat → Nat) → Nat → va_E} (hC : CI p s m args c meth E ow b n) (hsub : ∀ q, A q → ours E q) (hP : va_P (eD E) vwCl (ws ++ [(q, .inr (ci, fs0))]) H) (hD : va_D A (ws ++ [(q, .inr (ci, fs0))])) (hS : va_S A s.heap H locs) (hz : ∀ x, s.heap.size ≤ x → A x) (hsz : ls.size = n)
    (hM : MI l E y bytes n1 d1 mc ms H.size q As ci fs0 nn cf) (hy : CalI y bytes n1 na) (hl : Cond.methodLinkNest ow index y host ∈ NB) (hn : As.length = na) (hst : st = As.reverse ++ .ref q :: rest) (hR : d1 + 1 ≤ R.frames ∧ 8 + (n1 + 11) + 40 * d1 ≤ R.locals) (hcs : cells + mc ≤ R.cells ∧ slots + ms ≤ R.slots) (hw : (rest.map fun v => v.category).sum ≤ 8) (hdg : decode b pc = .ok (.invokespecial index, 3))
    (kk : ∀ (ad' : Nat → Nat) (H1 : Heap) (locs1 : List Loc), ad' 0 = q → va_P (eD E) vwCl (ws ++ pool nn ad' (cf ad')) H1 → va_D A (ws ++ pool nn ad' (cf ad')) → va_S A s.heap H1 locs1 → W p l e R s m args below meth c H1 locs1 (cells + mc) (slots + ms) Q (F0 m (pc + 3) ls rest)) : W p l e R s m args below meth c H locs cells slots Q (F0 m pc ls st) := by
  have ht := hC.1.2.2.2.2.1
  have hqw : (ws ++ [(q, (.inr (ci, fs0) : va_E))])[ws.length]? = some (q, .inr (ci, fs0)) := by rw [List.getElem?_append_right (Nat.le_refl _)]; simp
  refine i_after hsub hP hD hS hz (va_runIN (host := host) (Ts := TB) (As := As) (rest := rest) ⟨hC.1.1, hC.1.2.1, hC.1.2.2.1, hC.1.2.2.2.1, ht⟩ hM ⟨callN_tb (na := na) hC.1 hy.1 hl rfl rfl hR, hy.2.1, ht _ hy.2.2⟩ ⟨preI_blind, fun U hU hW => ⟨rfl, ?_⟩⟩ rfl hn hsz hst (lv_room (rest := st) (ls := ls) (pc := pc) (m := m) hw) hdg hcs) kk
  exact i_pre hC.1 hsub hP hD hS U hU hW
end R097
