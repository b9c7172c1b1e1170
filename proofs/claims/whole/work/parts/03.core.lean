/-! THE CORE: the memory of the whole run as numbers by cell and place; worlds; contracts; rows over them -/
abbrev Mem : Type := Nat → Nat → Int32
/-- the environment: class numbers, array classes, the constants' addresses (Kind, Refusal), the first address that is ours, what is known of statics -/
abbrev En : Type := va_G × (Nat → ClassId) × (Nat → Nat → Nat) × Nat × (State → Heap → Prop) × ((Nat → Nat) → Prop)
def eD (E : En) : va_G := E.1
def eC (E : En) : Nat → ClassId := E.2.1
/-- addresses of what is there from the start: 0 the constants of Kind, 1 those of Refusal, 2 static arrays, 3 text constants, 4 their bytes -/
def eA (E : En) : Nat → Nat → Nat := E.2.2.1
def eK (E : En) : Nat → Nat := eA E 0
def eR (E : En) : Nat → Nat := eA E 1
def eZ (E : En) : Nat := E.2.2.2.1
def eS (E : En) : State → Heap → Prop := E.2.2.2.2.1
/-- where the texts' bytes may lie -/
def eT (E : En) : (Nat → Nat) → Prop := E.2.2.2.2.2
def ours (E : En) : Nat → Prop := fun q => eZ E ≤ q
def tysOf (E : En) : List (ClassId × FieldType) := [(eC E 0, .int), (eC E 1, .byte), (eC E 2, .char), (eC E 3, .long), (eC E 4, .object "LetterRepository$Store"), (eC E 5, .object "LetterRepository$Command")]
/-- what is known of statics stays when what isn't ours stays -/
def StOk (E : En) : Prop := (∀ u U H, u.WarmedH U.vm → eS E u H → eS E U H) ∧ (∀ u U H, U.vm = u.vm → eS E u H → eS E U H) ∧ ∀ U H H1, eS E U H → (∀ a : Nat, a < H.size → ¬ ours E a → H1[a]? = H[a]?) → eS E U H1
/-! cells by number -/
def pool (N : Nat) (ad : Nat → Nat) (g : Nat → va_E) : va_W := (List.range N).map (fun i => (ad i, g i))
theorem pool_get {N : Nat} {ad : Nat → Nat} {g : Nat → va_E} {i : Nat} (h : i < N) : (pool N ad g)[i]? = some (ad i, g i) := by
  simp [pool, h]
theorem pool_none {N : Nat} {ad : Nat → Nat} {g : Nat → va_E} {i : Nat} (h : ¬ i < N) : (pool N ad g)[i]? = none := List.getElem?_eq_none (by simp [pool]; omega)
theorem pool_set {N : Nat} {ad : Nat → Nat} {g : Nat → va_E} {i : Nat} {e : va_E} : (pool N ad g).set i (ad i, e) = pool N ad (va_up g i e) := by
  apply List.ext_getElem?
  intro j
  rw [List.getElem?_set]
  by_cases h : j < N
  · rw [pool_get h, pool_get h]
    by_cases hj : i = j
    · subst hj
      rw [if_pos rfl, if_pos (by simpa [pool] using h)]
      simp [va_up]
    · rw [if_neg hj]
      simp [va_up, Ne.symm hj]
  · rw [pool_none h, pool_none h]
    by_cases hj : i = j
    · subst hj
      rw [if_pos rfl, if_neg (by simpa [pool] using h)]
    · rw [if_neg hj]
def rowLen (t : Nat) : Nat := if t < 5 then 24 else if t = 5 then 192 else if t = 6 then 5 else if t = 7 then 40 else 26
/-- a store's cells: the store, its revisions, its nine rows with their arrays -/
def stCell (E : En) (ad : Nat → Nat) (b j : Nat) (v : Nat → Int32) : va_E :=
  if j = 0 then .inr (9, [.ref (ad (b + 1)), .ref (ad (b + 14)), .ref (ad (b + 16)), .ref (ad (b + 18)), .int (v 0)])
  else if j = 1 then .inr (7, [.ref (ad (b + 2)), .ref (ad (b + 4)), .ref (ad (b + 6)), .ref (ad (b + 8)), .ref (ad (b + 10)), .ref (ad (b + 12)), .int (v 0), .int (v 1)])
  else if j % 2 = 0 then .inr (8, [.ref (ad (b + j + 1))])
  else .inl (eC E 0, rowLen ((j - 3) / 2), .inl v)
/-- a command's cells: the command, its row, the row's array -/
def cmCell (E : En) (ad : Nat → Nat) (b j : Nat) (v : Nat → Int32) : va_E :=
  if j = 0 then .inr (4, [.ref (ad (b + 1)), .ref (eK E (v 1).toNatClampNeg), .int (v 0)])
  else if j = 1 then .inr (8, [.ref (ad (b + 2))])
  else .inl (eC E 0, 3, .inl v)
/-- the cells behind the stores and the commands -/
def loCell (E : En) (ad : Nat → Nat) (i : Nat) (v : Nat → Int32) : va_E :=
  match i with
  | 0 => .inr (5, [.ref (ad 221), .int (v 0), .int (v 1)])
  | 1 => .inl (eC E 4, 9, .inr (.inr (.inr (.inr (fun j => some (ad (20 * (j + 2))))))))
  | 2 => .inr (6, [.ref (ad 223), .int (v 0), .int (v 1), .int (v 2)])
  | 3 => .inl (eC E 5, 8, .inr (.inr (.inr (.inr (fun j => some (ad (224 + 3 * j)))))))
  | 28 => .inr (10, [.ref (ad 0), .ref (ad 20), .ref (ad 220), .ref (ad 222), .ref (ad 249), .ref (ad 251), .int (v 0), .int (v 1), .int (v 2)])
  | 29 => .inr (1, [.ref (ad 250), .int 0, .int (v 0), .int (v 1)])
  | 30 => .inl (eC E 1, (v 0).toNatClampNeg, .inl (fun j => v (j + 1)))
  | 31 => .inr (1, [.ref (ad 252), .int 0, .int (v 0), .int (v 1)])
  | 32 => .inl (eC E 1, (v 0).toNatClampNeg, .inl (fun j => v (j + 1)))
  | 33 => .inr (11, [.ref (ad 254), .ref (ad 255), .ref (ad 256), .int (v 0), .ref (ad 257), .int (v 1), .int (v 2), .int (v 3), .int (v 4), .ref (ad 258), .int (v 5), .ref (ad 259), .ref (ad 260), .ref (ad 261), .int (v 6), .ref (ad 262), .ref (ad 263), .ref (ad 264), .int (v 7), .int (v 8), .int (v 9), .int (v 10)])
  | 34 => .inl (eC E 0, 361, .inl v)
  | 35 => .inl (eC E 0, 361, .inl v)
  | 36 => .inl (eC E 0, 361, .inl v)
  | 37 => .inl (eC E 0, 2888, .inl v)
  | 38 => .inl (eC E 0, 60, .inl v)
  | 39 => .inl (eC E 0, 24, .inl v)
  | 40 => .inl (eC E 0, 24, .inl v)
  | 41 => .inl (eC E 0, 40, .inl v)
  | 42 => .inl (eC E 2, 78, .inl v)
  | 43 => .inl (eC E 0, 14, .inl v)
  | 44 => .inl (eC E 0, 244, .inl v)
  | _ => .inl (eC E 3, 1, .inr (.inl (fun j => (v j).toInt64)))
def cell (E : En) (ad : Nat → Nat) (i : Nat) (v : Nat → Int32) : va_E :=
  if i < 220 then stCell E ad (i - i % 20) (i % 20) v
  else if 224 ≤ i ∧ i < 248 then cmCell E ad (i - (i - 224) % 3) ((i - 224) % 3) v
  else loCell E ad (i - 220) v
/-- the addresses: those of the two texts' bytes move, all others stay -/
def adx (ad sa : Nat → Nat) (i : Nat) : Nat := if i = 250 then sa 0 else if i = 252 then sa 1 else ad i
abbrev okc (i : Nat) : Prop := i < 266 ∧ i ≠ 250 ∧ i ≠ 252
theorem adx_ok {ad sa : Nat → Nat} {i : Nat} (h : okc i) : adx ad sa i = ad i := by
  unfold adx
  rw [if_neg h.2.1, if_neg h.2.2]
def world (E : En) (ad sa : Nat → Nat) (V : Mem) : va_W := pool 266 (adx ad sa) (fun i => cell E (adx ad sa) i (V i))
/-- memory with one number changed -/
def stv (V : Mem) (i j : Nat) (x : Int32) : Mem := va_up V i (upd (V i) j x)
theorem world_get {E : En} {ad sa : Nat → Nat} {V : Mem} {i : Nat} (h : okc i) : (world E ad sa V)[i]? = some (ad i, cell E (adx ad sa) i (V i)) := by
  rw [← adx_ok (ad := ad) (sa := sa) h]
  exact pool_get h.1
theorem world_set {E : En} {ad sa : Nat → Nat} {V : Mem} {i : Nat} {v : Nat → Int32} (h : okc i) : (world E ad sa V).set i (ad i, cell E (adx ad sa) i v) = world E ad sa (va_up V i v) := by
  unfold world
  rw [← adx_ok (ad := ad) (sa := sa) h, pool_set]
  congr 1
  funext j
  by_cases h : j = i
  · subst h; simp [va_up]
  · simp [va_up, h]
def Hs (E : En) (ad sa : Nat → Nat) (V : Mem) (H : Heap) : Prop := va_P (eD E) vwCl (world E ad sa V) H ∧ va_D (ours E) (world E ad sa V) ∧ eT E sa
def Hd (E : En) (ad : Nat → Nat) (V : Mem) (H : Heap) : Prop := ∃ sa : Nat → Nat, Hs E ad sa V H
def Pre (E : En) (ad : Nat → Nat) (V : Mem) (U : State) : Prop := Hd E ad V U.heap ∧ va_K (eD E) vwCl (tysOf E) U ∧ eZ E ≤ U.heap.size ∧ eS E U U.heap ∧ StOk E ∧ NWs U
theorem pre_blind {E : En} {ad : Nat → Nat} {V : Mem} {av : List Value} : FrameBlind (va_Pc av (Pre E ad V)) := fun a U g mk q => ⟨q.1, q.2.1, va_K.moved (u := U) (U := U.calling g mk a) (Vm.Alike.refl U.vm) q.2.2.1, q.2.2.2.1, q.2.2.2.2.2.1.2.1 U (U.calling g mk a) U.heap rfl q.2.2.2.2.1, q.2.2.2.2.2.1, NWs.same (s := U) (U := U.calling g mk a) rfl q.2.2.2.2.2.2⟩
def QR (E : En) (ad : Nat → Nat) (r : Option Value) (V' : Mem) : Array Value → State → Outcome → State → Prop := fun _ st oc t => (oc = .returned r ∧ Hd E ad V' t.heap) ∧ va_F (ours E) st t
abbrev rmd (d : Nat) : Room := { frames := d, cells := 0, slots := 0, locals := 40 * d }
/-- a contract: at these arguments and this memory the method answers r and leaves the memory V' -/
def MR (l : Launch) (E : En) (ad : Nat → Nat) (y : MethodName) (b : ByteArray) (n : Nat) (ret : Option FieldType) (d : Nat) (av : List Value) (V : Mem) (r : Option Value) (V' : Mem) : Prop :=
  Met l y (.code y b n ret :: TB) (rmd d) (va_Pc av (Pre E ad V)) (QR E ad r V') 0 0 (ours E)
/-- the fixed part of a walk -/
def Cx (p : Program) (s : State) (m : MethodId) (args : Array Value) (c : Code) (meth : Method) (E : En) (ow : String) (b : ByteArray) (n : Nat) (ret : Option FieldType) : Prop :=
  p.tables.exec = Jvm.exec ∧ c.code = b ∧ c.maxLocals = n ∧ s.vm.findClass ow = some m.cls ∧ (∀ w ∈ TB, w.before args s = true) ∧ va_K (eD E) vwCl (tysOf E) s ∧ eZ E ≤ s.heap.size ∧ eS E s s.heap ∧ StOk E ∧ meth.sig.returnType = ret ∧ meth.locks = false ∧ NWs s
/-- the moving part -/
def In (E : En) (ad : Nat → Nat) (V : Mem) (s : State) (H : Heap) (locs : List Loc) : Prop := Hd E ad V H ∧ va_S (ours E) s.heap H locs
theorem In.pre {E : En} {ad : Nat → Nat} {V : Mem} {p : Program} {s : State} {m : MethodId} {args : Array Value} {c : Code} {meth : Method} {ow : String} {b : ByteArray} {n : Nat} {ret : Option FieldType} {H : Heap} {locs : List Loc} (hC : Cx p s m args c meth E ow b n ret) (hI : In E ad V s H locs) : ∀ U : State, U.heap = H → s.WarmedH U.vm → Pre E ad V U := by
  obtain ⟨-, -, -, -, -, hK, hz, hs, hok, -, -, hnw⟩ := hC
  obtain ⟨hd, hS⟩ := hI
  intro U hU hW
  refine ⟨by rw [hU]; exact hd, va_K.moved hW.alike hK, ?_, ?_, hok, hnw.warm hW⟩
  · rw [hU]; exact Nat.le_trans hz hS.1
  · rw [hU]; exact hok.1 s U H hW (hok.2.2 s s.heap H hs (fun a h1 h2 => hS.2.1 a h1 h2))
theorem ent {l : Launch} {E : En} {ad : Nat → Nat} {y : MethodName} {b : ByteArray} {n : Nat} {ret : Option FieldType} {d : Nat} {av : List Value} {V : Mem} {Q : Array Value → State → Outcome → State → Prop} (ow : String) (hy : plainName y.cls = true) (how : y.cls = ow) (hn : (lg_sl av).length ≤ n)
    (body : ∀ (p : Program) (e : Env) (s : State) (m : MethodId) (below : List Frame) (meth : Method) (c : Code) (ls : Array Slot), Cx p s m av.toArray c meth E ow b n ret → In E ad V s s.heap [] → lv_has ls n (lv_args 0 av) → W p l e (rmd d) s m av.toArray below meth c s.heap [] 0 0 (MQ below Q av.toArray s 0 0 (ours E)) (F0 m 0 ls [])) :
    Met l y (.code y b n ret :: TB) (rmd d) (va_Pc av (Pre E ad V)) Q 0 0 (ours E) := by
  refine Met.ofW (cc := b) (maxL := n) (ret := ret) hy rfl ?_
  intro p e s m args below meth c s₁ B hml hv
  obtain ⟨rfl, hd, hK, hz, hs, hok, hnw⟩ := hv
  have hts := atoms_spec (ws := .code y b n ret :: TB) B.pre
  have hown : s.vm.findClass y.cls = some m.cls := findClass_of_methodNamed B.named
  have hl := lv_entry av hn
  rw [lg_entry_eq]
  exact body p e s m below meth c _ ⟨B.exec, B.bytes, hml, by rw [← how]; exact hown, fun w hw => hts w (List.mem_cons_of_mem _ hw), hK, hz, hs, hok, B.returns, B.notSynchronized, hnw⟩ ⟨hd, va_S.rf⟩ hl
section CORE
variable {p : Program} {l : Launch} {e : Env} {R : Room} {s : State} {m : MethodId} {args : Array Value} {below : List Frame} {meth : Method} {c : Code} {H : Heap} {locs : List Loc} {cells slots : Nat} {Q : State → Prop}
variable {E : En} {ad : Nat → Nat} {V : Mem} {ow : String} {b : ByteArray} {n : Nat} {ret : Option FieldType} {pc : Nat} {ls : Array Slot} {rest : List Value}
/-! the ends -/
theorem r_iret {x : Int32} (hC : Cx p s m args c meth E ow b n (some .int)) (hI : In E ad V s H locs) (hd : decode b pc = .ok (.ireturn, 1)) : W p l e R s m args below meth c H locs cells slots (MQ below (QR E ad (some (.int x)) V) args s cells slots (ours E)) (F0 m pc ls [.int x]) :=
  W.iret hC.1 hC.2.1 hC.2.2.2.2.2.2.2.2.2.1 (fun t ht _ => ⟨⟨rfl, by rw [ht]; exact hI.1⟩, hI.2.F ht⟩) hI.2.2.2 hd hC.2.2.2.2.2.2.2.2.2.2.1
theorem r_zret {x : Int32} {ty : FieldType} (hC : Cx p s m args c meth E ow b n (some ty)) (hI : In E ad V s H locs) (hx : narrow ty (.int x) = .int x) (hd : decode b pc = .ok (.ireturn, 1)) : W p l e R s m args below meth c H locs cells slots (MQ below (QR E ad (some (.int x)) V) args s cells slots (ours E)) (F0 m pc ls [.int x]) :=
  W.zret hC.1 hC.2.1 hC.2.2.2.2.2.2.2.2.2.1 hx (fun t ht _ => ⟨⟨rfl, by rw [ht]; exact hI.1⟩, hI.2.F ht⟩) hI.2.2.2 hd hC.2.2.2.2.2.2.2.2.2.2.1
theorem r_vret (hC : Cx p s m args c meth E ow b n none) (hI : In E ad V s H locs) (hd : decode b pc = .ok (.return_, 1)) : W p l e R s m args below meth c H locs cells slots (MQ below (QR E ad none V) args s cells slots (ours E)) (F0 m pc ls []) :=
  W.vret hC.1 hC.2.1 hC.2.2.2.2.2.2.2.2.2.1 (fun t ht _ => ⟨⟨rfl, by rw [ht]; exact hI.1⟩, hI.2.F ht⟩) hI.2.2.2 hd hC.2.2.2.2.2.2.2.2.2.2.1
/-! fields -/
theorem r_get (hC : Cx p s m args c meth E ow b n ret) (hI : In E ad V s H locs) {i ci N index : Nat} {C ref : String} {T : u_T} {fs : List Value} {v : Value} (hi : okc i) (he : ∀ sa, cell E (adx ad sa) i (V i) = .inr (ci, fs)) (hc : vwCl[ci]? = some (C, T, N)) (hin : ∀ w ∈ u_ws C T N, w ∈ TB) (k : Nat) (hk : k < N) (hlink : Cond.fieldLink ow index ref (T k).2.1 (T k).2.2.1 ∈ TB) (href : (T k).1 = ref) (hv : fs[k]? = some v) (hdg : decode b pc = .ok (.getfield index, 3))
    (kk : W p l e R s m args below meth c H locs cells slots Q (F0 m (pc + 3) ls (v :: rest))) : W p l e R s m args below meth c H locs cells slots Q (F0 m pc ls (.ref (ad i) :: rest)) := by
  obtain ⟨⟨sa, hP, hD, hA⟩, hS⟩ := hI
  exact va_get hC.1 hC.2.1 hC.2.2.2.2.1 hin hC.2.2.2.1 hC.2.2.2.2.2.1 hP i ((world_get hi).trans (by rw [he])) hc k hk (hC.2.2.2.2.1 _ hlink) (by subst href; exact fun _ h => h) hv hdg kk
theorem r_put (hC : Cx p s m args c meth E ow b n ret) (hI : In E ad V s H locs) {i ci N index : Nat} {C ref : String} {T : u_T} {fs : List Value} {v : Nat → Int32} {x : Value} {ty : FieldType} (ty0 : Nat → FieldType) (hty : ∀ k, k < N → parseFieldDescriptor (T k).2.2.1 = some (ty0 k)) (hnm : ∀ a, a < N → ∀ b, b < N → a ≠ b → (T a).2.1 ≠ (T b).2.1) (hi : okc i) (he : ∀ sa, cell E (adx ad sa) i (V i) = .inr (ci, fs)) (hc : vwCl[ci]? = some (C, T, N)) (hin : ∀ w ∈ u_ws C T N, w ∈ TB) (k : Nat) (hk : k < N) (hlink : Cond.fieldLink ow index ref (T k).2.1 (T k).2.2.1 ∈ TB) (href : (T k).1 = ref) (hfin : (T k).2.2.2 = false) (hd : parseFieldDescriptor (T k).2.2.1 = some ty) (hn : narrow ty x = x) (hfit : fits ty x = true) (hl : k < fs.length) (hs : ∀ sa, cell E (adx ad sa) i v = .inr (ci, fs.set k x)) (hdg : decode b pc = .ok (.putfield index, 3))
    (kk : ∀ (H1 : Heap) (locs1 : List Loc), In E ad (va_up V i v) s H1 locs1 → W p l e R s m args below meth c H1 locs1 cells slots Q (F0 m (pc + 3) ls rest)) : W p l e R s m args below meth c H locs cells slots Q (F0 m pc ls (x :: .ref (ad i) :: rest)) := by
  obtain ⟨⟨sa, hP, hD, hA⟩, hS⟩ := hI
  exact va_put hC.1 hC.2.1 hC.2.2.2.2.1 hin ty0 hty hnm hC.2.2.2.1 hC.2.2.2.2.2.1 hP hD hS i ((world_get hi).trans (by rw [he])) hc k hk (hC.2.2.2.2.1 _ hlink) (by subst href; exact fun _ h => h) hfin hd hn hfit hl hdg (fun H1 locs1 hP hD hS => kk H1 locs1 ⟨⟨sa, by rw [← hs sa, world_set hi] at hP; exact hP, by rw [← hs sa, world_set hi] at hD; exact hD, hA⟩, hS⟩)
theorem r_getN (hC : Cx p s m args c meth E ow b n ret) (hI : In E ad V s H locs) {i ci N index : Nat} {C ref host : String} {T : u_T} {fs : List Value} {v : Value} (hi : okc i) (he : ∀ sa, cell E (adx ad sa) i (V i) = .inr (ci, fs)) (hc : vwCl[ci]? = some (C, T, N)) (hin : ∀ w ∈ u_ws C T N, w ∈ TB) (k : Nat) (hk : k < N) (hlink : Cond.fieldLinkNest ow index ref (T k).2.1 (T k).2.2.1 host ∈ NB) (href : (T k).1 = ref) (hv : fs[k]? = some v) (hdg : decode b pc = .ok (.getfield index, 3))
    (kk : W p l e R s m args below meth c H locs cells slots Q (F0 m (pc + 3) ls (v :: rest))) : W p l e R s m args below meth c H locs cells slots Q (F0 m pc ls (.ref (ad i) :: rest)) := by
  obtain ⟨⟨sa, hP, hD, hA⟩, hS⟩ := hI
  exact va_getN hC.1 hC.2.1 hC.2.2.2.2.1 hin hC.2.2.2.1 hC.2.2.2.2.2.1 hP i ((world_get hi).trans (by rw [he])) hc k hk (va_Nw.use rfl (hC.2.2.2.2.2.2.2.2.2.2.2 _ hlink)) (by subst href; exact fun _ h => h) hv hdg kk
theorem r_putN (hC : Cx p s m args c meth E ow b n ret) (hI : In E ad V s H locs) {i ci N index : Nat} {C ref host : String} {T : u_T} {fs : List Value} {v : Nat → Int32} {x : Value} {ty : FieldType} (ty0 : Nat → FieldType) (hty : ∀ k, k < N → parseFieldDescriptor (T k).2.2.1 = some (ty0 k)) (hnm : ∀ a, a < N → ∀ b, b < N → a ≠ b → (T a).2.1 ≠ (T b).2.1) (hi : okc i) (he : ∀ sa, cell E (adx ad sa) i (V i) = .inr (ci, fs)) (hc : vwCl[ci]? = some (C, T, N)) (hin : ∀ w ∈ u_ws C T N, w ∈ TB) (k : Nat) (hk : k < N) (hlink : Cond.fieldLinkNest ow index ref (T k).2.1 (T k).2.2.1 host ∈ NB) (href : (T k).1 = ref) (hfin : (T k).2.2.2 = false) (hd : parseFieldDescriptor (T k).2.2.1 = some ty) (hn : narrow ty x = x) (hfit : fits ty x = true) (hl : k < fs.length) (hs : ∀ sa, cell E (adx ad sa) i v = .inr (ci, fs.set k x)) (hdg : decode b pc = .ok (.putfield index, 3))
    (kk : ∀ (H1 : Heap) (locs1 : List Loc), In E ad (va_up V i v) s H1 locs1 → W p l e R s m args below meth c H1 locs1 cells slots Q (F0 m (pc + 3) ls rest)) : W p l e R s m args below meth c H locs cells slots Q (F0 m pc ls (x :: .ref (ad i) :: rest)) := by
  obtain ⟨⟨sa, hP, hD, hA⟩, hS⟩ := hI
  exact va_putN hC.1 hC.2.1 hC.2.2.2.2.1 hin ty0 hty hnm hC.2.2.2.1 hC.2.2.2.2.2.1 hP hD hS i ((world_get hi).trans (by rw [he])) hc k hk (va_Nw.use rfl (hC.2.2.2.2.2.2.2.2.2.2.2 _ hlink)) (by subst href; exact fun _ h => h) hfin hd hn hfit hl hdg (fun H1 locs1 hP hD hS => kk H1 locs1 ⟨⟨sa, by rw [← hs sa, world_set hi] at hP; exact hP, by rw [← hs sa, world_set hi] at hD; exact hD, hA⟩, hS⟩)
/-! arrays of ints -/
theorem r_iald (hC : Cx p s m args c meth E ow b n ret) (hI : In E ad V s H locs) {i N : Nat} (hi : okc i) (he : ∀ (sa : Nat → Nat) (v : Nat → Int32), cell E (adx ad sa) i v = .inl (eC E 0, N, .inl v)) {x : Int32} (hin : vp_in x N) (hdg : decode b pc = .ok (.iaload, 1))
    (kk : W p l e R s m args below meth c H locs cells slots Q (F0 m (pc + 1) ls (.int (V i x.toNatClampNeg) :: rest))) : W p l e R s m args below meth c H locs cells slots Q (F0 m pc ls (.int x :: .ref (ad i) :: rest)) := by
  obtain ⟨⟨sa, hP, hD, hA⟩, hS⟩ := hI
  exact va_iald hC.1 hC.2.1 hC.2.2.2.2.2.1 hP i 0 ((world_get hi).trans (by rw [he])) rfl hin hdg kk
theorem r_cald (hC : Cx p s m args c meth E ow b n ret) (hI : In E ad V s H locs) {i N : Nat} (hi : okc i) (he : ∀ (sa : Nat → Nat) (v : Nat → Int32), cell E (adx ad sa) i v = .inl (eC E 2, N, .inl v)) {x : Int32} (hin : vp_in x N) (hdg : decode b pc = .ok (.caload, 1))
    (kk : W p l e R s m args below meth c H locs cells slots Q (F0 m (pc + 1) ls (.int (V i x.toNatClampNeg) :: rest))) : W p l e R s m args below meth c H locs cells slots Q (F0 m pc ls (.int x :: .ref (ad i) :: rest)) := by
  obtain ⟨⟨sa, hP, hD, hA⟩, hS⟩ := hI
  exact va_cald hC.1 hC.2.1 hC.2.2.2.2.2.1 hP i 2 ((world_get hi).trans (by rw [he])) rfl hin hdg kk
theorem r_iast (hC : Cx p s m args c meth E ow b n ret) (hI : In E ad V s H locs) {i N : Nat} (hi : okc i) (he : ∀ (sa : Nat → Nat) (v : Nat → Int32), cell E (adx ad sa) i v = .inl (eC E 0, N, .inl v)) {x z : Int32} (hin : vp_in x N) (hdg : decode b pc = .ok (.iastore, 1))
    (kk : ∀ (H1 : Heap) (locs1 : List Loc), In E ad (stv V i x.toNatClampNeg z) s H1 locs1 → W p l e R s m args below meth c H1 locs1 cells slots Q (F0 m (pc + 1) ls rest)) : W p l e R s m args below meth c H locs cells slots Q (F0 m pc ls (.int z :: .int x :: .ref (ad i) :: rest)) := by
  obtain ⟨⟨sa, hP, hD, hA⟩, hS⟩ := hI
  exact va_iast hC.1 hC.2.1 hC.2.2.2.2.2.1 hP hD hS i 0 ((world_get hi).trans (by rw [he])) rfl hin hdg (fun H1 locs1 hP hD hS => kk H1 locs1 ⟨⟨sa, by rw [← he sa, world_set hi] at hP; exact hP, by rw [← he sa, world_set hi] at hD; exact hD, hA⟩, hS⟩)
theorem r_alen (hC : Cx p s m args c meth E ow b n ret) (hI : In E ad V s H locs) {i N : Nat} (hi : okc i) (he : ∀ (sa : Nat → Nat) (v : Nat → Int32), cell E (adx ad sa) i v = .inl (eC E 0, N, .inl v)) (hdg : decode b pc = .ok (.arraylength, 1))
    (kk : W p l e R s m args below meth c H locs cells slots Q (F0 m (pc + 1) ls (.int (nI N) :: rest))) : W p l e R s m args below meth c H locs cells slots Q (F0 m pc ls (.ref (ad i) :: rest)) := by
  obtain ⟨⟨sa, hP, hD, hA⟩, hS⟩ := hI
  exact va_alen (x := (N, .inl (V i))) hC.1 hC.2.1 hC.2.2.2.2.2.1 hP i 0 ((world_get hi).trans (by rw [he])) rfl rfl hdg kk
/-! calls of what answers by MR -/
/-- what the tables say of a method that is called -/
def CalY (y : MethodName) (bytes : ByteArray) (n : Nat) (ret : Option FieldType) (na : Nat) : Prop :=
  (y.cls ≠ "java/lang/invoke/MethodHandle" ∧ y.cls ≠ "java/lang/invoke/VarHandle") ∧ Cond.initialized y.cls ∈ TB ∧ Cond.code y bytes n ret ∈ TB ∧ (parseMethodDescriptor y.desc).map (fun d => d.parameters.length) = some na
def CalV (y : MethodName) (bytes : ByteArray) (n : Nat) (ret : Option FieldType) (na : Nat) : Prop := CalY y bytes n ret na ∧ Cond.instanceMethod y ∈ TB ∧ Cond.selects y.cls y y ∈ TB
def CalS (y : MethodName) (bytes : ByteArray) (n : Nat) (ret : Option FieldType) (na : Nat) : Prop := CalY y bytes n ret na ∧ Cond.static y ∈ TB
theorem callB_tb {y : MethodName} {bytes : ByteArray} {n1 na index mc ms : Nat} {ret1 : Option FieldType} {rm : Room} (hC : Cx p s m args c meth E ow b n ret) (hy : CalY y bytes n1 ret1 na) (hl : Cond.methodLink ow index y ∈ TB) (hrc : rm.cells = mc) (hrs : rm.slots = ms) (hR : rm.frames + 1 ≤ R.frames ∧ 8 + (n1 + 11) + rm.locals ≤ R.locals) :
    CallB R s args ow index y bytes n1 ret1 (.code y bytes n1 ret1 :: TB) rm mc ms na := by
  have ht := hC.2.2.2.2.1
  obtain ⟨h1, h2, h3, h4⟩ := hy
  refine ⟨hrc, hrs, hR.1, hR.2, fun w hw a' U hW => ?_, List.mem_cons_self, ht _ h3, ht _ h2, h1, fun sig h => ?_, ht _ hl⟩
  · rcases List.mem_cons.mp hw with rfl | hw
    · exact word_at hW (tb_good _ h3) (ht _ h3)
    · exact word_at hW (tb_good _ hw) (ht _ hw)
  · rw [h] at h4
    exact (Option.some.inj h4).symm
theorem in_after {V' : Mem} {st₀ t T' : State} {L : List Loc} (hI : In E ad V s H locs) (h0 : st₀.heap = H) (hd : Hd E ad V' t.heap) (hF : va_F (ours E) st₀ t) (e1 : T'.heap = t.heap) (hL : ∀ q ∈ L, ours E q.base) : In E ad V' s T'.heap (locs ++ L) := by
  obtain ⟨hz, hk⟩ := hF
  rw [h0] at hz hk
  exact ⟨by rw [e1]; exact hd, Nat.le_trans hI.2.1 (by rw [e1]; exact hz), fun q h1 h2 => by rw [e1, hk q (Nat.lt_of_lt_of_le h1 hI.2.1) h2]; exact hI.2.2.1 q h1 h2, fun q hq => by
      rcases List.mem_append.mp hq with h | h
      · exact hI.2.2.2 q h
      · exact hL q h⟩
theorem after_call {v : Value} {V' : Mem} {a : Array Value} {st : List Value} (hI : In E ad V s H locs) (hr : va_Run p l e R s m args below meth c H locs cells slots 0 0 (F0 m pc ls st) rest (QR E ad (some v) V' a) (ours E))
    (kk : ∀ (H1 : Heap) (locs1 : List Loc), In E ad V' s H1 locs1 → W p l e R s m args below meth c H1 locs1 cells slots Q (F0 m (pc + 3) ls (v :: rest))) : W p l e R s m args below meth c H locs cells slots Q (F0 m pc ls st) := by
  intro T hT X
  obtain ⟨w, st₀, t, T', L, h0, X', hL, e1, e2, ⟨⟨hv, hd⟩, hF⟩, st⟩ := hr T hT X
  cases hv
  obtain ⟨t2, a1, b1⟩ := kk T'.heap (locs ++ L) (in_after hI h0 hd hF e1 hL) T' rfl X'
  exact ⟨t2, st t2 a1, b1⟩
theorem after_callv {V' : Mem} {a : Array Value} {st : List Value} (hI : In E ad V s H locs) (hr : va_Run p l e R s m args below meth c H locs cells slots 0 0 (F0 m pc ls st) rest (QR E ad none V' a) (ours E))
    (kk : ∀ (H1 : Heap) (locs1 : List Loc), In E ad V' s H1 locs1 → W p l e R s m args below meth c H1 locs1 cells slots Q (F0 m (pc + 3) ls rest)) : W p l e R s m args below meth c H locs cells slots Q (F0 m pc ls st) := by
  intro T hT X
  obtain ⟨w, st₀, t, T', L, h0, X', hL, e1, e2, ⟨⟨hv, hd⟩, hF⟩, st⟩ := hr T hT X
  cases hv
  obtain ⟨t2, a1, b1⟩ := kk T'.heap (locs ++ L) (in_after hI h0 hd hF e1 hL) T' rfl X'
  exact ⟨t2, st t2 a1, b1⟩
theorem runV_tb {y : MethodName} {bytes : ByteArray} {n1 na index d1 ib ci N : Nat} {ret1 : Option FieldType} {As st : List Value} {r : Option Value} {V' : Mem} {T : u_T} {fs : List Value} (hC : Cx p s m args c meth E ow b n ret) (hI : In E ad V s H locs) (hsz : ls.size = n) (hM : MR l E ad y bytes n1 ret1 d1 (.ref (ad ib) :: As) V r V') (hy : CalV y bytes n1 ret1 na) (hl : Cond.methodLink ow index y ∈ TB) (hib : okc ib) (he : ∀ sa, cell E (adx ad sa) ib (V ib) = .inr (ci, fs)) (hc : vwCl[ci]? = some (y.cls, T, N)) (hn : As.length = na) (hst : st = As.reverse ++ .ref (ad ib) :: rest) (hR : d1 + 1 ≤ R.frames ∧ 8 + (n1 + 11) + 40 * d1 ≤ R.locals) (hcs : cells ≤ R.cells ∧ slots ≤ R.slots) (hw : (rest.map fun v => v.category).sum ≤ 8) (hdg : decode b pc = .ok (.invokevirtual index, 3)) :
    va_Run p l e R s m args below meth c H locs cells slots 0 0 (F0 m pc ls st) rest (QR E ad r V' (Value.ref (ad ib) :: As).toArray) (ours E) := by
  have ht := hC.2.2.2.2.1
  have hI0 := hI
  obtain ⟨⟨sa, hP, hD, hA⟩, hS⟩ := hI
  exact va_runV (Ts := TB) (C := y.cls) (As := As) (rest := rest) ⟨hC.1, hC.2.1, hC.2.2.1, hC.2.2.2.1, ht⟩ hM ⟨callB_tb (na := na) hC hy.1 hl rfl rfl hR, ht _ hy.2.1, ht _ hy.2.2⟩ ⟨pre_blind, va_recv (q0 := ib) hC.2.2.2.2.2.1 hP hc ((world_get hib).trans (by rw [he])), fun U hU hW => ⟨rfl, In.pre hC hI0 U hU hW⟩⟩ rfl hn hsz hst (lv_room (rest := st) (ls := ls) (pc := pc) (m := m) hw) hdg hcs
theorem runS_tb {y : MethodName} {bytes : ByteArray} {n1 na index d1 : Nat} {ret1 : Option FieldType} {As st : List Value} {r : Option Value} {V' : Mem} (hC : Cx p s m args c meth E ow b n ret) (hI : In E ad V s H locs) (hsz : ls.size = n) (hM : MR l E ad y bytes n1 ret1 d1 As V r V') (hy : CalS y bytes n1 ret1 na) (hl : Cond.methodLink ow index y ∈ TB) (hn : As.length = na) (hst : st = As.reverse ++ rest) (hR : d1 + 1 ≤ R.frames ∧ 8 + (n1 + 11) + 40 * d1 ≤ R.locals) (hcs : cells ≤ R.cells ∧ slots ≤ R.slots) (hw : (rest.map fun v => v.category).sum ≤ 8) (hdg : decode b pc = .ok (.invokestatic index, 3)) :
    va_Run p l e R s m args below meth c H locs cells slots 0 0 (F0 m pc ls st) rest (QR E ad r V' As.toArray) (ours E) := by
  have ht := hC.2.2.2.2.1
  exact va_runS (Ts := TB) (As := As) (rest := rest) ⟨hC.1, hC.2.1, hC.2.2.1, hC.2.2.2.1, ht⟩ hM ⟨callB_tb (na := na) hC hy.1 hl rfl rfl hR, ht _ hy.2⟩ ⟨pre_blind, fun U hU hW => ⟨rfl, In.pre hC hI U hU hW⟩⟩ rfl hn hsz hst (lv_room (rest := st) (ls := ls) (pc := pc) (m := m) hw) hdg hcs
theorem runSN_tb {y : MethodName} {bytes : ByteArray} {n1 na index d1 : Nat} {host : String} {ret1 : Option FieldType} {As st : List Value} {r : Option Value} {V' : Mem} (hC : Cx p s m args c meth E ow b n ret) (hI : In E ad V s H locs) (hsz : ls.size = n) (hM : MR l E ad y bytes n1 ret1 d1 As V r V') (hy : CalS y bytes n1 ret1 na) (hl : Cond.methodLinkNest ow index y host ∈ NB) (hn : As.length = na) (hst : st = As.reverse ++ rest) (hR : d1 + 1 ≤ R.frames ∧ 8 + (n1 + 11) + 40 * d1 ≤ R.locals) (hcs : cells ≤ R.cells ∧ slots ≤ R.slots) (hw : (rest.map fun v => v.category).sum ≤ 8) (hdg : decode b pc = .ok (.invokestatic index, 3)) :
    va_Run p l e R s m args below meth c H locs cells slots 0 0 (F0 m pc ls st) rest (QR E ad r V' As.toArray) (ours E) := by
  have ht := hC.2.2.2.2.1
  obtain ⟨⟨h1, h2, h3, h4⟩, h5⟩ := hy
  refine va_runSN (host := host) (Ts := TB) (As := As) (rest := rest) ⟨hC.1, hC.2.1, hC.2.2.1, hC.2.2.2.1, ht⟩ hM ⟨⟨⟨rfl, rfl, hR.1, hR.2, fun w hw a' U hW => ?_, List.mem_cons_self⟩, ht _ h3, ht _ h2, h1, fun sig h => ?_, va_Nw.use rfl (hC.2.2.2.2.2.2.2.2.2.2.2 _ hl)⟩, ht _ h5, trivial⟩ ⟨pre_blind, fun U hU hW => ⟨rfl, In.pre hC hI U hU hW⟩⟩ rfl hn hsz hst (lv_room (rest := st) (ls := ls) (pc := pc) (m := m) hw) hdg hcs
  · rcases List.mem_cons.mp hw with rfl | hw
    · exact word_at hW (tb_good _ h3) (ht _ h3)
    · exact word_at hW (tb_good _ hw) (ht _ hw)
  · rw [h] at h4
    exact (Option.some.inj h4).symm
theorem r_calSN {y : MethodName} {bytes : ByteArray} {n1 na index d1 : Nat} {host : String} {ret1 : Option FieldType} {As st : List Value} {v : Value} {V' : Mem} (hC : Cx p s m args c meth E ow b n ret) (hI : In E ad V s H locs) (hsz : ls.size = n) (hM : MR l E ad y bytes n1 ret1 d1 As V (some v) V') (hy : CalS y bytes n1 ret1 na) (hl : Cond.methodLinkNest ow index y host ∈ NB) (hn : As.length = na) (hst : st = As.reverse ++ rest) (hR : d1 + 1 ≤ R.frames ∧ 8 + (n1 + 11) + 40 * d1 ≤ R.locals) (hcs : cells ≤ R.cells ∧ slots ≤ R.slots) (hw : (rest.map fun v => v.category).sum ≤ 8) (hdg : decode b pc = .ok (.invokestatic index, 3))
    (kk : ∀ (H1 : Heap) (locs1 : List Loc), In E ad V' s H1 locs1 → W p l e R s m args below meth c H1 locs1 cells slots Q (F0 m (pc + 3) ls (v :: rest))) : W p l e R s m args below meth c H locs cells slots Q (F0 m pc ls st) :=
  after_call hI (runSN_tb hC hI hsz hM hy hl hn hst hR hcs hw hdg) kk
/-- a virtual call in a method that makes nothing -/
theorem r_calV {y : MethodName} {bytes : ByteArray} {n1 na index d1 ib ci N : Nat} {ret1 : Option FieldType} {As st : List Value} {v : Value} {V' : Mem} {T : u_T} {fs : List Value} (hC : Cx p s m args c meth E ow b n ret) (hI : In E ad V s H locs) (hsz : ls.size = n) (hM : MR l E ad y bytes n1 ret1 d1 (.ref (ad ib) :: As) V (some v) V') (hy : CalV y bytes n1 ret1 na) (hl : Cond.methodLink ow index y ∈ TB) (hib : okc ib) (he : ∀ sa, cell E (adx ad sa) ib (V ib) = .inr (ci, fs)) (hc : vwCl[ci]? = some (y.cls, T, N)) (hn : As.length = na) (hst : st = As.reverse ++ .ref (ad ib) :: rest) (hR : d1 + 1 ≤ R.frames ∧ 8 + (n1 + 11) + 40 * d1 ≤ R.locals) (hcs : cells ≤ R.cells ∧ slots ≤ R.slots) (hw : (rest.map fun v => v.category).sum ≤ 8) (hdg : decode b pc = .ok (.invokevirtual index, 3))
    (kk : ∀ (H1 : Heap) (locs1 : List Loc), In E ad V' s H1 locs1 → W p l e R s m args below meth c H1 locs1 cells slots Q (F0 m (pc + 3) ls (v :: rest))) : W p l e R s m args below meth c H locs cells slots Q (F0 m pc ls st) :=
  after_call hI (runV_tb hC hI hsz hM hy hl hib he hc hn hst hR hcs hw hdg) kk
theorem r_calVv {y : MethodName} {bytes : ByteArray} {n1 na index d1 ib ci N : Nat} {ret1 : Option FieldType} {As st : List Value} {V' : Mem} {T : u_T} {fs : List Value} (hC : Cx p s m args c meth E ow b n ret) (hI : In E ad V s H locs) (hsz : ls.size = n) (hM : MR l E ad y bytes n1 ret1 d1 (.ref (ad ib) :: As) V none V') (hy : CalV y bytes n1 ret1 na) (hl : Cond.methodLink ow index y ∈ TB) (hib : okc ib) (he : ∀ sa, cell E (adx ad sa) ib (V ib) = .inr (ci, fs)) (hc : vwCl[ci]? = some (y.cls, T, N)) (hn : As.length = na) (hst : st = As.reverse ++ .ref (ad ib) :: rest) (hR : d1 + 1 ≤ R.frames ∧ 8 + (n1 + 11) + 40 * d1 ≤ R.locals) (hcs : cells ≤ R.cells ∧ slots ≤ R.slots) (hw : (rest.map fun v => v.category).sum ≤ 8) (hdg : decode b pc = .ok (.invokevirtual index, 3))
    (kk : ∀ (H1 : Heap) (locs1 : List Loc), In E ad V' s H1 locs1 → W p l e R s m args below meth c H1 locs1 cells slots Q (F0 m (pc + 3) ls rest)) : W p l e R s m args below meth c H locs cells slots Q (F0 m pc ls st) :=
  after_callv hI (runV_tb hC hI hsz hM hy hl hib he hc hn hst hR hcs hw hdg) kk
theorem r_calS {y : MethodName} {bytes : ByteArray} {n1 na index d1 : Nat} {ret1 : Option FieldType} {As st : List Value} {v : Value} {V' : Mem} (hC : Cx p s m args c meth E ow b n ret) (hI : In E ad V s H locs) (hsz : ls.size = n) (hM : MR l E ad y bytes n1 ret1 d1 As V (some v) V') (hy : CalS y bytes n1 ret1 na) (hl : Cond.methodLink ow index y ∈ TB) (hn : As.length = na) (hst : st = As.reverse ++ rest) (hR : d1 + 1 ≤ R.frames ∧ 8 + (n1 + 11) + 40 * d1 ≤ R.locals) (hcs : cells ≤ R.cells ∧ slots ≤ R.slots) (hw : (rest.map fun v => v.category).sum ≤ 8) (hdg : decode b pc = .ok (.invokestatic index, 3))
    (kk : ∀ (H1 : Heap) (locs1 : List Loc), In E ad V' s H1 locs1 → W p l e R s m args below meth c H1 locs1 cells slots Q (F0 m (pc + 3) ls (v :: rest))) : W p l e R s m args below meth c H locs cells slots Q (F0 m pc ls st) :=
  after_call hI (runS_tb hC hI hsz hM hy hl hn hst hR hcs hw hdg) kk
end CORE
/-! lifted functions: reading them -/
theorem gt {α : Type} {P : Prop} [Decidable P] {a b : α} {z : α} (hf : (if P then a else b) = z) (h : P) : a = z := by rw [if_pos h] at hf; exact hf
theorem gf {α : Type} {P : Prop} [Decidable P] {a b : α} {z : α} (hf : (if P then a else b) = z) (h : ¬ P) : b = z := by rw [if_neg h] at hf; exact hf
theorem gi {α : Type} {P : Prop} [Decidable P] {a : Option α} {z : α} (hf : (if P then a else none) = some z) : P ∧ a = some z := by
  by_cases h : P
  · exact ⟨h, gt hf h⟩
  · rw [if_neg h] at hf; cases hf
theorem gb {α β : Type} {o : Option α} {k : α → Option β} {z : β} (hf : o.bind k = some z) : ∃ y, o = some y ∧ k y = some z := by
  cases o with
  | none => cases hf
  | some y => exact ⟨y, rfl, hf⟩
