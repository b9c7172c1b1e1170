section R098
variable {p : Program} {l : Launch} {e : Env} {R : Room} {s : State} {m : MethodId} {args : Array Value} {below : List Frame} {meth : Method} {c : Code} {H : Heap} {locs : List Loc} {cells slots : Nat} {Q : State → Prop}
variable {E : En} {ad sa : Nat → Nat} {ow : String} {b : ByteArray} {n index : Nat} {ret : Option FieldType} {pc : Nat} {ls : Array Slot} {rest : List Value} {A : Nat → Prop} {ws : va_W}
def rowV (N : Nat) (v : Int32) : Nat → Int32 := fun j => if j < N then v else 0
def cfRow (E : En) (N : Nat) (v : Int32) (ad : Nat → Nat) (i : Nat) : va_E := if i = 0 then .inr (8, [.ref (ad 1)]) else .inl (eC E 0, N, .inl (rowV N v))
/-- what a new store holds -/
def V0st (i : Nat) : Nat → Int32 := if i = 0 then (fun j => if j = 0 then 1 else 0) else if i = 1 then (fun j => if j = 1 then 1 else 0) else if i = 3 then rowV 24 (-1) else if i = 5 then rowV 24 (-1) else if i = 7 then rowV 24 0 else if i = 9 then rowV 24 0 else if i = 11 then rowV 24 1 else if i = 13 then rowV 192 97 else if i = 15 then rowV 5 0 else if i = 17 then rowV 40 97 else if i = 19 then rowV 26 (-1) else fun _ => 0
def cfRev (E : En) (ad : Nat → Nat) (i : Nat) : va_E := stCell E (fun j => ad (j - 1)) 0 (i + 1) (V0st (i + 1))
def cfSt (E : En) (ad : Nat → Nat) (i : Nat) : va_E := stCell E ad 0 i (V0st i)
def V0cm (i : Nat) : Nat → Int32 := if i = 0 then (fun j => if j = 1 then 12 else 0) else if i = 2 then rowV 3 0 else fun _ => 0
def cfCm (E : En) (ad : Nat → Nat) (i : Nat) : va_E := cmCell E ad 0 i (V0cm i)
def cfTx (E : En) (ad : Nat → Nat) (i : Nat) : va_E := if i = 0 then .inr (1, [.ref (ad 1), .int 0, .int 0, .int 0]) else .inl (eC E 1, 16, .inl (fun _ => 0))
theorem va_S.mono {A B : Nat → Prop} {H0 H : Heap} {locs : List Loc} (h : ∀ q, A q → B q) (hS : va_S A H0 H locs) : va_S B H0 H locs := ⟨hS.1, fun q h1 h2 => hS.2.1 q h1 (fun h3 => h2 (h q h3)), fun z hz => h _ (hS.2.2 z hz)⟩

theorem m_setOf0 (l : Launch) : Met l yX9_setOf (.code yX9_setOf cX9_setOf 1 (some .int) :: TB) (rmd 1) (va_Pc [.int 0] (fun _ => True)) (fun _ st oc t => oc = .returned (some (.int 1)) ∧ t.heap = st.heap) 0 0 (fun _ => False) := by
  refine Met.ofW (cc := cX9_setOf) (maxL := 1) (ret := some .int) (by decide +kernel) rfl ?_
  intro p e s m args below meth c s₁ B hml hv
  obtain ⟨rfl, -⟩ := hv
  have hx := B.exec
  have hb := B.bytes
  have hl := lv_entry ([.int 0]) (n := 1) (Nat.le_of_ble_eq_true rfl)
  rw [lg_entry_eq]
  generalize (lg_sl ([.int 0]) ++ List.replicate (1 - (lg_sl ([.int 0])).length) Slot.unset).toArray = ls at hl ⊢
  have hl : lv_has ls 1 [(0, .int 0)] := hl
  refine lv_iload_n hx hb dX9_setOf_0 rfl (lv_at hl 0 rfl) ?_
  refine lv_if_lt (tgt := 16) hx hb dX9_setOf_1 (by decide) (fun h => absurd h (by decide)) (fun _ => ?_)
  refine lv_iload_n hx hb dX9_setOf_4 rfl (lv_at hl 0 rfl) ?_
  refine lv_bipush (v := 24) hx hb dX9_setOf_5 rfl ?_
  refine lv_icmp_ge (tgt := 16) hx hb dX9_setOf_7 (by decide) (fun h => absurd h (by decide)) (fun _ => ?_)
  refine lv_iconst (v := 1) hx hb dX9_setOf_10 rfl ?_
  refine lv_iload_n hx hb dX9_setOf_11 rfl (lv_at hl 0 rfl) ?_
  refine lv_ishl hx hb dX9_setOf_12 ?_
  refine lv_goto (tgt := 17) hx hb dX9_setOf_13 (by decide) ?_
  rw [show ((1 : Int32) <<< ((0 : Int32) &&& 31)) = 1 by decide]
  exact W.iret hx hb B.returns (fun t ht _ => ⟨rfl, ht⟩) (fun q hq => nomatch hq) dX9_setOf_17 B.notSynchronized
theorem i_setOf {host : String} {A : Nat → Prop} (hC : CI p s m args c meth E ow b n) (hP : va_P (eD E) vwCl ws H) (hS : va_S A s.heap H locs) (hsz : ls.size = n) (hl : Cond.methodLinkNest ow index yX9_setOf host ∈ NB) (hR : 1 + 1 ≤ R.frames ∧ 8 + (1 + 11) + 40 * 1 ≤ R.locals) (hcs : cells ≤ R.cells ∧ slots ≤ R.slots) (hw : (rest.map fun v => v.category).sum ≤ 8) (hdg : decode b pc = .ok (.invokestatic index, 3))
    (kk : ∀ (H1 : Heap) (locs1 : List Loc), va_P (eD E) vwCl ws H1 → va_S A s.heap H1 locs1 → W p l e R s m args below meth c H1 locs1 cells slots Q (F0 m (pc + 3) ls (.int 1 :: rest))) : W p l e R s m args below meth c H locs cells slots Q (F0 m pc ls (.int 0 :: rest)) := by
  have ht := hC.1.2.2.2.2.1
  have hr := va_runSN (meth := meth) (H := H) (locs := locs) (below := below) (e := e) (host := host) (Ts := TB) (As := [.int 0]) (rest := rest) (g := F0 m pc ls (.int 0 :: rest)) ⟨hC.1.1, hC.1.2.1, hC.1.2.2.1, hC.1.2.2.2.1, ht⟩ (m_setOf0 l) ⟨callN_tb (R := R) (na := 1) hC.1 cv_X9_setOf.1 hl rfl rfl hR, ht _ cv_X9_setOf.2, trivial⟩ ⟨fun a U g mk q => ⟨q.1, trivial⟩, fun U hU hW => ⟨rfl, trivial⟩⟩ rfl rfl hsz rfl (lv_room (rest := _) (ls := ls) (pc := pc) (m := m) hw) hdg hcs
  intro T hT X
  obtain ⟨w, st₀, t, T', L, h0, X', hL, e1, e2, ⟨hv, hh⟩, st⟩ := hr T hT X
  cases hv
  have hH : T'.heap = H := e1.trans (hh.trans h0)
  obtain ⟨t2, a1, b1⟩ := kk T'.heap (locs ++ L) (by rw [hH]; exact hP) (by rw [hH]; exact ⟨hS.1, hS.2.1, fun z hz => by
    rcases List.mem_append.mp hz with h | h
    · exact hS.2.2 z h
    · exact (hL z h).elim⟩) T' rfl X'
  exact ⟨t2, st t2 a1, b1⟩
theorem dX7_init_0 : decode cX7_init 0 = .ok (.aload_n 0, 1) := by decide +kernel
theorem dX7_init_1 : decode cX7_init 1 = .ok (.invokespecial 3, 3) := by decide +kernel
theorem dX7_init_4 : decode cX7_init 4 = .ok (.aload_n 0, 1) := by decide +kernel
theorem dX7_init_5 : decode cX7_init 5 = .ok (.iload_n 1, 1) := by decide +kernel
theorem dX7_init_6 : decode cX7_init 6 = .ok (.ifCond .ge 7, 3) := by decide +kernel
theorem dX7_init_9 : decode cX7_init 9 = .ok (.iconst 0, 1) := by decide +kernel
theorem dX7_init_10 : decode cX7_init 10 = .ok (.goto 4, 3) := by decide +kernel
theorem dX7_init_13 : decode cX7_init 13 = .ok (.iload_n 1, 1) := by decide +kernel
theorem dX7_init_14 : decode cX7_init 14 = .ok (.newarray .int, 2) := by decide +kernel
theorem dX7_init_16 : decode cX7_init 16 = .ok (.putfield 9, 3) := by decide +kernel
theorem dX7_init_19 : decode cX7_init 19 = .ok (.iconst 0, 1) := by decide +kernel
theorem dX7_init_20 : decode cX7_init 20 = .ok (.istore_n 3, 1) := by decide +kernel
theorem dX7_init_21 : decode cX7_init 21 = .ok (.iload_n 3, 1) := by decide +kernel
theorem dX7_init_22 : decode cX7_init 22 = .ok (.aload_n 0, 1) := by decide +kernel
theorem dX7_init_23 : decode cX7_init 23 = .ok (.getfield 9, 3) := by decide +kernel
theorem dX7_init_26 : decode cX7_init 26 = .ok (.arraylength, 1) := by decide +kernel
theorem dX7_init_27 : decode cX7_init 27 = .ok (.if_icmp .ge 16, 3) := by decide +kernel
theorem dX7_init_30 : decode cX7_init 30 = .ok (.aload_n 0, 1) := by decide +kernel
theorem dX7_init_31 : decode cX7_init 31 = .ok (.getfield 9, 3) := by decide +kernel
theorem dX7_init_34 : decode cX7_init 34 = .ok (.iload_n 3, 1) := by decide +kernel
theorem dX7_init_35 : decode cX7_init 35 = .ok (.iload_n 2, 1) := by decide +kernel
theorem dX7_init_36 : decode cX7_init 36 = .ok (.iastore, 1) := by decide +kernel
theorem dX7_init_37 : decode cX7_init 37 = .ok (.iinc 3 1, 3) := by decide +kernel
theorem dX7_init_40 : decode cX7_init 40 = .ok (.goto (-19), 3) := by decide +kernel
theorem dX7_init_43 : decode cX7_init 43 = .ok (.return_, 1) := by decide +kernel
theorem cv_X7_init : CalI yX7_init cX7_init 4 2 := ⟨⟨⟨by decide +kernel, by decide +kernel⟩, tw_1_4, tw_1_58, by decide +kernel⟩, rfl, tw_1_57⟩
set_option maxRecDepth 100000 in
set_option maxHeartbeats 4000000 in
theorem m_X7_init (l : Launch) (E : En) (N : Nat) (v : Int32) (hN : N < 2 ^ 20) (sz b0 : Nat) : MI l E yX7_init cX7_init 4 1 1 N sz b0 [.int (nI N), .int v] 8 [.null] 2 (cfRow E N v) := by
  refine entI (E := E) "LetterRepository$Row" (by decide +kernel) rfl rfl (Nat.le_of_ble_eq_true rfl) ?_
  intro p e s m below meth c ls hC hsub hP hD hS hl
  have hx := hC.1.1
  have hb := hC.1.2.1
  have hts := hC.1.2.2.2.2.1
  have hown := hC.1.2.2.2.1
  have hK := hC.1.2.2.2.2.2.1
  have hA : ∀ q, s.heap.size ≤ q → fre b0 s.heap.size q := fun q h => .inr h
  have hl : lv_has ls 4 [(0, .ref b0), (1, .int (nI N)), (2, .int v)] := hl
  refine lv_aload_n hx hb dX7_init_0 rfl (lv_at hl 0 rfl) ?_
  refine i_obj hC hl.1 tw_1_59 ⟨Nat.le_of_ble_eq_true rfl, Nat.le_of_ble_eq_true rfl⟩ dX7_init_1 ?_
  refine lv_aload_n hx hb dX7_init_4 rfl (lv_at hl 0 rfl) ?_
  refine lv_iload_n hx hb dX7_init_5 rfl (lv_at hl 1 rfl) ?_
  have hpos : ¬ nI N < 0 := nI_pos (by omega)
  refine lv_if_ge (tgt := 13) hx hb dX7_init_6 (by decide) (fun _ => ?_) (fun h => absurd (nI_pos' (by omega)) h)
  refine lv_iload_n hx hb dX7_init_13 rfl (lv_at hl 1 rfl) ?_
  refine va_newa (atype := .int) (ty := .int) (a0 := (N, .inl (fun _ => 0))) (N' := N) hx hb (hts _ tw_1_64) rfl hK hP hD hS hA (fun _ => rfl) hpos (nI_clamp (by omega)) (by show N * 4 ≤ _; omega) (Nat.le_of_ble_eq_true rfl) (by show 0 + N ≤ N; omega) dX7_init_14 (fun a cA H hK2 hP hD hS => ?_)
  have hcA : cA = eC E 0 := by
    have h1 := (hK2.2 6 (cA, .int) rfl).2
    have h2 := (hK2.2 0 (eC E 0, .int) rfl).2
    exact Option.some.inj (h1.symm.trans h2)
  subst hcA
  refine va_putF hx hb hts in_X7 tyX7 tyX7_ok nmX7 hown hK hP hD hS 0 rfl rfl 0 (by decide) (hts _ tw_1_60) (fun _ h => h) rfl hC.2 rfl rfl rfl rfl (by decide) dX7_init_16 (fun H locs hP hD hS => ?_)
  have hP : va_P (eD E) vwCl [(b0, .inr (8, [.ref a])), (a, .inl (eC E 0, N, .inl (fun j => if j < 0 then v else 0)))] H := by
    simpa using hP
  have hD : va_D (fre b0 s.heap.size) [(b0, .inr (8, [.ref a])), (a, .inl (eC E 0, N, .inl (fun j => if j < 0 then v else 0)))] := by
    simpa using hD
  refine lv_iconst (v := nI 0) hx hb dX7_init_19 rfl ?_
  refine lv_istore_n (lv' := [(3, .int (nI 0)), (0, .ref b0), (1, .int (nI N)), (2, .int v)]) hx hb dX7_init_20 rfl hl (Nat.lt_of_lt_of_eq (by decide) rfl) rfl (fun ls hl => ?_)
  have L : ∀ (k i : Nat) (H : Heap) (locs : List Loc) (ls : Array Slot), i + k = N → va_P (eD E) vwCl [(b0, .inr (8, [.ref a])), (a, .inl (eC E 0, N, .inl (fun j => if j < i then v else 0)))] H → va_D (fre b0 s.heap.size) [(b0, .inr (8, [.ref a])), (a, .inl (eC E 0, N, .inl (fun j => if j < i then v else 0)))] → va_S (fre b0 s.heap.size) s.heap H locs → lv_has ls 4 [(3, .int (nI i)), (0, .ref b0), (1, .int (nI N)), (2, .int v)] → W p l e (rmx 1 1 N) s m [.ref b0, .int (nI N), .int v].toArray below meth c H locs 1 N (MQ below (QI E b0 2 (cfRow E N v)) [.ref b0, .int (nI N), .int v].toArray s 1 N (fre b0 s.heap.size)) (F0 m 21 ls []) := by
    intro k
    induction k with
    | zero =>
      intro i H locs ls hi hP hD hS hl
      obtain rfl : i = N := by omega
      refine lv_iload_n hx hb dX7_init_21 rfl (lv_at hl 0 rfl) ?_
      refine lv_aload_n hx hb dX7_init_22 rfl (lv_at hl 1 rfl) ?_
      refine va_get (T := TX7) hx hb hts in_X7 hown hK hP 0 rfl rfl 0 (by decide) (hts _ tw_1_60) (fun _ h => h) rfl dX7_init_23 ?_
      refine va_alen (x := (i, .inl (fun j => if j < i then v else 0))) hx hb hK hP 1 0 rfl rfl rfl dX7_init_26 ?_
      refine lv_icmp_ge (tgt := 43) hx hb dX7_init_27 (by decide) (fun _ => ?_) (fun h => absurd (Int32.le_refl _) h)
      exact W.vret hx hb hC.1.2.2.2.2.2.2.2.2.2.1 (fun t ht _ => ⟨⟨rfl, fun j => ([b0, a] : List Nat).getD j 0, rfl, by rw [ht]; exact hP, hD⟩, hS.F ht⟩) hS.2.2 dX7_init_43 hC.1.2.2.2.2.2.2.2.2.2.2.1
    | succ k ih =>
      intro i H locs ls hi hP hD hS hl
      refine lv_iload_n hx hb dX7_init_21 rfl (lv_at hl 0 rfl) ?_
      refine lv_aload_n hx hb dX7_init_22 rfl (lv_at hl 1 rfl) ?_
      refine va_get (T := TX7) hx hb hts in_X7 hown hK hP 0 rfl rfl 0 (by decide) (hts _ tw_1_60) (fun _ h => h) rfl dX7_init_23 ?_
      refine va_alen (x := (N, .inl (fun j => if j < i then v else 0))) hx hb hK hP 1 0 rfl rfl rfl dX7_init_26 ?_
      refine lv_icmp_ge (tgt := 43) hx hb dX7_init_27 (by decide) (fun h => absurd h (nI_ge (by omega) (by omega))) (fun _ => ?_)
      refine lv_aload_n hx hb dX7_init_30 rfl (lv_at hl 1 rfl) ?_
      refine va_get (T := TX7) hx hb hts in_X7 hown hK hP 0 rfl rfl 0 (by decide) (hts _ tw_1_60) (fun _ h => h) rfl dX7_init_31 ?_
      refine lv_iload_n hx hb dX7_init_34 rfl (lv_at hl 0 rfl) ?_
      refine lv_iload_n hx hb dX7_init_35 rfl (lv_at hl 3 rfl) ?_
      refine va_iast hx hb hK hP hD hS 1 0 rfl rfl (nI_in (by omega) (by omega)) dX7_init_36 (fun H locs hP hD hS => ?_)
      have hu : upd (fun j => if j < i then v else 0) (nI i).toNatClampNeg v = fun j => if j < i + 1 then v else 0 := by
        funext j
        rw [nI_clamp (by omega)]
        by_cases h : j = i
        · subst h; simp [upd]
        · by_cases h2 : j < i <;> simp [upd, h, h2] <;> omega
      rw [hu] at hP hD
      refine lv_iinc (v := nI (i + 1)) (lv' := [(3, .int (nI (i + 1))), (0, .ref b0), (1, .int (nI N)), (2, .int v)]) hx hb dX7_init_37 hl (k := 0) rfl (nI_1 i) (Nat.lt_of_lt_of_eq (by decide) rfl) rfl (fun ls hl => ?_)
      refine lv_goto (tgt := 21) hx hb dX7_init_40 (by decide) ?_
      exact ih (i + 1) H locs ls (by omega) hP hD hS hl
  exact x_wid (c2 := 1) (s2 := N) (Nat.le_of_ble_eq_true rfl) (by show 0 + N ≤ N; omega) (L N 0 H locs ls (by omega) hP hD hS hl)

theorem dX6_init_0 : decode cX6_init 0 = .ok (.aload_n 0, 1) := by decide +kernel
theorem dX6_init_1 : decode cX6_init 1 = .ok (.invokespecial 3, 3) := by decide +kernel
theorem dX6_init_4 : decode cX6_init 4 = .ok (.aload_n 0, 1) := by decide +kernel
theorem dX6_init_5 : decode cX6_init 5 = .ok (.new 9, 3) := by decide +kernel
theorem dX6_init_8 : decode cX6_init 8 = .ok (.dup, 1) := by decide +kernel
theorem dX6_init_9 : decode cX6_init 9 = .ok (.bipush 24, 2) := by decide +kernel
theorem dX6_init_11 : decode cX6_init 11 = .ok (.iconst (-1), 1) := by decide +kernel
theorem dX6_init_12 : decode cX6_init 12 = .ok (.invokespecial 11, 3) := by decide +kernel
theorem dX6_init_15 : decode cX6_init 15 = .ok (.putfield 14, 3) := by decide +kernel
theorem dX6_init_18 : decode cX6_init 18 = .ok (.aload_n 0, 1) := by decide +kernel
theorem dX6_init_19 : decode cX6_init 19 = .ok (.new 9, 3) := by decide +kernel
theorem dX6_init_22 : decode cX6_init 22 = .ok (.dup, 1) := by decide +kernel
theorem dX6_init_23 : decode cX6_init 23 = .ok (.bipush 24, 2) := by decide +kernel
theorem dX6_init_25 : decode cX6_init 25 = .ok (.iconst (-1), 1) := by decide +kernel
theorem dX6_init_26 : decode cX6_init 26 = .ok (.invokespecial 11, 3) := by decide +kernel
theorem dX6_init_29 : decode cX6_init 29 = .ok (.putfield 20, 3) := by decide +kernel
theorem dX6_init_32 : decode cX6_init 32 = .ok (.aload_n 0, 1) := by decide +kernel
theorem dX6_init_33 : decode cX6_init 33 = .ok (.new 9, 3) := by decide +kernel
theorem dX6_init_36 : decode cX6_init 36 = .ok (.dup, 1) := by decide +kernel
theorem dX6_init_37 : decode cX6_init 37 = .ok (.bipush 24, 2) := by decide +kernel
theorem dX6_init_39 : decode cX6_init 39 = .ok (.iconst 0, 1) := by decide +kernel
theorem dX6_init_40 : decode cX6_init 40 = .ok (.invokespecial 11, 3) := by decide +kernel
theorem dX6_init_43 : decode cX6_init 43 = .ok (.putfield 23, 3) := by decide +kernel
theorem dX6_init_46 : decode cX6_init 46 = .ok (.aload_n 0, 1) := by decide +kernel
theorem dX6_init_47 : decode cX6_init 47 = .ok (.new 9, 3) := by decide +kernel
theorem dX6_init_50 : decode cX6_init 50 = .ok (.dup, 1) := by decide +kernel
theorem dX6_init_51 : decode cX6_init 51 = .ok (.bipush 24, 2) := by decide +kernel
theorem dX6_init_53 : decode cX6_init 53 = .ok (.iconst 0, 1) := by decide +kernel
theorem dX6_init_54 : decode cX6_init 54 = .ok (.invokespecial 11, 3) := by decide +kernel
theorem dX6_init_57 : decode cX6_init 57 = .ok (.putfield 26, 3) := by decide +kernel
theorem dX6_init_60 : decode cX6_init 60 = .ok (.aload_n 0, 1) := by decide +kernel
theorem dX6_init_61 : decode cX6_init 61 = .ok (.new 9, 3) := by decide +kernel
theorem dX6_init_64 : decode cX6_init 64 = .ok (.dup, 1) := by decide +kernel
theorem dX6_init_65 : decode cX6_init 65 = .ok (.bipush 24, 2) := by decide +kernel
theorem dX6_init_67 : decode cX6_init 67 = .ok (.iconst 0, 1) := by decide +kernel
theorem dX6_init_68 : decode cX6_init 68 = .ok (.invokestatic 29, 3) := by decide +kernel
theorem dX6_init_71 : decode cX6_init 71 = .ok (.invokespecial 11, 3) := by decide +kernel
theorem dX6_init_74 : decode cX6_init 74 = .ok (.putfield 33, 3) := by decide +kernel
theorem dX6_init_77 : decode cX6_init 77 = .ok (.aload_n 0, 1) := by decide +kernel
theorem dX6_init_78 : decode cX6_init 78 = .ok (.new 9, 3) := by decide +kernel
theorem dX6_init_81 : decode cX6_init 81 = .ok (.dup, 1) := by decide +kernel
theorem dX6_init_82 : decode cX6_init 82 = .ok (.sipush 192, 3) := by decide +kernel
theorem dX6_init_85 : decode cX6_init 85 = .ok (.bipush 97, 2) := by decide +kernel
theorem dX6_init_87 : decode cX6_init 87 = .ok (.invokespecial 11, 3) := by decide +kernel
theorem dX6_init_90 : decode cX6_init 90 = .ok (.putfield 36, 3) := by decide +kernel
theorem dX6_init_93 : decode cX6_init 93 = .ok (.aload_n 0, 1) := by decide +kernel
theorem dX6_init_94 : decode cX6_init 94 = .ok (.iconst 1, 1) := by decide +kernel
theorem dX6_init_95 : decode cX6_init 95 = .ok (.putfield 39, 3) := by decide +kernel
theorem dX6_init_98 : decode cX6_init 98 = .ok (.return_, 1) := by decide +kernel
theorem cv_X6_init : CalI yX6_init cX6_init 1 0 := ⟨⟨⟨by decide +kernel, by decide +kernel⟩, tw_1_3, tw_1_52, by decide +kernel⟩, rfl, tw_1_51⟩
set_option maxRecDepth 100000 in
set_option maxHeartbeats 4000000 in
theorem m_X6_init (l : Launch) (E : En) (sz b0 : Nat) : MI l E yX6_init cX6_init 1 2 12 318 sz b0 [] 7 [.null, .null, .null, .null, .null, .null, .int 0, .int 0] 13 (cfRev E) := by
  refine entI (E := E) "LetterRepository$Revisions" (by decide +kernel) rfl rfl (Nat.le_of_ble_eq_true rfl) ?_
  intro p e s m below meth c ls hC hsub hP hD hS hl
  have hx := hC.1.1
  have hb := hC.1.2.1
  have hts := hC.1.2.2.2.2.1
  have hown := hC.1.2.2.2.1
  have hK := hC.1.2.2.2.2.2.1
  have hA : ∀ q, s.heap.size ≤ q → fre b0 s.heap.size q := fun q h => .inr h
  have hl : lv_has ls 1 [(0, .ref b0)] := hl
  refine lv_aload_n hx hb dX6_init_0 rfl (lv_at hl 0 rfl) ?_
  refine i_obj hC hl.1 tw_1_53 ⟨Nat.le_of_ble_eq_true rfl, Nat.le_of_ble_eq_true rfl⟩ dX6_init_1 ?_
  refine lv_aload_n hx hb dX6_init_4 rfl (lv_at hl 0 rfl) ?_
  refine va_new (ci := 8) (fs := [.null]) (C := RX7) (T := TX7) (N := 1) hx hb hts in_X7 tyX7 tyX7_ok hown (hts _ tw_1_54) (hts _ tw_1_55) (hts _ tw_1_4) hK hP hD hS hA rfl (fun j hj => by rcases (show j = 0 by omega) with rfl <;> rfl) (Nat.le_of_ble_eq_true rfl) (Nat.le_of_ble_eq_true rfl) dX6_init_5 (fun q5 H hP hD hS => ?_)
  refine lv_dup hx hb dX6_init_8 rfl ?_
  refine lv_bipush (v := 24) hx hb dX6_init_9 rfl ?_
  refine lv_iconst (v := (-1)) hx hb dX6_init_11 rfl ?_
  refine i_ctor (As := [.int 24, .int (-1)]) (cf := cfRow E 24 (-1)) hC hsub hP hD hS hA hl.1 (m_X7_init l E 24 (-1) (by decide) _ _) cv_X7_init tw_1_56 rfl rfl ⟨Nat.le_of_ble_eq_true rfl, Nat.le_of_ble_eq_true rfl⟩ ⟨Nat.le_of_ble_eq_true rfl, Nat.le_of_ble_eq_true rfl⟩ (Nat.le_of_ble_eq_true rfl) dX6_init_12 (fun ad12 H locs h12 hP hD hS => ?_)
  rw [← h12]
  have hP : va_P (eD E) vwCl (((b0, .inr (7, [.null, .null, .null, .null, .null, .null, .int 0, .int 0])) :: [] : va_W) ++ pool 2 ad12 (cfRow E 24 (-1) ad12)) H := hP
  have hD : va_D (fre b0 s.heap.size) (((b0, .inr (7, [.null, .null, .null, .null, .null, .null, .int 0, .int 0])) :: [] : va_W) ++ pool 2 ad12 (cfRow E 24 (-1) ad12)) := hD
  refine va_putF hx hb hts in_X6 tyX6 tyX6_ok nmX6 hown hK hP hD hS 0 rfl rfl 0 (by decide) (hts _ tw_1_68) (fun _ h => h) rfl hC.2 rfl rfl rfl rfl (Nat.le_of_ble_eq_true rfl) dX6_init_15 (fun H locs hP hD hS => ?_)
  have hP : va_P (eD E) vwCl (((b0, .inr (7, [.ref (ad12 0), .null, .null, .null, .null, .null, .int 0, .int 0])) :: [] : va_W) ++ pool 2 ad12 (cfRow E 24 (-1) ad12)) H := hP
  have hD : va_D (fre b0 s.heap.size) (((b0, .inr (7, [.ref (ad12 0), .null, .null, .null, .null, .null, .int 0, .int 0])) :: [] : va_W) ++ pool 2 ad12 (cfRow E 24 (-1) ad12)) := hD
  refine lv_aload_n hx hb dX6_init_18 rfl (lv_at hl 0 rfl) ?_
  refine va_new (ci := 8) (fs := [.null]) (C := RX7) (T := TX7) (N := 1) hx hb hts in_X7 tyX7 tyX7_ok hown (hts _ tw_1_54) (hts _ tw_1_55) (hts _ tw_1_4) hK hP hD hS hA rfl (fun j hj => by rcases (show j = 0 by omega) with rfl <;> rfl) (Nat.le_of_ble_eq_true rfl) (Nat.le_of_ble_eq_true rfl) dX6_init_19 (fun q19 H hP hD hS => ?_)
  refine lv_dup hx hb dX6_init_22 rfl ?_
  refine lv_bipush (v := 24) hx hb dX6_init_23 rfl ?_
  refine lv_iconst (v := (-1)) hx hb dX6_init_25 rfl ?_
  refine i_ctor (As := [.int 24, .int (-1)]) (cf := cfRow E 24 (-1)) hC hsub hP hD hS hA hl.1 (m_X7_init l E 24 (-1) (by decide) _ _) cv_X7_init tw_1_56 rfl rfl ⟨Nat.le_of_ble_eq_true rfl, Nat.le_of_ble_eq_true rfl⟩ ⟨Nat.le_of_ble_eq_true rfl, Nat.le_of_ble_eq_true rfl⟩ (Nat.le_of_ble_eq_true rfl) dX6_init_26 (fun ad26 H locs h26 hP hD hS => ?_)
  rw [← h26]
  have hP : va_P (eD E) vwCl ((((b0, .inr (7, [.ref (ad12 0), .null, .null, .null, .null, .null, .int 0, .int 0])) :: [] : va_W) ++ pool 2 ad12 (cfRow E 24 (-1) ad12)) ++ pool 2 ad26 (cfRow E 24 (-1) ad26)) H := hP
  have hD : va_D (fre b0 s.heap.size) ((((b0, .inr (7, [.ref (ad12 0), .null, .null, .null, .null, .null, .int 0, .int 0])) :: [] : va_W) ++ pool 2 ad12 (cfRow E 24 (-1) ad12)) ++ pool 2 ad26 (cfRow E 24 (-1) ad26)) := hD
  refine va_putF hx hb hts in_X6 tyX6 tyX6_ok nmX6 hown hK hP hD hS 0 rfl rfl 1 (by decide) (hts _ tw_1_69) (fun _ h => h) rfl hC.2 rfl rfl rfl rfl (Nat.le_of_ble_eq_true rfl) dX6_init_29 (fun H locs hP hD hS => ?_)
  have hP : va_P (eD E) vwCl ((((b0, .inr (7, [.ref (ad12 0), .ref (ad26 0), .null, .null, .null, .null, .int 0, .int 0])) :: [] : va_W) ++ pool 2 ad12 (cfRow E 24 (-1) ad12)) ++ pool 2 ad26 (cfRow E 24 (-1) ad26)) H := hP
  have hD : va_D (fre b0 s.heap.size) ((((b0, .inr (7, [.ref (ad12 0), .ref (ad26 0), .null, .null, .null, .null, .int 0, .int 0])) :: [] : va_W) ++ pool 2 ad12 (cfRow E 24 (-1) ad12)) ++ pool 2 ad26 (cfRow E 24 (-1) ad26)) := hD
  refine lv_aload_n hx hb dX6_init_32 rfl (lv_at hl 0 rfl) ?_
  refine va_new (ci := 8) (fs := [.null]) (C := RX7) (T := TX7) (N := 1) hx hb hts in_X7 tyX7 tyX7_ok hown (hts _ tw_1_54) (hts _ tw_1_55) (hts _ tw_1_4) hK hP hD hS hA rfl (fun j hj => by rcases (show j = 0 by omega) with rfl <;> rfl) (Nat.le_of_ble_eq_true rfl) (Nat.le_of_ble_eq_true rfl) dX6_init_33 (fun q33 H hP hD hS => ?_)
  refine lv_dup hx hb dX6_init_36 rfl ?_
  refine lv_bipush (v := 24) hx hb dX6_init_37 rfl ?_
  refine lv_iconst (v := 0) hx hb dX6_init_39 rfl ?_
  refine i_ctor (As := [.int 24, .int 0]) (cf := cfRow E 24 0) hC hsub hP hD hS hA hl.1 (m_X7_init l E 24 0 (by decide) _ _) cv_X7_init tw_1_56 rfl rfl ⟨Nat.le_of_ble_eq_true rfl, Nat.le_of_ble_eq_true rfl⟩ ⟨Nat.le_of_ble_eq_true rfl, Nat.le_of_ble_eq_true rfl⟩ (Nat.le_of_ble_eq_true rfl) dX6_init_40 (fun ad40 H locs h40 hP hD hS => ?_)
  rw [← h40]
  have hP : va_P (eD E) vwCl (((((b0, .inr (7, [.ref (ad12 0), .ref (ad26 0), .null, .null, .null, .null, .int 0, .int 0])) :: [] : va_W) ++ pool 2 ad12 (cfRow E 24 (-1) ad12)) ++ pool 2 ad26 (cfRow E 24 (-1) ad26)) ++ pool 2 ad40 (cfRow E 24 0 ad40)) H := hP
  have hD : va_D (fre b0 s.heap.size) (((((b0, .inr (7, [.ref (ad12 0), .ref (ad26 0), .null, .null, .null, .null, .int 0, .int 0])) :: [] : va_W) ++ pool 2 ad12 (cfRow E 24 (-1) ad12)) ++ pool 2 ad26 (cfRow E 24 (-1) ad26)) ++ pool 2 ad40 (cfRow E 24 0 ad40)) := hD
  refine va_putF hx hb hts in_X6 tyX6 tyX6_ok nmX6 hown hK hP hD hS 0 rfl rfl 2 (by decide) (hts _ tw_1_70) (fun _ h => h) rfl hC.2 rfl rfl rfl rfl (Nat.le_of_ble_eq_true rfl) dX6_init_43 (fun H locs hP hD hS => ?_)
  have hP : va_P (eD E) vwCl (((((b0, .inr (7, [.ref (ad12 0), .ref (ad26 0), .ref (ad40 0), .null, .null, .null, .int 0, .int 0])) :: [] : va_W) ++ pool 2 ad12 (cfRow E 24 (-1) ad12)) ++ pool 2 ad26 (cfRow E 24 (-1) ad26)) ++ pool 2 ad40 (cfRow E 24 0 ad40)) H := hP
  have hD : va_D (fre b0 s.heap.size) (((((b0, .inr (7, [.ref (ad12 0), .ref (ad26 0), .ref (ad40 0), .null, .null, .null, .int 0, .int 0])) :: [] : va_W) ++ pool 2 ad12 (cfRow E 24 (-1) ad12)) ++ pool 2 ad26 (cfRow E 24 (-1) ad26)) ++ pool 2 ad40 (cfRow E 24 0 ad40)) := hD
  refine lv_aload_n hx hb dX6_init_46 rfl (lv_at hl 0 rfl) ?_
  refine va_new (ci := 8) (fs := [.null]) (C := RX7) (T := TX7) (N := 1) hx hb hts in_X7 tyX7 tyX7_ok hown (hts _ tw_1_54) (hts _ tw_1_55) (hts _ tw_1_4) hK hP hD hS hA rfl (fun j hj => by rcases (show j = 0 by omega) with rfl <;> rfl) (Nat.le_of_ble_eq_true rfl) (Nat.le_of_ble_eq_true rfl) dX6_init_47 (fun q47 H hP hD hS => ?_)
  refine lv_dup hx hb dX6_init_50 rfl ?_
  refine lv_bipush (v := 24) hx hb dX6_init_51 rfl ?_
  refine lv_iconst (v := 0) hx hb dX6_init_53 rfl ?_
  refine i_ctor (As := [.int 24, .int 0]) (cf := cfRow E 24 0) hC hsub hP hD hS hA hl.1 (m_X7_init l E 24 0 (by decide) _ _) cv_X7_init tw_1_56 rfl rfl ⟨Nat.le_of_ble_eq_true rfl, Nat.le_of_ble_eq_true rfl⟩ ⟨Nat.le_of_ble_eq_true rfl, Nat.le_of_ble_eq_true rfl⟩ (Nat.le_of_ble_eq_true rfl) dX6_init_54 (fun ad54 H locs h54 hP hD hS => ?_)
  rw [← h54]
  have hP : va_P (eD E) vwCl ((((((b0, .inr (7, [.ref (ad12 0), .ref (ad26 0), .ref (ad40 0), .null, .null, .null, .int 0, .int 0])) :: [] : va_W) ++ pool 2 ad12 (cfRow E 24 (-1) ad12)) ++ pool 2 ad26 (cfRow E 24 (-1) ad26)) ++ pool 2 ad40 (cfRow E 24 0 ad40)) ++ pool 2 ad54 (cfRow E 24 0 ad54)) H := hP
  have hD : va_D (fre b0 s.heap.size) ((((((b0, .inr (7, [.ref (ad12 0), .ref (ad26 0), .ref (ad40 0), .null, .null, .null, .int 0, .int 0])) :: [] : va_W) ++ pool 2 ad12 (cfRow E 24 (-1) ad12)) ++ pool 2 ad26 (cfRow E 24 (-1) ad26)) ++ pool 2 ad40 (cfRow E 24 0 ad40)) ++ pool 2 ad54 (cfRow E 24 0 ad54)) := hD
  refine va_putF hx hb hts in_X6 tyX6 tyX6_ok nmX6 hown hK hP hD hS 0 rfl rfl 3 (by decide) (hts _ tw_1_71) (fun _ h => h) rfl hC.2 rfl rfl rfl rfl (Nat.le_of_ble_eq_true rfl) dX6_init_57 (fun H locs hP hD hS => ?_)
  have hP : va_P (eD E) vwCl ((((((b0, .inr (7, [.ref (ad12 0), .ref (ad26 0), .ref (ad40 0), .ref (ad54 0), .null, .null, .int 0, .int 0])) :: [] : va_W) ++ pool 2 ad12 (cfRow E 24 (-1) ad12)) ++ pool 2 ad26 (cfRow E 24 (-1) ad26)) ++ pool 2 ad40 (cfRow E 24 0 ad40)) ++ pool 2 ad54 (cfRow E 24 0 ad54)) H := hP
  have hD : va_D (fre b0 s.heap.size) ((((((b0, .inr (7, [.ref (ad12 0), .ref (ad26 0), .ref (ad40 0), .ref (ad54 0), .null, .null, .int 0, .int 0])) :: [] : va_W) ++ pool 2 ad12 (cfRow E 24 (-1) ad12)) ++ pool 2 ad26 (cfRow E 24 (-1) ad26)) ++ pool 2 ad40 (cfRow E 24 0 ad40)) ++ pool 2 ad54 (cfRow E 24 0 ad54)) := hD
  refine lv_aload_n hx hb dX6_init_60 rfl (lv_at hl 0 rfl) ?_
  refine va_new (ci := 8) (fs := [.null]) (C := RX7) (T := TX7) (N := 1) hx hb hts in_X7 tyX7 tyX7_ok hown (hts _ tw_1_54) (hts _ tw_1_55) (hts _ tw_1_4) hK hP hD hS hA rfl (fun j hj => by rcases (show j = 0 by omega) with rfl <;> rfl) (Nat.le_of_ble_eq_true rfl) (Nat.le_of_ble_eq_true rfl) dX6_init_61 (fun q61 H hP hD hS => ?_)
  refine lv_dup hx hb dX6_init_64 rfl ?_
  refine lv_bipush (v := 24) hx hb dX6_init_65 rfl ?_
  refine lv_iconst (v := 0) hx hb dX6_init_67 rfl ?_
  refine i_setOf hC hP hS hl.1 tw_1_65 ⟨Nat.le_of_ble_eq_true rfl, Nat.le_of_ble_eq_true rfl⟩ ⟨Nat.le_of_ble_eq_true rfl, Nat.le_of_ble_eq_true rfl⟩ (Nat.le_of_ble_eq_true rfl) dX6_init_68 (fun H locs hP hS => ?_)
  refine i_ctor (As := [.int 24, .int 1]) (cf := cfRow E 24 1) hC hsub hP hD hS hA hl.1 (m_X7_init l E 24 1 (by decide) _ _) cv_X7_init tw_1_56 rfl rfl ⟨Nat.le_of_ble_eq_true rfl, Nat.le_of_ble_eq_true rfl⟩ ⟨Nat.le_of_ble_eq_true rfl, Nat.le_of_ble_eq_true rfl⟩ (Nat.le_of_ble_eq_true rfl) dX6_init_71 (fun ad71 H locs h71 hP hD hS => ?_)
  rw [← h71]
  have hP : va_P (eD E) vwCl (((((((b0, .inr (7, [.ref (ad12 0), .ref (ad26 0), .ref (ad40 0), .ref (ad54 0), .null, .null, .int 0, .int 0])) :: [] : va_W) ++ pool 2 ad12 (cfRow E 24 (-1) ad12)) ++ pool 2 ad26 (cfRow E 24 (-1) ad26)) ++ pool 2 ad40 (cfRow E 24 0 ad40)) ++ pool 2 ad54 (cfRow E 24 0 ad54)) ++ pool 2 ad71 (cfRow E 24 1 ad71)) H := hP
  have hD : va_D (fre b0 s.heap.size) (((((((b0, .inr (7, [.ref (ad12 0), .ref (ad26 0), .ref (ad40 0), .ref (ad54 0), .null, .null, .int 0, .int 0])) :: [] : va_W) ++ pool 2 ad12 (cfRow E 24 (-1) ad12)) ++ pool 2 ad26 (cfRow E 24 (-1) ad26)) ++ pool 2 ad40 (cfRow E 24 0 ad40)) ++ pool 2 ad54 (cfRow E 24 0 ad54)) ++ pool 2 ad71 (cfRow E 24 1 ad71)) := hD
  refine va_putF hx hb hts in_X6 tyX6 tyX6_ok nmX6 hown hK hP hD hS 0 rfl rfl 4 (by decide) (hts _ tw_1_72) (fun _ h => h) rfl hC.2 rfl rfl rfl rfl (Nat.le_of_ble_eq_true rfl) dX6_init_74 (fun H locs hP hD hS => ?_)
  have hP : va_P (eD E) vwCl (((((((b0, .inr (7, [.ref (ad12 0), .ref (ad26 0), .ref (ad40 0), .ref (ad54 0), .ref (ad71 0), .null, .int 0, .int 0])) :: [] : va_W) ++ pool 2 ad12 (cfRow E 24 (-1) ad12)) ++ pool 2 ad26 (cfRow E 24 (-1) ad26)) ++ pool 2 ad40 (cfRow E 24 0 ad40)) ++ pool 2 ad54 (cfRow E 24 0 ad54)) ++ pool 2 ad71 (cfRow E 24 1 ad71)) H := hP
  have hD : va_D (fre b0 s.heap.size) (((((((b0, .inr (7, [.ref (ad12 0), .ref (ad26 0), .ref (ad40 0), .ref (ad54 0), .ref (ad71 0), .null, .int 0, .int 0])) :: [] : va_W) ++ pool 2 ad12 (cfRow E 24 (-1) ad12)) ++ pool 2 ad26 (cfRow E 24 (-1) ad26)) ++ pool 2 ad40 (cfRow E 24 0 ad40)) ++ pool 2 ad54 (cfRow E 24 0 ad54)) ++ pool 2 ad71 (cfRow E 24 1 ad71)) := hD
  refine lv_aload_n hx hb dX6_init_77 rfl (lv_at hl 0 rfl) ?_
  refine va_new (ci := 8) (fs := [.null]) (C := RX7) (T := TX7) (N := 1) hx hb hts in_X7 tyX7 tyX7_ok hown (hts _ tw_1_54) (hts _ tw_1_55) (hts _ tw_1_4) hK hP hD hS hA rfl (fun j hj => by rcases (show j = 0 by omega) with rfl <;> rfl) (Nat.le_of_ble_eq_true rfl) (Nat.le_of_ble_eq_true rfl) dX6_init_78 (fun q78 H hP hD hS => ?_)
  refine lv_dup hx hb dX6_init_81 rfl ?_
  refine lv_sipush (v := 192) hx hb dX6_init_82 rfl ?_
  refine lv_bipush (v := 97) hx hb dX6_init_85 rfl ?_
  refine i_ctor (As := [.int 192, .int 97]) (cf := cfRow E 192 97) hC hsub hP hD hS hA hl.1 (m_X7_init l E 192 97 (by decide) _ _) cv_X7_init tw_1_56 rfl rfl ⟨Nat.le_of_ble_eq_true rfl, Nat.le_of_ble_eq_true rfl⟩ ⟨Nat.le_of_ble_eq_true rfl, Nat.le_of_ble_eq_true rfl⟩ (Nat.le_of_ble_eq_true rfl) dX6_init_87 (fun ad87 H locs h87 hP hD hS => ?_)
  rw [← h87]
  have hP : va_P (eD E) vwCl ((((((((b0, .inr (7, [.ref (ad12 0), .ref (ad26 0), .ref (ad40 0), .ref (ad54 0), .ref (ad71 0), .null, .int 0, .int 0])) :: [] : va_W) ++ pool 2 ad12 (cfRow E 24 (-1) ad12)) ++ pool 2 ad26 (cfRow E 24 (-1) ad26)) ++ pool 2 ad40 (cfRow E 24 0 ad40)) ++ pool 2 ad54 (cfRow E 24 0 ad54)) ++ pool 2 ad71 (cfRow E 24 1 ad71)) ++ pool 2 ad87 (cfRow E 192 97 ad87)) H := hP
  have hD : va_D (fre b0 s.heap.size) ((((((((b0, .inr (7, [.ref (ad12 0), .ref (ad26 0), .ref (ad40 0), .ref (ad54 0), .ref (ad71 0), .null, .int 0, .int 0])) :: [] : va_W) ++ pool 2 ad12 (cfRow E 24 (-1) ad12)) ++ pool 2 ad26 (cfRow E 24 (-1) ad26)) ++ pool 2 ad40 (cfRow E 24 0 ad40)) ++ pool 2 ad54 (cfRow E 24 0 ad54)) ++ pool 2 ad71 (cfRow E 24 1 ad71)) ++ pool 2 ad87 (cfRow E 192 97 ad87)) := hD
  refine va_putF hx hb hts in_X6 tyX6 tyX6_ok nmX6 hown hK hP hD hS 0 rfl rfl 5 (by decide) (hts _ tw_1_73) (fun _ h => h) rfl hC.2 rfl rfl rfl rfl (Nat.le_of_ble_eq_true rfl) dX6_init_90 (fun H locs hP hD hS => ?_)
  have hP : va_P (eD E) vwCl ((((((((b0, .inr (7, [.ref (ad12 0), .ref (ad26 0), .ref (ad40 0), .ref (ad54 0), .ref (ad71 0), .ref (ad87 0), .int 0, .int 0])) :: [] : va_W) ++ pool 2 ad12 (cfRow E 24 (-1) ad12)) ++ pool 2 ad26 (cfRow E 24 (-1) ad26)) ++ pool 2 ad40 (cfRow E 24 0 ad40)) ++ pool 2 ad54 (cfRow E 24 0 ad54)) ++ pool 2 ad71 (cfRow E 24 1 ad71)) ++ pool 2 ad87 (cfRow E 192 97 ad87)) H := hP
  have hD : va_D (fre b0 s.heap.size) ((((((((b0, .inr (7, [.ref (ad12 0), .ref (ad26 0), .ref (ad40 0), .ref (ad54 0), .ref (ad71 0), .ref (ad87 0), .int 0, .int 0])) :: [] : va_W) ++ pool 2 ad12 (cfRow E 24 (-1) ad12)) ++ pool 2 ad26 (cfRow E 24 (-1) ad26)) ++ pool 2 ad40 (cfRow E 24 0 ad40)) ++ pool 2 ad54 (cfRow E 24 0 ad54)) ++ pool 2 ad71 (cfRow E 24 1 ad71)) ++ pool 2 ad87 (cfRow E 192 97 ad87)) := hD
  refine lv_aload_n hx hb dX6_init_93 rfl (lv_at hl 0 rfl) ?_
  refine lv_iconst (v := 1) hx hb dX6_init_94 rfl ?_
  refine va_put hx hb hts in_X6 tyX6 tyX6_ok nmX6 hown hK hP hD hS 0 rfl rfl 7 (by decide) (hts _ tw_1_77) (fun _ h => h) rfl rfl rfl rfl (Nat.le_of_ble_eq_true rfl) dX6_init_95 (fun H locs hP hD hS => ?_)
  have hP : va_P (eD E) vwCl ((((((((b0, .inr (7, [.ref (ad12 0), .ref (ad26 0), .ref (ad40 0), .ref (ad54 0), .ref (ad71 0), .ref (ad87 0), .int 0, .int 1])) :: [] : va_W) ++ pool 2 ad12 (cfRow E 24 (-1) ad12)) ++ pool 2 ad26 (cfRow E 24 (-1) ad26)) ++ pool 2 ad40 (cfRow E 24 0 ad40)) ++ pool 2 ad54 (cfRow E 24 0 ad54)) ++ pool 2 ad71 (cfRow E 24 1 ad71)) ++ pool 2 ad87 (cfRow E 192 97 ad87)) H := hP
  have hD : va_D (fre b0 s.heap.size) ((((((((b0, .inr (7, [.ref (ad12 0), .ref (ad26 0), .ref (ad40 0), .ref (ad54 0), .ref (ad71 0), .ref (ad87 0), .int 0, .int 1])) :: [] : va_W) ++ pool 2 ad12 (cfRow E 24 (-1) ad12)) ++ pool 2 ad26 (cfRow E 24 (-1) ad26)) ++ pool 2 ad40 (cfRow E 24 0 ad40)) ++ pool 2 ad54 (cfRow E 24 0 ad54)) ++ pool 2 ad71 (cfRow E 24 1 ad71)) ++ pool 2 ad87 (cfRow E 192 97 ad87)) := hD
  refine x_wid (c2 := 12) (s2 := 318) (Nat.le_of_ble_eq_true rfl) (Nat.le_of_ble_eq_true rfl) ?_
  exact W.vret hx hb hC.1.2.2.2.2.2.2.2.2.2.1 (fun t ht _ => ⟨⟨rfl, fun i => ([b0, ad12 0, ad12 1, ad26 0, ad26 1, ad40 0, ad40 1, ad54 0, ad54 1, ad71 0, ad71 1, ad87 0, ad87 1] : List Nat).getD i 0, rfl, by rw [ht]; exact hP, hD⟩, hS.F ht⟩) hS.2.2 dX6_init_98 hC.1.2.2.2.2.2.2.2.2.2.2.1
theorem dX8_init_0 : decode cX8_init 0 = .ok (.aload_n 0, 1) := by decide +kernel
theorem dX8_init_1 : decode cX8_init 1 = .ok (.invokespecial 3, 3) := by decide +kernel
theorem dX8_init_4 : decode cX8_init 4 = .ok (.aload_n 0, 1) := by decide +kernel
theorem dX8_init_5 : decode cX8_init 5 = .ok (.new 9, 3) := by decide +kernel
theorem dX8_init_8 : decode cX8_init 8 = .ok (.dup, 1) := by decide +kernel
theorem dX8_init_9 : decode cX8_init 9 = .ok (.invokespecial 11, 3) := by decide +kernel
theorem dX8_init_12 : decode cX8_init 12 = .ok (.putfield 12, 3) := by decide +kernel
theorem dX8_init_15 : decode cX8_init 15 = .ok (.aload_n 0, 1) := by decide +kernel
theorem dX8_init_16 : decode cX8_init 16 = .ok (.new 18, 3) := by decide +kernel
theorem dX8_init_19 : decode cX8_init 19 = .ok (.dup, 1) := by decide +kernel
theorem dX8_init_20 : decode cX8_init 20 = .ok (.iconst 5, 1) := by decide +kernel
theorem dX8_init_21 : decode cX8_init 21 = .ok (.iconst 0, 1) := by decide +kernel
theorem dX8_init_22 : decode cX8_init 22 = .ok (.invokespecial 20, 3) := by decide +kernel
theorem dX8_init_25 : decode cX8_init 25 = .ok (.putfield 23, 3) := by decide +kernel
theorem dX8_init_28 : decode cX8_init 28 = .ok (.aload_n 0, 1) := by decide +kernel
theorem dX8_init_29 : decode cX8_init 29 = .ok (.new 18, 3) := by decide +kernel
theorem dX8_init_32 : decode cX8_init 32 = .ok (.dup, 1) := by decide +kernel
theorem dX8_init_33 : decode cX8_init 33 = .ok (.bipush 40, 2) := by decide +kernel
theorem dX8_init_35 : decode cX8_init 35 = .ok (.bipush 97, 2) := by decide +kernel
theorem dX8_init_37 : decode cX8_init 37 = .ok (.invokespecial 20, 3) := by decide +kernel
theorem dX8_init_40 : decode cX8_init 40 = .ok (.putfield 27, 3) := by decide +kernel
theorem dX8_init_43 : decode cX8_init 43 = .ok (.aload_n 0, 1) := by decide +kernel
theorem dX8_init_44 : decode cX8_init 44 = .ok (.new 18, 3) := by decide +kernel
theorem dX8_init_47 : decode cX8_init 47 = .ok (.dup, 1) := by decide +kernel
theorem dX8_init_48 : decode cX8_init 48 = .ok (.bipush 26, 2) := by decide +kernel
theorem dX8_init_50 : decode cX8_init 50 = .ok (.iconst (-1), 1) := by decide +kernel
theorem dX8_init_51 : decode cX8_init 51 = .ok (.invokespecial 20, 3) := by decide +kernel
theorem dX8_init_54 : decode cX8_init 54 = .ok (.putfield 30, 3) := by decide +kernel
theorem dX8_init_57 : decode cX8_init 57 = .ok (.aload_n 0, 1) := by decide +kernel
theorem dX8_init_58 : decode cX8_init 58 = .ok (.iconst 1, 1) := by decide +kernel
theorem dX8_init_59 : decode cX8_init 59 = .ok (.putfield 33, 3) := by decide +kernel
theorem dX8_init_62 : decode cX8_init 62 = .ok (.return_, 1) := by decide +kernel
theorem cv_X8_init : CalI yX8_init cX8_init 1 0 := ⟨⟨⟨by decide +kernel, by decide +kernel⟩, tw_1_2, tw_1_46, by decide +kernel⟩, rfl, tw_1_45⟩
set_option maxRecDepth 100000 in
set_option maxHeartbeats 4000000 in
theorem m_X8_init (l : Launch) (E : En) (sz b0 : Nat) : MI l E yX8_init cX8_init 1 3 19 400 sz b0 [] 9 [.null, .null, .null, .null, .int 0] 20 (cfSt E) := by
  refine entI (E := E) "LetterRepository$Store" (by decide +kernel) rfl rfl (Nat.le_of_ble_eq_true rfl) ?_
  intro p e s m below meth c ls hC hsub hP hD hS hl
  have hx := hC.1.1
  have hb := hC.1.2.1
  have hts := hC.1.2.2.2.2.1
  have hown := hC.1.2.2.2.1
  have hK := hC.1.2.2.2.2.2.1
  have hA : ∀ q, s.heap.size ≤ q → fre b0 s.heap.size q := fun q h => .inr h
  have hl : lv_has ls 1 [(0, .ref b0)] := hl
  refine lv_aload_n hx hb dX8_init_0 rfl (lv_at hl 0 rfl) ?_
  refine i_obj hC hl.1 tw_1_47 ⟨Nat.le_of_ble_eq_true rfl, Nat.le_of_ble_eq_true rfl⟩ dX8_init_1 ?_
  refine lv_aload_n hx hb dX8_init_4 rfl (lv_at hl 0 rfl) ?_
  refine va_new (ci := 7) (fs := [.null, .null, .null, .null, .null, .null, .int 0, .int 0]) (C := RX6) (T := TX6) (N := 8) hx hb hts in_X6 tyX6 tyX6_ok hown (hts _ tw_1_48) (hts _ tw_1_49) (hts _ tw_1_3) hK hP hD hS hA rfl (fun j hj => by rcases (show j = 0 ∨ j = 1 ∨ j = 2 ∨ j = 3 ∨ j = 4 ∨ j = 5 ∨ j = 6 ∨ j = 7 by omega) with rfl | rfl | rfl | rfl | rfl | rfl | rfl | rfl <;> rfl) (Nat.le_of_ble_eq_true rfl) (Nat.le_of_ble_eq_true rfl) dX8_init_5 (fun q5 H hP hD hS => ?_)
  refine lv_dup hx hb dX8_init_8 rfl ?_
  refine i_ctorN (As := []) (cf := cfRev E) hC hsub hP hD hS hA hl.1 (m_X6_init l E _ _) cv_X6_init tw_1_50 rfl rfl ⟨Nat.le_of_ble_eq_true rfl, Nat.le_of_ble_eq_true rfl⟩ ⟨Nat.le_of_ble_eq_true rfl, Nat.le_of_ble_eq_true rfl⟩ (Nat.le_of_ble_eq_true rfl) dX8_init_9 (fun ad9 H locs h9 hP hD hS => ?_)
  rw [← h9]
  have hP : va_P (eD E) vwCl (((b0, .inr (9, [.null, .null, .null, .null, .int 0])) :: [] : va_W) ++ pool 13 ad9 (cfRev E ad9)) H := hP
  have hD : va_D (fre b0 s.heap.size) (((b0, .inr (9, [.null, .null, .null, .null, .int 0])) :: [] : va_W) ++ pool 13 ad9 (cfRev E ad9)) := hD
  refine va_putF hx hb hts in_X8 tyX8 tyX8_ok nmX8 hown hK hP hD hS 0 rfl rfl 0 (by decide) (hts _ tw_1_99) (fun _ h => h) rfl hC.2 rfl rfl rfl rfl (Nat.le_of_ble_eq_true rfl) dX8_init_12 (fun H locs hP hD hS => ?_)
  have hP : va_P (eD E) vwCl (((b0, .inr (9, [.ref (ad9 0), .null, .null, .null, .int 0])) :: [] : va_W) ++ pool 13 ad9 (cfRev E ad9)) H := hP
  have hD : va_D (fre b0 s.heap.size) (((b0, .inr (9, [.ref (ad9 0), .null, .null, .null, .int 0])) :: [] : va_W) ++ pool 13 ad9 (cfRev E ad9)) := hD
  refine lv_aload_n hx hb dX8_init_15 rfl (lv_at hl 0 rfl) ?_
  refine va_new (ci := 8) (fs := [.null]) (C := RX7) (T := TX7) (N := 1) hx hb hts in_X7 tyX7 tyX7_ok hown (hts _ tw_1_97) (hts _ tw_1_55) (hts _ tw_1_4) hK hP hD hS hA rfl (fun j hj => by rcases (show j = 0 by omega) with rfl <;> rfl) (Nat.le_of_ble_eq_true rfl) (Nat.le_of_ble_eq_true rfl) dX8_init_16 (fun q16 H hP hD hS => ?_)
  refine lv_dup hx hb dX8_init_19 rfl ?_
  refine lv_iconst (v := 5) hx hb dX8_init_20 rfl ?_
  refine lv_iconst (v := 0) hx hb dX8_init_21 rfl ?_
  refine i_ctor (As := [.int 5, .int 0]) (cf := cfRow E 5 0) hC hsub hP hD hS hA hl.1 (m_X7_init l E 5 0 (by decide) _ _) cv_X7_init tw_1_98 rfl rfl ⟨Nat.le_of_ble_eq_true rfl, Nat.le_of_ble_eq_true rfl⟩ ⟨Nat.le_of_ble_eq_true rfl, Nat.le_of_ble_eq_true rfl⟩ (Nat.le_of_ble_eq_true rfl) dX8_init_22 (fun ad22 H locs h22 hP hD hS => ?_)
  rw [← h22]
  have hP : va_P (eD E) vwCl ((((b0, .inr (9, [.ref (ad9 0), .null, .null, .null, .int 0])) :: [] : va_W) ++ pool 13 ad9 (cfRev E ad9)) ++ pool 2 ad22 (cfRow E 5 0 ad22)) H := hP
  have hD : va_D (fre b0 s.heap.size) ((((b0, .inr (9, [.ref (ad9 0), .null, .null, .null, .int 0])) :: [] : va_W) ++ pool 13 ad9 (cfRev E ad9)) ++ pool 2 ad22 (cfRow E 5 0 ad22)) := hD
  refine va_putF hx hb hts in_X8 tyX8 tyX8_ok nmX8 hown hK hP hD hS 0 rfl rfl 1 (by decide) (hts _ tw_1_101) (fun _ h => h) rfl hC.2 rfl rfl rfl rfl (Nat.le_of_ble_eq_true rfl) dX8_init_25 (fun H locs hP hD hS => ?_)
  have hP : va_P (eD E) vwCl ((((b0, .inr (9, [.ref (ad9 0), .ref (ad22 0), .null, .null, .int 0])) :: [] : va_W) ++ pool 13 ad9 (cfRev E ad9)) ++ pool 2 ad22 (cfRow E 5 0 ad22)) H := hP
  have hD : va_D (fre b0 s.heap.size) ((((b0, .inr (9, [.ref (ad9 0), .ref (ad22 0), .null, .null, .int 0])) :: [] : va_W) ++ pool 13 ad9 (cfRev E ad9)) ++ pool 2 ad22 (cfRow E 5 0 ad22)) := hD
  refine lv_aload_n hx hb dX8_init_28 rfl (lv_at hl 0 rfl) ?_
  refine va_new (ci := 8) (fs := [.null]) (C := RX7) (T := TX7) (N := 1) hx hb hts in_X7 tyX7 tyX7_ok hown (hts _ tw_1_97) (hts _ tw_1_55) (hts _ tw_1_4) hK hP hD hS hA rfl (fun j hj => by rcases (show j = 0 by omega) with rfl <;> rfl) (Nat.le_of_ble_eq_true rfl) (Nat.le_of_ble_eq_true rfl) dX8_init_29 (fun q29 H hP hD hS => ?_)
  refine lv_dup hx hb dX8_init_32 rfl ?_
  refine lv_bipush (v := 40) hx hb dX8_init_33 rfl ?_
  refine lv_bipush (v := 97) hx hb dX8_init_35 rfl ?_
  refine i_ctor (As := [.int 40, .int 97]) (cf := cfRow E 40 97) hC hsub hP hD hS hA hl.1 (m_X7_init l E 40 97 (by decide) _ _) cv_X7_init tw_1_98 rfl rfl ⟨Nat.le_of_ble_eq_true rfl, Nat.le_of_ble_eq_true rfl⟩ ⟨Nat.le_of_ble_eq_true rfl, Nat.le_of_ble_eq_true rfl⟩ (Nat.le_of_ble_eq_true rfl) dX8_init_37 (fun ad37 H locs h37 hP hD hS => ?_)
  rw [← h37]
  have hP : va_P (eD E) vwCl (((((b0, .inr (9, [.ref (ad9 0), .ref (ad22 0), .null, .null, .int 0])) :: [] : va_W) ++ pool 13 ad9 (cfRev E ad9)) ++ pool 2 ad22 (cfRow E 5 0 ad22)) ++ pool 2 ad37 (cfRow E 40 97 ad37)) H := hP
  have hD : va_D (fre b0 s.heap.size) (((((b0, .inr (9, [.ref (ad9 0), .ref (ad22 0), .null, .null, .int 0])) :: [] : va_W) ++ pool 13 ad9 (cfRev E ad9)) ++ pool 2 ad22 (cfRow E 5 0 ad22)) ++ pool 2 ad37 (cfRow E 40 97 ad37)) := hD
  refine va_putF hx hb hts in_X8 tyX8 tyX8_ok nmX8 hown hK hP hD hS 0 rfl rfl 2 (by decide) (hts _ tw_1_102) (fun _ h => h) rfl hC.2 rfl rfl rfl rfl (Nat.le_of_ble_eq_true rfl) dX8_init_40 (fun H locs hP hD hS => ?_)
  have hP : va_P (eD E) vwCl (((((b0, .inr (9, [.ref (ad9 0), .ref (ad22 0), .ref (ad37 0), .null, .int 0])) :: [] : va_W) ++ pool 13 ad9 (cfRev E ad9)) ++ pool 2 ad22 (cfRow E 5 0 ad22)) ++ pool 2 ad37 (cfRow E 40 97 ad37)) H := hP
  have hD : va_D (fre b0 s.heap.size) (((((b0, .inr (9, [.ref (ad9 0), .ref (ad22 0), .ref (ad37 0), .null, .int 0])) :: [] : va_W) ++ pool 13 ad9 (cfRev E ad9)) ++ pool 2 ad22 (cfRow E 5 0 ad22)) ++ pool 2 ad37 (cfRow E 40 97 ad37)) := hD
  refine lv_aload_n hx hb dX8_init_43 rfl (lv_at hl 0 rfl) ?_
  refine va_new (ci := 8) (fs := [.null]) (C := RX7) (T := TX7) (N := 1) hx hb hts in_X7 tyX7 tyX7_ok hown (hts _ tw_1_97) (hts _ tw_1_55) (hts _ tw_1_4) hK hP hD hS hA rfl (fun j hj => by rcases (show j = 0 by omega) with rfl <;> rfl) (Nat.le_of_ble_eq_true rfl) (Nat.le_of_ble_eq_true rfl) dX8_init_44 (fun q44 H hP hD hS => ?_)
  refine lv_dup hx hb dX8_init_47 rfl ?_
  refine lv_bipush (v := 26) hx hb dX8_init_48 rfl ?_
  refine lv_iconst (v := (-1)) hx hb dX8_init_50 rfl ?_
  refine i_ctor (As := [.int 26, .int (-1)]) (cf := cfRow E 26 (-1)) hC hsub hP hD hS hA hl.1 (m_X7_init l E 26 (-1) (by decide) _ _) cv_X7_init tw_1_98 rfl rfl ⟨Nat.le_of_ble_eq_true rfl, Nat.le_of_ble_eq_true rfl⟩ ⟨Nat.le_of_ble_eq_true rfl, Nat.le_of_ble_eq_true rfl⟩ (Nat.le_of_ble_eq_true rfl) dX8_init_51 (fun ad51 H locs h51 hP hD hS => ?_)
  rw [← h51]
  have hP : va_P (eD E) vwCl ((((((b0, .inr (9, [.ref (ad9 0), .ref (ad22 0), .ref (ad37 0), .null, .int 0])) :: [] : va_W) ++ pool 13 ad9 (cfRev E ad9)) ++ pool 2 ad22 (cfRow E 5 0 ad22)) ++ pool 2 ad37 (cfRow E 40 97 ad37)) ++ pool 2 ad51 (cfRow E 26 (-1) ad51)) H := hP
  have hD : va_D (fre b0 s.heap.size) ((((((b0, .inr (9, [.ref (ad9 0), .ref (ad22 0), .ref (ad37 0), .null, .int 0])) :: [] : va_W) ++ pool 13 ad9 (cfRev E ad9)) ++ pool 2 ad22 (cfRow E 5 0 ad22)) ++ pool 2 ad37 (cfRow E 40 97 ad37)) ++ pool 2 ad51 (cfRow E 26 (-1) ad51)) := hD
  refine va_putF hx hb hts in_X8 tyX8 tyX8_ok nmX8 hown hK hP hD hS 0 rfl rfl 3 (by decide) (hts _ tw_1_103) (fun _ h => h) rfl hC.2 rfl rfl rfl rfl (Nat.le_of_ble_eq_true rfl) dX8_init_54 (fun H locs hP hD hS => ?_)
  have hP : va_P (eD E) vwCl ((((((b0, .inr (9, [.ref (ad9 0), .ref (ad22 0), .ref (ad37 0), .ref (ad51 0), .int 0])) :: [] : va_W) ++ pool 13 ad9 (cfRev E ad9)) ++ pool 2 ad22 (cfRow E 5 0 ad22)) ++ pool 2 ad37 (cfRow E 40 97 ad37)) ++ pool 2 ad51 (cfRow E 26 (-1) ad51)) H := hP
  have hD : va_D (fre b0 s.heap.size) ((((((b0, .inr (9, [.ref (ad9 0), .ref (ad22 0), .ref (ad37 0), .ref (ad51 0), .int 0])) :: [] : va_W) ++ pool 13 ad9 (cfRev E ad9)) ++ pool 2 ad22 (cfRow E 5 0 ad22)) ++ pool 2 ad37 (cfRow E 40 97 ad37)) ++ pool 2 ad51 (cfRow E 26 (-1) ad51)) := hD
  refine lv_aload_n hx hb dX8_init_57 rfl (lv_at hl 0 rfl) ?_
  refine lv_iconst (v := 1) hx hb dX8_init_58 rfl ?_
  refine va_put hx hb hts in_X8 tyX8 tyX8_ok nmX8 hown hK hP hD hS 0 rfl rfl 4 (by decide) (hts _ tw_1_104) (fun _ h => h) rfl rfl rfl rfl (Nat.le_of_ble_eq_true rfl) dX8_init_59 (fun H locs hP hD hS => ?_)
  have hP : va_P (eD E) vwCl ((((((b0, .inr (9, [.ref (ad9 0), .ref (ad22 0), .ref (ad37 0), .ref (ad51 0), .int 1])) :: [] : va_W) ++ pool 13 ad9 (cfRev E ad9)) ++ pool 2 ad22 (cfRow E 5 0 ad22)) ++ pool 2 ad37 (cfRow E 40 97 ad37)) ++ pool 2 ad51 (cfRow E 26 (-1) ad51)) H := hP
  have hD : va_D (fre b0 s.heap.size) ((((((b0, .inr (9, [.ref (ad9 0), .ref (ad22 0), .ref (ad37 0), .ref (ad51 0), .int 1])) :: [] : va_W) ++ pool 13 ad9 (cfRev E ad9)) ++ pool 2 ad22 (cfRow E 5 0 ad22)) ++ pool 2 ad37 (cfRow E 40 97 ad37)) ++ pool 2 ad51 (cfRow E 26 (-1) ad51)) := hD
  refine x_wid (c2 := 19) (s2 := 400) (Nat.le_of_ble_eq_true rfl) (Nat.le_of_ble_eq_true rfl) ?_
  exact W.vret hx hb hC.1.2.2.2.2.2.2.2.2.2.1 (fun t ht _ => ⟨⟨rfl, fun i => ([b0, ad9 0, ad9 1, ad9 2, ad9 3, ad9 4, ad9 5, ad9 6, ad9 7, ad9 8, ad9 9, ad9 10, ad9 11, ad9 12, ad22 0, ad22 1, ad37 0, ad37 1, ad51 0, ad51 1] : List Nat).getD i 0, rfl, by rw [ht]; exact hP, hD⟩, hS.F ht⟩) hS.2.2 dX8_init_62 hC.1.2.2.2.2.2.2.2.2.2.2.1
theorem dX1_init_0 : decode cX1_init 0 = .ok (.aload_n 0, 1) := by decide +kernel
theorem dX1_init_1 : decode cX1_init 1 = .ok (.invokespecial 3, 3) := by decide +kernel
theorem dX1_init_4 : decode cX1_init 4 = .ok (.aload_n 0, 1) := by decide +kernel
theorem dX1_init_5 : decode cX1_init 5 = .ok (.new 9, 3) := by decide +kernel
theorem dX1_init_8 : decode cX1_init 8 = .ok (.dup, 1) := by decide +kernel
theorem dX1_init_9 : decode cX1_init 9 = .ok (.iconst 3, 1) := by decide +kernel
theorem dX1_init_10 : decode cX1_init 10 = .ok (.iconst 0, 1) := by decide +kernel
theorem dX1_init_11 : decode cX1_init 11 = .ok (.invokespecial 11, 3) := by decide +kernel
theorem dX1_init_14 : decode cX1_init 14 = .ok (.putfield 14, 3) := by decide +kernel
theorem dX1_init_17 : decode cX1_init 17 = .ok (.aload_n 0, 1) := by decide +kernel
theorem dX1_init_18 : decode cX1_init 18 = .ok (.getstatic 20, 3) := by decide +kernel
theorem dX1_init_21 : decode cX1_init 21 = .ok (.putfield 26, 3) := by decide +kernel
theorem dX1_init_24 : decode cX1_init 24 = .ok (.return_, 1) := by decide +kernel
theorem cv_X1_init : CalI yX1_init cX1_init 1 0 := ⟨⟨⟨by decide +kernel, by decide +kernel⟩, tw_1_7, tw_1_148, by decide +kernel⟩, rfl, tw_1_147⟩
set_option maxRecDepth 100000 in
set_option maxHeartbeats 4000000 in
theorem m_X1_init (l : Launch) (E : En) (hS0 : SF E) (sz b0 : Nat) : MI l E yX1_init cX1_init 1 2 2 4 sz b0 [] 4 [.null, .null, .int 0] 3 (cfCm E) := by
  refine entI (E := E) "LetterRepository$Command" (by decide +kernel) rfl rfl (Nat.le_of_ble_eq_true rfl) ?_
  intro p e s m below meth c ls hC hsub hP hD hS hl
  have hx := hC.1.1
  have hb := hC.1.2.1
  have hts := hC.1.2.2.2.2.1
  have hown := hC.1.2.2.2.1
  have hK := hC.1.2.2.2.2.2.1
  have hA : ∀ q, s.heap.size ≤ q → fre b0 s.heap.size q := fun q h => .inr h
  have hl : lv_has ls 1 [(0, .ref b0)] := hl
  refine lv_aload_n hx hb dX1_init_0 rfl (lv_at hl 0 rfl) ?_
  refine i_obj hC hl.1 tw_1_149 ⟨Nat.le_of_ble_eq_true rfl, Nat.le_of_ble_eq_true rfl⟩ dX1_init_1 ?_
  refine lv_aload_n hx hb dX1_init_4 rfl (lv_at hl 0 rfl) ?_
  refine va_new (ci := 8) (fs := [.null]) (C := RX7) (T := TX7) (N := 1) hx hb hts in_X7 tyX7 tyX7_ok hown (hts _ tw_1_150) (hts _ tw_1_55) (hts _ tw_1_4) hK hP hD hS hA rfl (fun j hj => by rcases (show j = 0 by omega) with rfl <;> rfl) (Nat.le_of_ble_eq_true rfl) (Nat.le_of_ble_eq_true rfl) dX1_init_5 (fun q5 H hP hD hS => ?_)
  refine lv_dup hx hb dX1_init_8 rfl ?_
  refine lv_iconst (v := 3) hx hb dX1_init_9 rfl ?_
  refine lv_iconst (v := 0) hx hb dX1_init_10 rfl ?_
  refine i_ctor (As := [.int 3, .int 0]) (cf := cfRow E 3 0) hC hsub hP hD hS hA hl.1 (m_X7_init l E 3 0 (by decide) _ _) cv_X7_init tw_1_151 rfl rfl ⟨Nat.le_of_ble_eq_true rfl, Nat.le_of_ble_eq_true rfl⟩ ⟨Nat.le_of_ble_eq_true rfl, Nat.le_of_ble_eq_true rfl⟩ (Nat.le_of_ble_eq_true rfl) dX1_init_11 (fun ad11 H locs h11 hP hD hS => ?_)
  rw [← h11]
  have hP : va_P (eD E) vwCl (((b0, .inr (4, [.null, .null, .int 0])) :: [] : va_W) ++ pool 2 ad11 (cfRow E 3 0 ad11)) H := hP
  have hD : va_D (fre b0 s.heap.size) (((b0, .inr (4, [.null, .null, .int 0])) :: [] : va_W) ++ pool 2 ad11 (cfRow E 3 0 ad11)) := hD
  refine va_putF hx hb hts in_X1 tyX1 tyX1_ok nmX1 hown hK hP hD hS 0 rfl rfl 0 (by decide) (hts _ tw_1_154) (fun _ h => h) rfl hC.2 rfl rfl rfl rfl (Nat.le_of_ble_eq_true rfl) dX1_init_14 (fun H locs hP hD hS => ?_)
  have hP : va_P (eD E) vwCl (((b0, .inr (4, [.ref (ad11 0), .null, .int 0])) :: [] : va_W) ++ pool 2 ad11 (cfRow E 3 0 ad11)) H := hP
  have hD : va_D (fre b0 s.heap.size) (((b0, .inr (4, [.ref (ad11 0), .null, .int 0])) :: [] : va_W) ++ pool 2 ad11 (cfRow E 3 0 ad11)) := hD
  refine lv_aload_n hx hb dX1_init_17 rfl (lv_at hl 0 rfl) ?_
  refine va_gets hx hb ((sfK hS0 hC.1).1 12 (by decide)).1 (va_S.mono hsub hS) hown (hts _ tw_1_152) (fun _ h => h) dX1_init_18 ?_
  refine va_put hx hb hts in_X1 tyX1 tyX1_ok nmX1 hown hK hP hD hS 0 rfl rfl 1 (by decide) (hts _ tw_1_155) (fun _ h => h) rfl rfl rfl rfl (Nat.le_of_ble_eq_true rfl) dX1_init_21 (fun H locs hP hD hS => ?_)
  have hP : va_P (eD E) vwCl (((b0, .inr (4, [.ref (ad11 0), .ref (eK E 12), .int 0])) :: [] : va_W) ++ pool 2 ad11 (cfRow E 3 0 ad11)) H := hP
  have hD : va_D (fre b0 s.heap.size) (((b0, .inr (4, [.ref (ad11 0), .ref (eK E 12), .int 0])) :: [] : va_W) ++ pool 2 ad11 (cfRow E 3 0 ad11)) := hD
  refine x_wid (c2 := 2) (s2 := 4) (Nat.le_of_ble_eq_true rfl) (Nat.le_of_ble_eq_true rfl) ?_
  exact W.vret hx hb hC.1.2.2.2.2.2.2.2.2.2.1 (fun t ht _ => ⟨⟨rfl, fun i => ([b0, ad11 0, ad11 1] : List Nat).getD i 0, rfl, by rw [ht]; exact hP, hD⟩, hS.F ht⟩) hS.2.2 dX1_init_24 hC.1.2.2.2.2.2.2.2.2.2.2.1
end R098
