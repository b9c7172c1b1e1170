section R098
variable {p : Program} {l : Launch} {e : Env} {R : Room} {s : State} {m : MethodId} {args : Array Value} {below : List Frame} {meth : Method} {c : Code} {H : Heap} {locs : List Loc} {cells slots : Nat} {Q : State → Prop}
variable {E : En} {ad sa : Nat → Nat} {ow : String} {b : ByteArray} {n index : Nat} {ret : Option FieldType} {pc : Nat} {ls : Array Slot} {rest : List Value} {A : Nat → Prop} {ws : va_W}
def rowV (N : Nat) (v : Int32) : Nat → Int32 := fun j => if j < N then v else 0
def cfRow (E : En) (N : Nat) (v : Int32) (ad : Nat → Nat) (i : Nat) : va_E := if i = 0 then .inr (8, [.ref (ad 1)]) else .inl (eC E 0, N, .inl (rowV N v))
/-- what a new store holds -/
def V0st (i : Nat) : Nat → Int32 := if i = 0 then (fun j => if j = 0 then 1 else 0) else if i = 1 then (fun j => if j = 1 then 1 else 0) else if i = 3 then rowV 24 (-1) else if i = 5 then rowV 24 (-1) else if i = 7 then rowV 24 0 else if i = 9 then rowV 24 0 else if i = 11 then rowV 24 1 else if i = 13 then rowV 192 97 else if i = 15 then rowV 5 0 else if i = 17 then rowV 40 97 else if i = 19 then rowV 26 (-1) else fun _ => 0
def cfRev (E : En) (ad : Nat → Nat) (i : Nat) : va_E := stCell E (fun j => ad (j - 1)) 0 (i + 1) (V0st (i + 1))
def cfSt (E : En) (ad : Nat → Nat) (i : Nat) : va_E := stCell E ad 0 i (V0st i)
def V0cm (i : Nat) : Nat → Int32 := if i = 0 then (fun j => if j = 1 then 12 else 0) else if i = 2 then rowV 3 0 else fun _ => 0
def cfCm (E : En) (ad : Nat → Nat) (i : Nat) : va_E := cmCell E ad 0 i (V0cm i)
def cfTx (E : En) (ad : Nat → Nat) (i : Nat) : va_E := if i = 0 then .inr (1, [.ref (ad 1), .int 0, .int 0, .int 0]) else .inl (eC E 1, 16, .inl (fun _ => 0))
theorem va_S.mono {A B : Nat → Prop} {H0 H : Heap} {locs : List Loc} (h : ∀ q, A q → B q) (hS : va_S A H0 H locs) : va_S B H0 H locs := ⟨hS.1, fun q h1 h2 => hS.2.1 q h1 (fun h3 => h2 (h q h3)), fun z hz => h _ (hS.2.2 z hz)⟩

theorem m_setOf0 (l : Launch) : Met l yX9_setOf (.code yX9_setOf cX9_setOf 1 (some .int) :: TB) (rmd 1) (va_Pc [.int 0] (fun _ => True)) (fun _ st oc t => oc = .returned (some (.int 1)) ∧ t.heap = st.heap) 0 0 (fun _ => False) := by
  refine Met.ofW (cc := cX9_setOf) (maxL := 1) (ret := some .int) (by decide +kernel) rfl ?_
  intro p e s m args below meth c s₁ B hml hv
  obtain ⟨rfl, -⟩ := hv
  have hx := B.exec
  have hb := B.bytes
  have hl := lv_entry ([.int 0]) (n := 1) (Nat.le_of_ble_eq_true rfl)
  rw [lg_entry_eq]
  generalize (lg_sl ([.int 0]) ++ List.replicate (1 - (lg_sl ([.int 0])).length) Slot.unset).toArray = ls at hl ⊢
  have hl : lv_has ls 1 [(0, .int 0)] := hl
  refine lv_iload_n hx hb dX9_setOf_0 rfl (lv_at hl 0 rfl) ?_
  refine lv_if_lt (tgt := 16) hx hb dX9_setOf_1 (by decide) (fun h => absurd h (by decide)) (fun _ => ?_)
  refine lv_iload_n hx hb dX9_setOf_4 rfl (lv_at hl 0 rfl) ?_
  refine lv_bipush (v := 24) hx hb dX9_setOf_5 rfl ?_
  refine lv_icmp_ge (tgt := 16) hx hb dX9_setOf_7 (by decide) (fun h => absurd h (by decide)) (fun _ => ?_)
  refine lv_iconst (v := 1) hx hb dX9_setOf_10 rfl ?_
  refine lv_iload_n hx hb dX9_setOf_11 rfl (lv_at hl 0 rfl) ?_
  refine lv_ishl hx hb dX9_setOf_12 ?_
  refine lv_goto (tgt := 17) hx hb dX9_setOf_13 (by decide) ?_
  rw [show ((1 : Int32) <<< ((0 : Int32) &&& 31)) = 1 by decide]
  exact W.iret hx hb B.returns (fun t ht _ => ⟨rfl, ht⟩) (fun q hq => nomatch hq) dX9_setOf_17 B.notSynchronized
theorem i_setOf {host : String} {A : Nat → Prop} (hC : CI p s m args c meth E ow b n) (hP : va_P (eD E) vwCl ws H) (hS : va_S A s.heap H locs) (hsz : ls.size = n) (hl : Cond.methodLinkNest ow index yX9_setOf host ∈ NB) (hR : 1 + 1 ≤ R.frames ∧ 8 + (1 + 11) + 40 * 1 ≤ R.locals) (hcs : cells ≤ R.cells ∧ slots ≤ R.slots) (hw : (rest.map fun v => v.category).sum ≤ 8) (hdg : decode b pc = .ok (.invokestatic index, 3))
    (kk : ∀ (H1 : Heap) (locs1 : List Loc), va_P (eD E) vwCl ws H1 → va_S A s.heap H1 locs1 → W p l e R s m args below meth c H1 locs1 cells slots Q (F0 m (pc + 3) ls (.int 1 :: rest))) : W p l e R s m args below meth c H locs cells slots Q (F0 m pc ls (.int 0 :: rest)) := by
  have ht := hC.1.2.2.2.2.1
  have hr := va_runSN (meth := meth) (H := H) (locs := locs) (below := below) (e := e) (host := host) (Ts := TB) (As := [.int 0]) (rest := rest) (g := F0 m pc ls (.int 0 :: rest)) ⟨hC.1.1, hC.1.2.1, hC.1.2.2.1, hC.1.2.2.2.1, ht⟩ (m_setOf0 l) ⟨callN_tb (R := R) (na := 1) hC.1 cv_X9_setOf.1 hl rfl rfl hR, ht _ cv_X9_setOf.2, trivial⟩ ⟨fun a U g mk q => ⟨q.1, trivial⟩, fun U hU hW => ⟨rfl, trivial⟩⟩ rfl rfl hsz rfl (lv_room (rest := _) (ls := ls) (pc := pc) (m := m) hw) hdg hcs
  intro T hT X
  obtain ⟨w, st₀, t, T', L, h0, X', hL, e1, e2, ⟨hv, hh⟩, st⟩ := hr T hT X
  cases hv
  have hH : T'.heap = H := e1.trans (hh.trans h0)
  obtain ⟨t2, a1, b1⟩ := kk T'.heap (locs ++ L) (by rw [hH]; exact hP) (by rw [hH]; exact ⟨hS.1, hS.2.1, fun z hz => by
    rcases List.mem_append.mp hz with h | h
    · exact hS.2.2 z h
    · exact (hL z h).elim⟩) T' rfl X'
  exact ⟨t2, st t2 a1, b1⟩
theorem dX7_init_0 : decode cX7_init 0 = .ok (.aload_n 0, 1) := by decide +kernel
theorem dX7_init_1 : decode cX7_init 1 = .ok (.invokespecial 3, 3) := by decide +kernel
theorem dX7_init_4 : decode cX7_init 4 = .ok (.aload_n 0, 1) := by decide +kernel
theorem dX7_init_5 : decode cX7_init 5 = .ok (.iload_n 1, 1) := by decide +kernel
theorem dX7_init_6 : decode cX7_init 6 = .ok (.ifCond .ge 7, 3) := by decide +kernel
theorem dX7_init_9 : decode cX7_init 9 = .ok (.iconst 0, 1) := by decide +kernel
theorem dX7_init_10 : decode cX7_init 10 = .ok (.goto 4, 3) := by decide +kernel
theorem dX7_init_13 : decode cX7_init 13 = .ok (.iload_n 1, 1) := by decide +kernel
theorem dX7_init_14 : decode cX7_init 14 = .ok (.newarray .int, 2) := by decide +kernel
theorem dX7_init_16 : decode cX7_init 16 = .ok (.putfield 9, 3) := by decide +kernel
theorem dX7_init_19 : decode cX7_init 19 = .ok (.iconst 0, 1) := by decide +kernel
theorem dX7_init_20 : decode cX7_init 20 = .ok (.istore_n 3, 1) := by decide +kernel
theorem dX7_init_21 : decode cX7_init 21 = .ok (.iload_n 3, 1) := by decide +kernel
theorem dX7_init_22 : decode cX7_init 22 = .ok (.aload_n 0, 1) := by decide +kernel
theorem dX7_init_23 : decode cX7_init 23 = .ok (.getfield 9, 3) := by decide +kernel
theorem dX7_init_26 : decode cX7_init 26 = .ok (.arraylength, 1) := by decide +kernel
theorem dX7_init_27 : decode cX7_init 27 = .ok (.if_icmp .ge 16, 3) := by decide +kernel
theorem dX7_init_30 : decode cX7_init 30 = .ok (.aload_n 0, 1) := by decide +kernel
theorem dX7_init_31 : decode cX7_init 31 = .ok (.getfield 9, 3) := by decide +kernel
theorem dX7_init_34 : decode cX7_init 34 = .ok (.iload_n 3, 1) := by decide +kernel
theorem dX7_init_35 : decode cX7_init 35 = .ok (.iload_n 2, 1) := by decide +kernel
theorem dX7_init_36 : decode cX7_init 36 = .ok (.iastore, 1) := by decide +kernel
theorem dX7_init_37 : decode cX7_init 37 = .ok (.iinc 3 1, 3) := by decide +kernel
theorem dX7_init_40 : decode cX7_init 40 = .ok (.goto (-19), 3) := by decide +kernel
theorem dX7_init_43 : decode cX7_init 43 = .ok (.return_, 1) := by decide +kernel
theorem cv_X7_init : CalI yX7_init cX7_init 4 2 := ⟨⟨⟨by decide +kernel, by decide +kernel⟩, tw_1_4, tw_1_58, by decide +kernel⟩, rfl, tw_1_57⟩
set_option maxRecDepth 100000 in
set_option maxHeartbeats 4000000 in
theorem m_X7_init (l : Launch) (E : En) (N : Nat) (v : Int32) (hN : N < 2 ^ 20) (sz b0 : Nat) : MI l E yX7_init cX7_init 4 1 1 N sz b0 [.int (nI N), .int v] 8 [.null] 2 (cfRow E N v) := by
  refine entI (E := E) "LetterRepository$Row" (by decide +kernel) rfl rfl (Nat.le_of_ble_eq_true rfl) ?_
  intro p e s m below meth c ls hC hsub hP hD hS hl
  have hx := hC.1.1
  have hb := hC.1.2.1
  have hts := hC.1.2.2.2.2.1
  have hown := hC.1.2.2.2.1
  have hK := hC.1.2.2.2.2.2.1
  have hA : ∀ q, s.heap.size ≤ q → fre b0 s.heap.size q := fun q h => .inr h
  have hl : lv_has ls 4 [(0, .ref b0), (1, .int (nI N)), (2, .int v)] := hl
  refine lv_aload_n hx hb dX7_init_0 rfl (lv_at hl 0 rfl) ?_
  refine i_obj hC hl.1 tw_1_59 ⟨Nat.le_of_ble_eq_true rfl, Nat.le_of_ble_eq_true rfl⟩ dX7_init_1 ?_
  refine lv_aload_n hx hb dX7_init_4 rfl (lv_at hl 0 rfl) ?_
  refine lv_iload_n hx hb dX7_init_5 rfl (lv_at hl 1 rfl) ?_
  have hpos : ¬ nI N < 0 := nI_pos (by omega)
  refine lv_if_ge (tgt := 13) hx hb dX7_init_6 (by decide) (fun _ => ?_) (fun h => absurd (nI_pos' (by omega)) h)
  refine lv_iload_n hx hb dX7_init_13 rfl (lv_at hl 1 rfl) ?_
  refine va_newa (atype := .int) (ty := .int) (a0 := (N, .inl (fun _ => 0))) (N' := N) hx hb (hts _ tw_1_64) rfl hK hP hD hS hA (fun _ => rfl) hpos (nI_clamp (by omega)) (by show N * 4 ≤ _; omega) (Nat.le_of_ble_eq_true rfl) (by show 0 + N ≤ N; omega) dX7_init_14 (fun a cA H hK2 hP hD hS => ?_)
  have hcA : cA = eC E 0 := by
    have h1 := (hK2.2 6 (cA, .int) rfl).2
    have h2 := (hK2.2 0 (eC E 0, .int) rfl).2
    exact Option.some.inj (h1.symm.trans h2)
  subst hcA
  refine va_putF hx hb hts in_X7 tyX7 tyX7_ok nmX7 hown hK hP hD hS 0 rfl rfl 0 (by decide) (hts _ tw_1_60) (fun _ h => h) rfl hC.2 rfl rfl rfl rfl (by decide) dX7_init_16 (fun H locs hP hD hS => ?_)
  have hP : va_P (eD E) vwCl [(b0, .inr (8, [.ref a])), (a, .inl (eC E 0, N, .inl (fun j => if j < 0 then v else 0)))] H := by
    simpa using hP
  have hD : va_D (fre b0 s.heap.size) [(b0, .inr (8, [.ref a])), (a, .inl (eC E 0, N, .inl (fun j => if j < 0 then v else 0)))] := by
    simpa using hD
  refine lv_iconst (v := nI 0) hx hb dX7_init_19 rfl ?_
  refine lv_istore_n (lv' := [(3, .int (nI 0)), (0, .ref b0), (1, .int (nI N)), (2, .int v)]) hx hb dX7_init_20 rfl hl (Nat.lt_of_lt_of_eq (by decide) rfl) rfl (fun ls hl => ?_)
  have L : ∀ (k i : Nat) (H : Heap) (locs : List Loc) (ls : Array Slot), i + k = N → va_P (eD E) vwCl [(b0, .inr (8, [.ref a])), (a, .inl (eC E 0, N, .inl (fun j => if j < i then v else 0)))] H → va_D (fre b0 s.heap.size) [(b0, .inr (8, [.ref a])), (a, .inl (eC E 0, N, .inl (fun j => if j < i then v else 0)))] → va_S (fre b0 s.heap.size) s.heap H locs → lv_has ls 4 [(3, .int (nI i)), (0, .ref b0), (1, .int (nI N)), (2, .int v)] → W p l e (rmx 1 1 N) s m [.ref b0, .int (nI N), .int v].toArray below meth c H locs 1 N (MQ below (QI E b0 2 (cfRow E N v)) [.ref b0, .int (nI N), .int v].toArray s 1 N (fre b0 s.heap.size)) (F0 m 21 ls []) := by
    intro k
    induction k with
    | zero =>
      intro i H locs ls hi hP hD hS hl
      obtain rfl : i = N := by omega
      refine lv_iload_n hx hb dX7_init_21 rfl (lv_at hl 0 rfl) ?_
      refine lv_aload_n hx hb dX7_init_22 rfl (lv_at hl 1 rfl) ?_
      refine va_get (T := TX7) hx hb hts in_X7 hown hK hP 0 rfl rfl 0 (by decide) (hts _ tw_1_60) (fun _ h => h) rfl dX7_init_23 ?_
      refine va_alen (x := (i, .inl (fun j => if j < i then v else 0))) hx hb hK hP 1 0 rfl rfl rfl dX7_init_26 ?_
      refine lv_icmp_ge (tgt := 43) hx hb dX7_init_27 (by decide) (fun _ => ?_) (fun h => absurd (Int32.le_refl _) h)
      exact W.vret hx hb hC.1.2.2.2.2.2.2.2.2.2.1 (fun t ht _ => ⟨⟨rfl, fun j => ([b0, a] : List Nat).getD j 0, rfl, by rw [ht]; exact hP, hD⟩, hS.F ht⟩) hS.2.2 dX7_init_43 hC.1.2.2.2.2.2.2.2.2.2.2.1
    | succ k ih =>
      intro i H locs ls hi hP hD hS hl
      refine lv_iload_n hx hb dX7_init_21 rfl (lv_at hl 0 rfl) ?_
      refine lv_aload_n hx hb dX7_init_22 rfl (lv_at hl 1 rfl) ?_
      refine va_get (T := TX7) hx hb hts in_X7 hown hK hP 0 rfl rfl 0 (by decide) (hts _ tw_1_60) (fun _ h => h) rfl dX7_init_23 ?_
      refine va_alen (x := (N, .inl (fun j => if j < i then v else 0))) hx hb hK hP 1 0 rfl rfl rfl dX7_init_26 ?_
      refine lv_icmp_ge (tgt := 43) hx hb dX7_init_27 (by decide) (fun h => absurd h (nI_ge (by omega) (by omega))) (fun _ => ?_)
      refine lv_aload_n hx hb dX7_init_30 rfl (lv_at hl 1 rfl) ?_
      refine va_get (T := TX7) hx hb hts in_X7 hown hK hP 0 rfl rfl 0 (by decide) (hts _ tw_1_60) (fun _ h => h) rfl dX7_init_31 ?_
      refine lv_iload_n hx hb dX7_init_34 rfl (lv_at hl 0 rfl) ?_
      refine lv_iload_n hx hb dX7_init_35 rfl (lv_at hl 3 rfl) ?_
      refine va_iast hx hb hK hP hD hS 1 0 rfl rfl (nI_in (by omega) (by omega)) dX7_init_36 (fun H locs hP hD hS => ?_)
      have hu : upd (fun j => if j < i then v else 0) (nI i).toNatClampNeg v = fun j => if j < i + 1 then v else 0 := by
        funext j
        rw [nI_clamp (by omega)]
        by_cases h : j = i
        · subst h; simp [upd]
        · by_cases h2 : j < i <;> simp [upd, h, h2] <;> omega
      rw [hu] at hP hD
      refine lv_iinc (v := nI (i + 1)) (lv' := [(3, .int (nI (i + 1))), (0, .ref b0), (1, .int (nI N)), (2, .int v)]) hx hb dX7_init_37 hl (k := 0) rfl (nI_1 i) (Nat.lt_of_lt_of_eq (by decide) rfl) rfl (fun ls hl => ?_)
      refine lv_goto (tgt := 21) hx hb dX7_init_40 (by decide) ?_
      exact ih (i + 1) H locs ls (by omega) hP hD hS hl
  exact x_wid (c2 := 1) (s2 := N) (Nat.le_of_ble_eq_true rfl) (by show 0 + N ≤ N; omega) (L N 0 H locs ls (by omega) hP hD hS hl)

theorem dX6_init_0 : decode cX6_init 0 = .ok (.aload_n 0, 1) := by decide +kernel
theorem dX6_init_1 : decode cX6_init 1 = .ok (.invokespecial 3, 3) := by decide +kernel
theorem dX6_init_4 : decode cX6_init 4 = .ok (.aload_n 0, 1) := by decide +kernel
theorem dX6_init_5 : decode cX6_init 5 = .ok (.new 9, 3) := by decide +kernel
theorem dX6_init_8 : decode cX6_init 8 = .ok (.dup, 1) := by decide +kernel
theorem dX6_init_9 : decode cX6_init 9 = .ok (.bipush 24, 2) := by decide +kernel
theorem dX6_init_11 : decode cX6_init 11 = .ok (.iconst (-1), 1) := by decide +kernel
theorem dX6_init_12 : decode cX6_init 12 = .ok (.invokespecial 11, 3) := by decide +kernel
theorem dX6_init_15 : decode cX6_init 15 = .ok (.putfield 14, 3) := by decide +kernel
theorem dX6_init_18 : decode cX6_init 18 = .ok (.aload_n 0, 1) := by decide +kernel
theorem dX6_init_19 : decode cX6_init 19 = .ok (.new 9, 3) := by decide +kernel
theorem dX6_init_22 : decode cX6_init 22 = .ok (.dup, 1) := by decide +kernel
theorem dX6_init_23 : decode cX6_init 23 = .ok (.bipush 24, 2) := by decide +kernel
theorem dX6_init_25 : decode cX6_init 25 = .ok (.iconst (-1), 1) := by decide +kernel
theorem dX6_init_26 : decode cX6_init 26 = .ok (.invokespecial 11, 3) := by decide +kernel
theorem dX6_init_29 : decode cX6_init 29 = .ok (.putfield 20, 3) := by decide +kernel
theorem dX6_init_32 : decode cX6_init 32 = .ok (.aload_n 0, 1) := by decide +kernel
theorem dX6_init_33 : decode cX6_init 33 = .ok (.new 9, 3) := by decide +kernel
theorem dX6_init_36 : decode cX6_init 36 = .ok (.dup, 1) := by decide +kernel
theorem dX6_init_37 : decode cX6_init 37 = .ok (.bipush 24, 2) := by decide +kernel
theorem dX6_init_39 : decode cX6_init 39 = .ok (.iconst 0, 1) := by decide +kernel
theorem dX6_init_40 : decode cX6_init 40 = .ok (.invokespecial 11, 3) := by decide +kernel
theorem dX6_init_43 : decode cX6_init 43 = .ok (.putfield 23, 3) := by decide +kernel
theorem dX6_init_46 : decode cX6_init 46 = .ok (.aload_n 0, 1) := by decide +kernel
theorem dX6_init_47 : decode cX6_init 47 = .ok (.new 9, 3) := by decide +kernel
theorem dX6_init_50 : decode cX6_init 50 = .ok (.dup, 1) := by decide +kernel
theorem dX6_init_51 : decode cX6_init 51 = .ok (.bipush 24, 2) := by decide +kernel
theorem dX6_init_53 : decode cX6_init 53 = .ok (.iconst 0, 1) := by decide +kernel
theorem dX6_init_54 : decode cX6_init 54 = .ok (.invokespecial 11, 3) := by decide +kernel
theorem dX6_init_57 : decode cX6_init 57 = .ok (.putfield 26, 3) := by decide +kernel
theorem dX6_init_60 : decode cX6_init 60 = .ok (.aload_n 0, 1) := by decide +kernel
theorem dX6_init_61 : decode cX6_init 61 = .ok (.new 9, 3) := by decide +kernel
theorem dX6_init_64 : decode cX6_init 64 = .ok (.dup, 1) := by decide +kernel
theorem dX6_init_65 : decode cX6_init 65 = .ok (.bipush 24, 2) := by decide +kernel
theorem dX6_init_67 : decode cX6_init 67 = .ok (.iconst 0, 1) := by decide +kernel
theorem dX6_init_68 : decode cX6_init 68 = .ok (.invokestatic 29, 3) := by decide +kernel
theorem dX6_init_71 : decode cX6_init 71 = .ok (.invokespecial 11, 3) := by decide +kernel
theorem dX6_init_74 : decode cX6_init 74 = .ok (.putfield 33, 3) := by decide +kernel
theorem dX6_init_77 : decode cX6_init 77 = .ok (.aload_n 0, 1) := by decide +kernel
theorem dX6_init_78 : decode cX6_init 78 = .ok (.new 9, 3) := by decide +kernel
theorem dX6_init_81 : decode cX6_init 81 = .ok (.dup, 1) := by decide +kernel
theorem dX6_init_82 : decode cX6_init 82 = .ok (.sipush 192, 3) := by decide +kernel
theorem dX6_init_85 : decode cX6_init 85 = .ok (.bipush 97, 2) := by decide +kernel
theorem dX6_init_87 : decode cX6_init 87 = .ok (.invokespecial 11, 3) := by decide +kernel
theorem dX6_init_90 : decode cX6_init 90 = .ok (.putfield 36, 3) := by decide +kernel
theorem dX6_init_93 : decode cX6_init 93 = .ok (.aload_n 0, 1) := by decide +kernel
theorem dX6_init_94 : decode cX6_init 94 = .ok (.iconst 1, 1) := by decide +kernel
theorem dX6_init_95 : decode cX6_init 95 = .ok (.putfield 39, 3) := by decide +kernel
theorem dX6_init_98 : decode cX6_init 98 = .ok (.return_, 1) := by decide +kernel
theorem cv_X6_init : CalI yX6_init cX6_init 1 0 := ⟨⟨⟨by decide +kernel, by decide +kernel⟩, tw_1_3, tw_1_52, by decide +kernel⟩, rfl, tw_1_51⟩
set_option maxRecDepth 100000 in
set_option maxHeartbeats 4000000 in
theorem m_X6_init (l : Launch) (E : En) (sz b0 : Nat) : MI l E yX6_init cX6_init 1 2 12 318 sz b0 [] 7 [.null, .null, .null, .null, .null, .null, .int 0, .int 0] 13 (cfRev E) := by
  refine entI (E := E) "LetterRepository$Revisions" (by decide +kernel) rfl rfl (Nat.le_of_ble_eq_true rfl) ?_
  intro p e s m below meth c ls hC hsub hP hD hS hl
  have hx := hC.1.1
  have hb := hC.1.2.1
  have hts := hC.1.2.2.2.2.1
  have hown := hC.1.2.2.2.1
  have hK := hC.1.2.2.2.2.2.1
  have hA : ∀ q, s.heap.size ≤ q → fre b0 s.heap.size q := fun q h => .inr h
  have hl : lv_has ls 1 [(0, .ref b0)] := hl
  refine lv_aload_n hx hb dX6_init_0 rfl (lv_at hl 0 rfl) ?_
  refine i_obj hC hl.1 tw_1_53 ⟨Nat.le_of_ble_eq_true rfl, Nat.le_of_ble_eq_true rfl⟩ dX6_init_1 ?_
  refine lv_aload_n hx hb dX6_init_4 rfl (lv_at hl 0 rfl) ?_
  refine va_new (ci := 8) (fs := [.null]) (C := RX7) (T := TX7) (N := 1) hx hb hts in_X7 tyX7 tyX7_ok hown (hts _ tw_1_54) (hts _ tw_1_55) (hts _ tw_1_4) hK hP hD hS hA rfl (fun j hj => by rcases (show j = 0 by omega) with rfl <;> rfl) (Nat.le_of_ble_eq_true rfl) (Nat.le_of_ble_eq_true rfl) dX6_init_5 (fun q5 H hP hD hS => ?_)
  refine lv_dup hx hb dX6_init_8 rfl ?_
  refine lv_bipush (v := 24) hx hb dX6_init_9 rfl ?_
  refine lv_iconst (v := (-1)) hx hb dX6_init_11 rfl ?_
  refine i_ctor (As := [.int 24, .int (-1)]) (cf := cfRow E 24 (-1)) hC hsub hP hD hS hA hl.1 (m_X7_init l E 24 (-1) (by decide) _ _) cv_X7_init tw_1_56 rfl rfl ⟨Nat.le_of_ble_eq_true rfl, Nat.le_of_ble_eq_true rfl⟩ ⟨Nat.le_of_ble_eq_true rfl, Nat.le_of_ble_eq_true rfl⟩ (Nat.le_of_ble_eq_true rfl) dX6_init_12 (fun ad12 H locs h12 hP hD hS => ?_)
  rw [← h12]
  have hP : va_P (eD E) vwCl (((b0, .inr (7, [.null, .null, .null, .null, .null, .null, .int 0, .int 0])) :: [] : va_W) ++ pool 2 ad12 (cfRow E 24 (-1) ad12)) H := hP
  have hD : va_D (fre b0 s.heap.size) (((b0, .inr (7, [.null, .null, .null, .null, .null, .null, .int 0, .int 0])) :: [] : va_W) ++ pool 2 ad12 (cfRow E 24 (-1) ad12)) := hD
  refine va_putF hx hb hts in_X6 tyX6 tyX6_ok nmX6 hown hK hP hD hS 0 rfl rfl 0 (by decide) (hts _ tw_1_68) (fun _ h => h) rfl hC.2 rfl rfl rfl rfl (Nat.le_of_ble_eq_true rfl) dX6_init_15 (fun H locs hP hD hS => ?_)
  have hP : va_P (eD E) vwCl (((b0, .inr (7, [.ref (ad12 0), .null, .null, .null, .null, .null, .int 0, .int 0])) :: [] : va_W) ++ pool 2 ad12 (cfRow E 24 (-1) ad12)) H := hP
  have hD : va_D (fre b0 s.heap.size) (((b0, .inr (7, [.ref (ad12 0), .null, .null, .null, .null, .null, .int 0, .int 0])) :: [] : va_W) ++ pool 2 ad12 (cfRow E 24 (-1) ad12)) := hD
  refine lv_aload_n hx hb dX6_init_18 rfl (lv_at hl 0 rfl) ?_
  refine va_new (ci := 8) (fs := [.null]) (C := RX7) (T := TX7) (N := 1) hx hb hts in_X7 tyX7 tyX7_ok hown (hts _ tw_1_54) (hts _ tw_1_55) (hts _ tw_1_4) hK hP hD hS hA rfl (fun j hj => by rcases (show j = 0 by omega) with rfl <;> rfl) (Nat.le_of_ble_eq_true rfl) (Nat.le_of_ble_eq_true rfl) dX6_init_19 (fun q19 H hP hD hS => ?_)
  refine lv_dup hx hb dX6_init_22 rfl ?_
  refine lv_bipush (v := 24) hx hb dX6_init_23 rfl ?_
  refine lv_iconst (v := (-1)) hx hb dX6_init_25 rfl ?_
  refine i_ctor (As := [.int 24, .int (-1)]) (cf := cfRow E 24 (-1)) hC hsub hP hD hS hA hl.1 (m_X7_init l E 24 (-1) (by decide) _ _) cv_X7_init tw_1_56 rfl rfl ⟨Nat.le_of_ble_eq_true rfl, Nat.le_of_ble_eq_true rfl⟩ ⟨Nat.le_of_ble_eq_true rfl, Nat.le_of_ble_eq_true rfl⟩ (Nat.le_of_ble_eq_true rfl) dX6_init_26 (fun ad26 H locs h26 hP hD hS => ?_)
  rw [← h26]
  have hP : va_P (eD E) vwCl ((((b0, .inr (7, [.ref (ad12 0), .null, .null, .null, .null, .null, .int 0, .int 0])) :: [] : va_W) ++ pool 2 ad12 (cfRow E 24 (-1) ad12)) ++ pool 2 ad26 (cfRow E 24 (-1) ad26)) H := hP
  have hD : va_D (fre b0 s.heap.size) ((((b0, .inr (7, [.ref (ad12 0), .null, .null, .null, .null, .null, .int 0, .int 0])) :: [] : va_W) ++ pool 2 ad12 (cfRow E 24 (-1) ad12)) ++ pool 2 ad26 (cfRow E 24 (-1) ad26)) := hD
  refine va_putF hx hb hts in_X6 tyX6 tyX6_ok nmX6 hown hK hP hD hS 0 rfl rfl 1 (by decide) (hts _ tw_1_69) (fun _ h => h) rfl hC.2 rfl rfl rfl rfl (Nat.le_of_ble_eq_true rfl) dX6_init_29 (fun H locs hP hD hS => ?_)
  have hP : va_P (eD E) vwCl ((((b0, .inr (7, [.ref (ad12 0), .ref (ad26 0), .null, .null, .null, .null, .int 0, .int 0])) :: [] : va_W) ++ pool 2 ad12 (cfRow E 24 (-1) ad12)) ++ pool 2 ad26 (cfRow E 24 (-1) ad26)) H := hP
  have hD : va_D (fre b0 s.heap.size) ((((b0, .inr (7, [.ref (ad12 0), .ref (ad26 0), .null, .null, .null, .null, .int 0, .int 0])) :: [] : va_W) ++ pool 2 ad12 (cfRow E 24 (-1) ad12)) ++ pool 2 ad26 (cfRow E 24 (-1) ad26)) := hD
  refine lv_aload_n hx hb dX6_init_32 rfl (lv_at hl 0 rfl) ?_
  refine va_new (ci := 8) (fs := [.null]) (C := RX7) (T := TX7) (N := 1) hx hb hts in_X7 tyX7 tyX7_ok hown (hts _ tw_1_54) (hts _ tw_1_55) (hts _ tw_1_4) hK hP hD hS hA rfl (fun j hj => by rcases (show j = 0 by omega) with rfl <;> rfl) (Nat.le_of_ble_eq_true rfl) (Nat.le_of_ble_eq_true rfl) dX6_init_33 (fun q33 H hP hD hS => ?_)
  refine lv_dup hx hb dX6_init_36 rfl ?_
  refine lv_bipush (v := 24) hx hb dX6_init_37 rfl ?_
  refine lv_iconst (v := 0) hx hb dX6_init_39 rfl ?_
  refine i_ctor (As := [.int 24, .int 0]) (cf := cfRow E 24 0) hC hsub hP hD hS hA hl.1 (m_X7_init l E 24 0 (by decide) _ _) cv_X7_init tw_1_56 rfl rfl ⟨Nat.le_of_ble_eq_true rfl, Nat.le_of_ble_eq_true rfl⟩ ⟨Nat.le_of_ble_eq_true rfl, Nat.le_of_ble_eq_true rfl⟩ (Nat.le_of_ble_eq_true rfl) dX6_init_40 (fun ad40 H locs h40 hP hD hS => ?_)
  rw [← h40]
  have hP : va_P (eD E) vwCl (((((b0, .inr (7, [.ref (ad12 0), .ref (ad26 0), .null, .null, .null, .null, .int 0, .int 0])) :: [] : va_W) ++ pool 2 ad12 (cfRow E 24 (-1) ad12)) ++ pool 2 ad26 (cfRow E 24 (-1) ad26)) ++ pool 2 ad40 (cfRow E 24 0 ad40)) H := hP
  have hD : va_D (fre b0 s.heap.size) (((((b0, .inr (7, [.ref (ad12 0), .ref (ad26 0), .null, .null, .null, .null, .int 0, .int 0])) :: [] : va_W) ++ pool 2 ad12 (cfRow E 24 (-1) ad12)) ++ pool 2 ad26 (cfRow E 24 (-1) ad26)) ++ pool 2 ad40 (cfRow E 24 0 ad40)) := hD
  refine va_putF hx hb hts in_X6 tyX6 tyX6_ok nmX6 hown hK hP hD hS 0 rfl rfl 2 (by decide) (hts _ tw_1_70) (fun _ h => h) rfl hC.2 rfl rfl rfl rfl (Nat.le_of_ble_eq_true rfl) dX6_init_43 (fun H locs hP hD hS => ?_)
  have hP : va_P (eD E) vwCl (((((b0, .inr (7, [.ref (ad12 0), .ref (ad26 0), .ref (ad40 0), .null, .null, .null, .int 0, .int 0])) :: [] : va_W) ++ pool 2 ad12 (cfRow E 24 (-1) ad12)) ++ pool 2 ad26 (cfRow E 24 (-1) ad26)) ++ pool 2 ad40 (cfRow E 24 0 ad40)) H := hP
  have hD : va_D (fre b0 s.heap.size) (((((b0, .inr (7, [.ref (ad12 0), .ref (ad26 0), .ref (ad40 0), .null, .null, .null, .int 0, .int 0])) :: [] : va_W) ++ pool 2 ad12 (cfRow E 24 (-1) ad12)) ++ pool 2 ad26 (cfRow E 24 (-1) ad26)) ++ pool 2 ad40 (cfRow E 24 0 ad40)) := hD
  refine lv_aload_n hx hb dX6_init_46 rfl (lv_at hl 0 rfl) ?_
  refine va_new (ci := 8) (fs := [.null]) (C := RX7) (T := TX7) (N := 1) hx hb hts in_X7 tyX7 tyX7_ok hown (hts _ tw_1_54) (hts _ tw_1_55) (hts _ tw_1_4) hK hP hD hS hA rfl (fun j hj => by rcases (show j = 0 by omega) with rfl <;> rfl) (Nat.le_of_ble_eq_true rfl) (Nat.le_of_ble_eq_true rfl) dX6_init_47 (fun q47 H hP hD hS => ?_)
  refine lv_dup hx hb dX6_init_50 rfl ?_
  refine lv_bipush (v := 24) hx hb dX6_init_51 rfl ?_
  refine lv_iconst (v := 0) hx hb dX6_init_53 rfl ?_
  refine i_ctor (As := [.int 24, .int 0]) (cf := cfRow E 24 0) hC hsub hP hD hS hA hl.1 (m_X7_init l E 24 0 (by decide) _ _) cv_X7_init tw_1_56 rfl rfl ⟨Nat.le_of_ble_eq_true rfl, Nat.le_of_ble_eq_true rfl⟩ ⟨Nat.le_of_ble_eq_true rfl, Nat.le_of_ble_eq_true rfl⟩ (Nat.le_of_ble_eq_true rfl) dX6_init_54 (fun ad54 H locs h54 hP hD hS => ?_)
  rw [← h54]
  have hP : va_P (eD E) vwCl ((((((b0, .inr (7, [.ref (ad12 0), .ref (ad26 0), .ref (ad40 0), .null, .null, .null, .int 0, .int 0])) :: [] : va_W) ++ pool 2 ad12 (cfRow E 24 (-1) ad12)) ++ pool 2 ad26 (cfRow E 24 (-1) ad26)) ++ pool 2 ad40 (cfRow E 24 0 ad40)) ++ pool 2 ad54 (cfRow E 24 0 ad54)) H := hP
  have hD : va_D (fre b0 s.heap.size) ((((((b0, .inr (7, [.ref (ad12 0), .ref (ad26 0), .ref (ad40 0), .null, .null, .null, .int 0, .int 0])) :: [] : va_W) ++ pool 2 ad12 (cfRow E 24 (-1) ad12)) ++ pool 2 ad26 (cfRow E 24 (-1) ad26)) ++ pool 2 ad40 (cfRow E 24 0 ad40)) ++ pool 2 ad54 (cfRow E 24 0 ad54)) := hD
  refine va_putF hx hb hts in_X6 tyX6 tyX6_ok nmX6 hown hK hP hD hS 0 rfl rfl 3 (by decide) (hts _ tw_1_71) (fun _ h => h) rfl hC.2 rfl rfl rfl rfl (Nat.le_of_ble_eq_true rfl) dX6_init_57 (fun H locs hP hD hS => ?_)
  have hP : va_P (eD E) vwCl ((((((b0, .inr (7, [.ref (ad12 0), .ref (ad26 0), .ref (ad40 0), .ref (ad54 0), .null, .null, .int 0, .int 0])) :: [] : va_W) ++ pool 2 ad12 (cfRow E 24 (-1) ad12)) ++ pool 2 ad26 (cfRow E 24 (-1) ad26)) ++ pool 2 ad40 (cfRow E 24 0 ad40)) ++ pool 2 ad54 (cfRow E 24 0 ad54)) H := hP
  have hD : va_D (fre b0 s.heap.size) ((((((b0, .inr (7, [.ref (ad12 0), .ref (ad26 0), .ref (ad40 0), .ref (ad54 0), .null, .null, .int 0, .int 0])) :: [] : va_W) ++ pool 2 ad12 (cfRow E 24 (-1) ad12)) ++ pool 2 ad26 (cfRow E 24 (-1) ad26)) ++ pool 2 ad40 (cfRow E 24 0 ad40)) ++ pool 2 ad54 (cfRow E 24 0 ad54)) := hD
  refine lv_aload_n hx hb dX6_init_60 rfl (lv_at hl 0 rfl) ?_
  refine va_new (ci := 8) (fs := [.null]) (C := RX7) (T := TX7) (N := 1) hx hb hts in_X7 tyX7 tyX7_ok hown (hts _ tw_1_54) (hts _ tw_1_55) (hts _ tw_1_4) hK hP hD hS hA rfl (fun j hj => by rcases (show j = 0 by omega) with rfl <;> rfl) (Nat.le_of_ble_eq_true rfl) (Nat.le_of_ble_eq_true rfl) dX6_init_61 (fun q61 H hP hD hS => ?_)
  refine lv_dup hx hb dX6_init_64 rfl ?_
  refine lv_bipush (v := 24) hx hb dX6_init_65 rfl ?_
  refine lv_iconst (v := 0) hx hb dX6_init_67 rfl ?_
  refine i_setOf hC hP hS hl.1 tw_1_65 ⟨Nat.le_of_ble_eq_true rfl, Nat.le_of_ble_eq_true rfl⟩ ⟨Nat.le_of_ble_eq_true rfl, Nat.le_of_ble_eq_true rfl⟩ (Nat.le_of_ble_eq_true rfl) dX6_init_68 (fun H locs hP hS => ?_)
  refine i_ctor (As := [.int 24, .int 1]) (cf := cfRow E 24 1) hC hsub hP hD hS hA hl.1 (m_X7_init l E 24 1 (by decide) _ _) cv_X7_init tw_1_56 rfl rfl ⟨Nat.le_of_ble_eq_true rfl, Nat.le_of_ble_eq_true rfl⟩ ⟨Nat.le_of_ble_eq_true rfl, Nat.le_of_ble_eq_true rfl⟩ (Nat.le_of_ble_eq_true rfl) dX6_init_71 (fun ad71 H locs h71 hP hD hS => ?_)
  rw [← h71]
  have hP : va_P (eD E) vwCl (((((((b0, .inr (7, [.ref (ad12 0), .ref (ad26 0), .ref (ad40 0), .ref (ad54 0), .null, .null, .int 0, .int 0])) :: [] : va_W) ++ pool 2 ad12 (cfRow E 24 (-1) ad12)) ++ pool 2 ad26 (cfRow E 24 (-1) ad26)) ++ pool 2 ad40 (cfRow E 24 0 ad40)) ++ pool 2 ad54 (cfRow E 24 0 ad54)) ++ pool 2 ad71 (cfRow E 24 1 ad71)) H := hP
  have hD : va_D (fre b0 s.heap.size) (((((((b0, .inr (7, [.ref (ad12 0), .ref (ad26 0), .ref (ad40 0), .ref (ad54 0), .null, .null, .int 0, .int 0])) :: [] : va_W) ++ pool 2 ad12 (cfRow E 24 (-1) ad12)) ++ pool 2 ad26 (cfRow E 24 (-1) ad26)) ++ pool 2 ad40 (cfRow E 24 0 ad40)) ++ pool 2 ad54 (cfRow E 24 0 ad54)) ++ pool 2 ad71 (cfRow E 24 1 ad71)) := hD
  refine va_putF hx hb hts in_X6 tyX6 tyX6_ok nmX6 hown hK hP hD hS 0 rfl rfl 4 (by decide) (hts _ tw_1_72) (fun _ h => h) rfl hC.2 rfl rfl rfl rfl (Nat.le_of_ble_eq_true rfl) dX6_init_74 (fun H locs hP hD hS => ?_)
  have hP : va_P (eD E) vwCl (((((((b0, .inr (7, [.ref (ad12 0), .ref (ad26 0), .ref (ad40 0), .ref (ad54 0), .ref (ad71 0), .null, .int 0, .int 0])) :: [] : va_W) ++ pool 2 ad12 (cfRow E 24 (-1) ad12)) ++ pool 2 ad26 (cfRow E 24 (-1) ad26)) ++ pool 2 ad40 (cfRow E 24 0 ad40)) ++ pool 2 ad54 (cfRow E 24 0 ad54)) ++ pool 2 ad71 (cfRow E 24 1 ad71)) H := hP
  have hD : va_D (fre b0 s.heap.size) (((((((b0, .inr (7, [.ref (ad12 0), .ref (ad26 0), .ref (ad40 0), .ref (ad54 0), .ref (ad71 0), .null, .int 0, .int 0])) :: [] : va_W) ++ pool 2 ad12 (cfRow E 24 (-1) ad12)) ++ pool 2 ad26 (cfRow E 24 (-1) ad26)) ++ pool 2 ad40 (cfRow E 24 0 ad40)) ++ pool 2 ad54 (cfRow E 24 0 ad54)) ++ pool 2 ad71 (cfRow E 24 1 ad71)) := hD
  refine lv_aload_n hx hb dX6_init_77 rfl (lv_at hl 0 rfl) ?_
  refine va_new (ci := 8) (fs := [.null]) (C := RX7) (T := TX7) (N := 1) hx hb hts in_X7 tyX7 tyX7_ok hown (hts _ tw_1_54) (hts _ tw_1_55) (hts _ tw_1_4) hK hP hD hS hA rfl (fun j hj => by rcases (show j = 0 by omega) with rfl <;> rfl) (Nat.le_of_ble_eq_true rfl) (Nat.le_of_ble_eq_true rfl) dX6_init_78 (fun q78 H hP hD hS => ?_)
  refine lv_dup hx hb dX6_init_81 rfl ?_
  refine lv_sipush (v := 192) hx hb dX6_init_82 rfl ?_
  refine lv_bipush (v := 97) hx hb dX6_init_85 rfl ?_
  refine i_ctor (As := [.int 192, .int 97]) (cf := cfRow E 192 97) hC hsub hP hD hS hA hl.1 (m_X7_init l E 192 97 (by decide) _ _) cv_X7_init tw_1_56 rfl rfl ⟨Nat.le_of_ble_eq_true rfl, Nat.le_of_ble_eq_true rfl⟩ ⟨Nat.le_of_ble_eq_true rfl, Nat.le_of_ble_eq_true rfl⟩ (Nat.le_of_ble_eq_true rfl) dX6_init_87 (fun ad87 H locs h87 hP hD hS => ?_)
  rw [← h87]
  have hP : va_P (eD E) vwCl ((((((((b0, .inr (7, [.ref (ad12 0), .ref (ad26 0), .ref (ad40 0), .ref (ad54 0), .ref (ad71 0), .null, .int 0, .int 0])) :: [] : va_W) ++ pool 2 ad12 (cfRow E 24 (-1) ad12)) ++ pool 2 ad26 (cfRow E 24 (-1) ad26)) ++ pool 2 ad40 (cfRow E 24 0 ad40)) ++ pool 2 ad54 (cfRow E 24 0 ad54)) ++ pool 2 ad71 (cfRow E 24 1 ad71)) ++ pool 2 ad87 (cfRow E 192 97 ad87)) H := hP
  have hD : va_D (fre b0 s.heap.size) ((((((((b0, .inr (7, [.ref (ad12 0), .ref (ad26 0), .ref (ad40 0), .ref (ad54 0), .ref (ad71 0), .null, .int 0, .int 0])) :: [] : va_W) ++ pool 2 ad12 (cfRow E 24 (-1) ad12)) ++ pool 2 ad26 (cfRow E 24 (-1) ad26)) ++ pool 2 ad40 (cfRow E 24 0 ad40)) ++ pool 2 ad54 (cfRow E 24 0 ad54)) ++ pool 2 ad71 (cfRow E 24 1 ad71)) ++ pool 2 ad87 (cfRow E 192 97 ad87)) := hD
  refine va_putF hx hb hts in_X6 tyX6 tyX6_ok nmX6 hown hK hP hD hS 0 rfl rfl 5 (by decide) (hts _ tw_1_73) (fun _ h => h) rfl hC.2 rfl rfl rfl rfl (Nat.le_of_ble_eq_true rfl) dX6_init_90 (fun H locs hP hD hS => ?_)
  have hP : va_P (eD E) vwCl ((((((((b0, .inr (7, [.ref (ad12 0), .ref (ad26 0), .ref (ad40 0), .ref (ad54 0), .ref (ad71 0), .ref (ad87 0), .int 0, .int 0])) :: [] : va_W) ++ pool 2 ad12 (cfRow E 24 (-1) ad12)) ++ pool 2 ad26 (cfRow E 24 (-1) ad26)) ++ pool 2 ad40 (cfRow E 24 0 ad40)) ++ pool 2 ad54 (cfRow E 24 0 ad54)) ++ pool 2 ad71 (cfRow E 24 1 ad71)) ++ pool 2 ad87 (cfRow E 192 97 ad87)) H := hP
  have hD : va_D (fre b0 s.heap.size) ((((((((b0, .inr (7, [.ref (ad12 0), .ref (ad26 0), .ref (ad40 0), .ref (ad54 0), .ref (ad71 0), .ref (ad87 0), .int 0, .int 0])) :: [] : va_W) ++ pool 2 ad12 (cfRow E 24 (-1) ad12)) ++ pool 2 ad26 (cfRow E 24 (-1) ad26)) ++ pool 2 ad40 (cfRow E 24 0 ad40)) ++ pool 2 ad54 (cfRow E 24 0 ad54)) ++ pool 2 ad71 (cfRow E 24 1 ad71)) ++ pool 2 ad87 (cfRow E 192 97 ad87)) := hD
  refine lv_aload_n hx hb dX6_init_93 rfl (lv_at hl 0 rfl) ?_
  refine lv_iconst (v := 1) hx hb dX6_init_94 rfl ?_
  refine va_put hx hb hts in_X6 tyX6 tyX6_ok nmX6 hown hK hP hD hS 0 rfl rfl 7 (by decide) (hts _ tw_1_77) (fun _ h => h) rfl rfl rfl rfl (Nat.le_of_ble_eq_true rfl) dX6_init_95 (fun H locs hP hD hS => ?_)
  have hP : va_P (eD E) vwCl ((((((((b0, .inr (7, [.ref (ad12 0), .ref (ad26 0), .ref (ad40 0), .ref (ad54 0), .ref (ad71 0), .ref (ad87 0), .int 0, .int 1])) :: [] : va_W) ++ pool 2 ad12 (cfRow E 24 (-1) ad12)) ++ pool 2 ad26 (cfRow E 24 (-1) ad26)) ++ pool 2 ad40 (cfRow E 24 0 ad40)) ++ pool 2 ad54 (cfRow E 24 0 ad54)) ++ pool 2 ad71 (cfRow E 24 1 ad71)) ++ pool 2 ad87 (cfRow E 192 97 ad87)) H := hP
  have hD : va_D (fre b0 s.heap.size) ((((((((b0, .inr (7, [.ref (ad12 0), .ref (ad26 0), .ref (ad40 0), .ref (ad54 0), .ref (ad71 0), .ref (ad87 0), .int 0, .int 1])) :: [] : va_W) ++ pool 2 ad12 (cfRow E 24 (-1) ad12)) ++ pool 2 ad26 (cfRow E 24 (-1) ad26)) ++ pool 2 ad40 (cfRow E 24 0 ad40)) ++ pool 2 ad54 (cfRow E 24 0 ad54)) ++ pool 2 ad71 (cfRow E 24 1 ad71)) ++ pool 2 ad87 (cfRow E 192 97 ad87)) := hD
  refine x_wid (c2 := 12) (s2 := 318) (Nat.le_of_ble_eq_true rfl) (Nat.le_of_ble_eq_true rfl) ?_
  exact W.vret hx hb hC.1.2.2.2.2.2.2.2.2.2.1 (fun t ht _ => ⟨⟨rfl, fun i => ([b0, ad12 0, ad12 1, ad26 0, ad26 1, ad40 0, ad40 1, ad54 0, ad54 1, ad71 0, ad71 1, ad87 0, ad87 1] : List Nat).getD i 0, rfl, by rw [ht]; exact hP, hD⟩, hS.F ht⟩) hS.2.2 dX6_init_98 hC.1.2.2.2.2.2.2.2.2.2.2.1
theorem dX8_init_0 : decode cX8_init 0 = .ok (.aload_n 0, 1) := by decide +kernel
theorem dX8_init_1 : decode cX8_init 1 = .ok (.invokespecial 3, 3) := by decide +kernel
theorem dX8_init_4 : decode cX8_init 4 = .ok (.aload_n 0, 1) := by decide +kernel
theorem dX8_init_5 : decode cX8_init 5 = .ok (.new 9, 3) := by decide +kernel
theorem dX8_init_8 : decode cX8_init 8 = .ok (.dup, 1) := by decide +kernel
theorem dX8_init_9 : decode cX8_init 9 = .ok (.invokespecial 11, 3) := by decide +kernel
theorem dX8_init_12 : decode cX8_init 12 = .ok (.putfield 12, 3) := by decide +kernel
theorem dX8_init_15 : decode cX8_init 15 = .ok (.aload_n 0, 1) := by decide +kernel
theorem dX8_init_16 : decode cX8_init 16 = .ok (.new 18, 3) := by decide +kernel
theorem dX8_init_19 : decode cX8_init 19 = .ok (.dup, 1) := by decide +kernel
theorem dX8_init_20 : decode cX8_init 20 = .ok (.iconst 5, 1) := by decide +kernel
theorem dX8_init_21 : decode cX8_init 21 = .ok (.iconst 0, 1) := by decide +kernel
theorem dX8_init_22 : decode cX8_init 22 = .ok (.invokespecial 20, 3) := by decide +kernel
theorem dX8_init_25 : decode cX8_init 25 = .ok (.putfield 23, 3) := by decide +kernel
theorem dX8_init_28 : decode cX8_init 28 = .ok (.aload_n 0, 1) := by decide +kernel
theorem dX8_init_29 : decode cX8_init 29 = .ok (.new 18, 3) := by decide +kernel
theorem dX8_init_32 : decode cX8_init 32 = .ok (.dup, 1) := by decide +kernel
theorem dX8_init_33 : decode cX8_init 33 = .ok (.bipush 40, 2) := by decide +kernel
theorem dX8_init_35 : decode cX8_init 35 = .ok (.bipush 97, 2) := by decide +kernel
theorem dX8_init_37 : decode cX8_init 37 = .ok (.invokespecial 20, 3) := by decide +kernel
theorem dX8_init_40 : decode cX8_init 40 = .ok (.putfield 27, 3) := by decide +kernel
theorem dX8_init_43 : decode cX8_init 43 = .ok (.aload_n 0, 1) := by decide +kernel
theorem dX8_init_44 : decode cX8_init 44 = .ok (.new 18, 3) := by decide +kernel
theorem dX8_init_47 : decode cX8_init 47 = .ok (.dup, 1) := by decide +kernel
theorem dX8_init_48 : decode cX8_init 48 = .ok (.bipush 26, 2) := by decide +kernel
theorem dX8_init_50 : decode cX8_init 50 = .ok (.iconst (-1), 1) := by decide +kernel
theorem dX8_init_51 : decode cX8_init 51 = .ok (.invokespecial 20, 3) := by decide +kernel
theorem dX8_init_54 : decode cX8_init 54 = .ok (.putfield 30, 3) := by decide +kernel
theorem dX8_init_57 : decode cX8_init 57 = .ok (.aload_n 0, 1) := by decide +kernel
theorem dX8_init_58 : decode cX8_init 58 = .ok (.iconst 1, 1) := by decide +kernel
theorem dX8_init_59 : decode cX8_init 59 = .ok (.putfield 33, 3) := by decide +kernel
theorem dX8_init_62 : decode cX8_init 62 = .ok (.return_, 1) := by decide +kernel
theorem cv_X8_init : CalI yX8_init cX8_init 1 0 := ⟨⟨⟨by decide +kernel, by decide +kernel⟩, tw_1_2, tw_1_46, by decide +kernel⟩, rfl, tw_1_45⟩
set_option maxRecDepth 100000 in
set_option maxHeartbeats 4000000 in
theorem m_X8_init (l : Launch) (E : En) (sz b0 : Nat) : MI l E yX8_init cX8_init 1 3 19 400 sz b0 [] 9 [.null, .null, .null, .null, .int 0] 20 (cfSt E) := by
  refine entI (E := E) "LetterRepository$Store" (by decide +kernel) rfl rfl (Nat.le_of_ble_eq_true rfl) ?_
  intro p e s m below meth c ls hC hsub hP hD hS hl
  have hx := hC.1.1
  have hb := hC.1.2.1
  have hts := hC.1.2.2.2.2.1
  have hown := hC.1.2.2.2.1
  have hK := hC.1.2.2.2.2.2.1
  have hA : ∀ q, s.heap.size ≤ q → fre b0 s.heap.size q := fun q h => .inr h
  have hl : lv_has ls 1 [(0, .ref b0)] := hl
  refine lv_aload_n hx hb dX8_init_0 rfl (lv_at hl 0 rfl) ?_
  refine i_obj hC hl.1 tw_1_47 ⟨Nat.le_of_ble_eq_true rfl, Nat.le_of_ble_eq_true rfl⟩ dX8_init_1 ?_
  refine lv_aload_n hx hb dX8_init_4 rfl (lv_at hl 0 rfl) ?_
  refine va_new (ci := 7) (fs := [.null, .null, .null, .null, .null, .null, .int 0, .int 0]) (C := RX6) (T := TX6) (N := 8) hx hb hts in_X6 tyX6 tyX6_ok hown (hts _ tw_1_48) (hts _ tw_1_49) (hts _ tw_1_3) hK hP hD hS hA rfl (fun j hj => by rcases (show j = 0 ∨ j = 1 ∨ j = 2 ∨ j = 3 ∨ j = 4 ∨ j = 5 ∨ j = 6 ∨ j = 7 by omega) with rfl | rfl | rfl | rfl | rfl | rfl | rfl | rfl <;> rfl) (Nat.le_of_ble_eq_true rfl) (Nat.le_of_ble_eq_true rfl) dX8_init_5 (fun q5 H hP hD hS => ?_)
  refine lv_dup hx hb dX8_init_8 rfl ?_
  refine i_ctorN (As := []) (cf := cfRev E) hC hsub hP hD hS hA hl.1 (m_X6_init l E _ _) cv_X6_init tw_1_50 rfl rfl ⟨Nat.le_of_ble_eq_true rfl, Nat.le_of_ble_eq_true rfl⟩ ⟨Nat.le_of_ble_eq_true rfl, Nat.le_of_ble_eq_true rfl⟩ (Nat.le_of_ble_eq_true rfl) dX8_init_9 (fun ad9 H locs h9 hP hD hS => ?_)
  rw [← h9]
  have hP : va_P (eD E) vwCl (((b0, .inr (9, [.null, .null, .null, .null, .int 0])) :: [] : va_W) ++ pool 13 ad9 (cfRev E ad9)) H := hP
  have hD : va_D (fre b0 s.heap.size) (((b0, .inr (9, [.null, .null, .null, .null, .int 0])) :: [] : va_W) ++ pool 13 ad9 (cfRev E ad9)) := hD
  refine va_putF hx hb hts in_X8 tyX8 tyX8_ok nmX8 hown hK hP hD hS 0 rfl rfl 0 (by decide) (hts _ tw_1_99) (fun _ h => h) rfl hC.2 rfl rfl rfl rfl (Nat.le_of_ble_eq_true rfl) dX8_init_12 (fun H locs hP hD hS => ?_)
  have hP : va_P (eD E) vwCl (((b0, .inr (9, [.ref (ad9 0), .null, .null, .null, .int 0])) :: [] : va_W) ++ pool 13 ad9 (cfRev E ad9)) H := hP
  have hD : va_D (fre b0 s.heap.size) (((b0, .inr (9, [.ref (ad9 0), .null, .null, .null, .int 0])) :: [] : va_W) ++ pool 13 ad9 (cfRev E ad9)) := hD
  refine lv_aload_n hx hb dX8_init_15 rfl (lv_at hl 0 rfl) ?_
  refine va_new (ci := 8) (fs := [.null]) (C := RX7) (T := TX7) (N := 1) hx hb hts in_X7 tyX7 tyX7_ok hown (hts _ tw_1_97) (hts _ tw_1_55) (hts _ tw_1_4) hK hP hD hS hA rfl (fun j hj => by rcases (show j = 0 by omega) with rfl <;> rfl) (Nat.le_of_ble_eq_true rfl) (Nat.le_of_ble_eq_true rfl) dX8_init_16 (fun q16 H hP hD hS => ?_)
  refine lv_dup hx hb dX8_init_19 rfl ?_
  refine lv_iconst (v := 5) hx hb dX8_init_20 rfl ?_
  refine lv_iconst (v := 0) hx hb dX8_init_21 rfl ?_
  refine i_ctor (As := [.int 5, .int 0]) (cf := cfRow E 5 0) hC hsub hP hD hS hA hl.1 (m_X7_init l E 5 0 (by decide) _ _) cv_X7_init tw_1_98 rfl rfl ⟨Nat.le_of_ble_eq_true rfl, Nat.le_of_ble_eq_true rfl⟩ ⟨Nat.le_of_ble_eq_true rfl, Nat.le_of_ble_eq_true rfl⟩ (Nat.le_of_ble_eq_true rfl) dX8_init_22 (fun ad22 H locs h22 hP hD hS => ?_)
  rw [← h22]
  have hP : va_P (eD E) vwCl ((((b0, .inr (9, [.ref (ad9 0), .null, .null, .null, .int 0])) :: [] : va_W) ++ pool 13 ad9 (cfRev E ad9)) ++ pool 2 ad22 (cfRow E 5 0 ad22)) H := hP
  have hD : va_D (fre b0 s.heap.size) ((((b0, .inr (9, [.ref (ad9 0), .null, .null, .null, .int 0])) :: [] : va_W) ++ pool 13 ad9 (cfRev E ad9)) ++ pool 2 ad22 (cfRow E 5 0 ad22)) := hD
  refine va_putF hx hb hts in_X8 tyX8 tyX8_ok nmX8 hown hK hP hD hS 0 rfl rfl 1 (by decide) (hts _ tw_1_101) (fun _ h => h) rfl hC.2 rfl rfl rfl rfl (Nat.le_of_ble_eq_true rfl) dX8_init_25 (fun H locs hP hD hS => ?_)
  have hP : va_P (eD E) vwCl ((((b0, .inr (9, [.ref (ad9 0), .ref (ad22 0), .null, .null, .int 0])) :: [] : va_W) ++ pool 13 ad9 (cfRev E ad9)) ++ pool 2 ad22 (cfRow E 5 0 ad22)) H := hP
  have hD : va_D (fre b0 s.heap.size) ((((b0, .inr (9, [.ref (ad9 0), .ref (ad22 0), .null, .null, .int 0])) :: [] : va_W) ++ pool 13 ad9 (cfRev E ad9)) ++ pool 2 ad22 (cfRow E 5 0 ad22)) := hD
  refine lv_aload_n hx hb dX8_init_28 rfl (lv_at hl 0 rfl) ?_
  refine va_new (ci := 8) (fs := [.null]) (C := RX7) (T := TX7) (N := 1) hx hb hts in_X7 tyX7 tyX7_ok hown (hts _ tw_1_97) (hts _ tw_1_55) (hts _ tw_1_4) hK hP hD hS hA rfl (fun j hj => by rcases (show j = 0 by omega) with rfl <;> rfl) (Nat.le_of_ble_eq_true rfl) (Nat.le_of_ble_eq_true rfl) dX8_init_29 (fun q29 H hP hD hS => ?_)
  refine lv_dup hx hb dX8_init_32 rfl ?_
  refine lv_bipush (v := 40) hx hb dX8_init_33 rfl ?_
  refine lv_bipush (v := 97) hx hb dX8_init_35 rfl ?_
  refine i_ctor (As := [.int 40, .int 97]) (cf := cfRow E 40 97) hC hsub hP hD hS hA hl.1 (m_X7_init l E 40 97 (by decide) _ _) cv_X7_init tw_1_98 rfl rfl ⟨Nat.le_of_ble_eq_true rfl, Nat.le_of_ble_eq_true rfl⟩ ⟨Nat.le_of_ble_eq_true rfl, Nat.le_of_ble_eq_true rfl⟩ (Nat.le_of_ble_eq_true rfl) dX8_init_37 (fun ad37 H locs h37 hP hD hS => ?_)
  rw [← h37]
  have hP : va_P (eD E) vwCl (((((b0, .inr (9, [.ref (ad9 0), .ref (ad22 0), .null, .null, .int 0])) :: [] : va_W) ++ pool 13 ad9 (cfRev E ad9)) ++ pool 2 ad22 (cfRow E 5 0 ad22)) ++ pool 2 ad37 (cfRow E 40 97 ad37)) H := hP
  have hD : va_D (fre b0 s.heap.size) (((((b0, .inr (9, [.ref (ad9 0), .ref (ad22 0), .null, .null, .int 0])) :: [] : va_W) ++ pool 13 ad9 (cfRev E ad9)) ++ pool 2 ad22 (cfRow E 5 0 ad22)) ++ pool 2 ad37 (cfRow E 40 97 ad37)) := hD
  refine va_putF hx hb hts in_X8 tyX8 tyX8_ok nmX8 hown hK hP hD hS 0 rfl rfl 2 (by decide) (hts _ tw_1_102) (fun _ h => h) rfl hC.2 rfl rfl rfl rfl (Nat.le_of_ble_eq_true rfl) dX8_init_40 (fun H locs hP hD hS => ?_)
  have hP : va_P (eD E) vwCl (((((b0, .inr (9, [.ref (ad9 0), .ref (ad22 0), .ref (ad37 0), .null, .int 0])) :: [] : va_W) ++ pool 13 ad9 (cfRev E ad9)) ++ pool 2 ad22 (cfRow E 5 0 ad22)) ++ pool 2 ad37 (cfRow E 40 97 ad37)) H := hP
  have hD : va_D (fre b0 s.heap.size) (((((b0, .inr (9, [.ref (ad9 0), .ref (ad22 0), .ref (ad37 0), .null, .int 0])) :: [] : va_W) ++ pool 13 ad9 (cfRev E ad9)) ++ pool 2 ad22 (cfRow E 5 0 ad22)) ++ pool 2 ad37 (cfRow E 40 97 ad37)) := hD
  refine lv_aload_n hx hb dX8_init_43 rfl (lv_at hl 0 rfl) ?_
  refine va_new (ci := 8) (fs := [.null]) (C := RX7) (T := TX7) (N := 1) hx hb hts in_X7 tyX7 tyX7_ok hown (hts _ tw_1_97) (hts _ tw_1_55) (hts _ tw_1_4) hK hP hD hS hA rfl (fun j hj => by rcases (show j = 0 by omega) with rfl <;> rfl) (Nat.le_of_ble_eq_true rfl) (Nat.le_of_ble_eq_true rfl) dX8_init_44 (fun q44 H hP hD hS => ?_)
  refine lv_dup hx hb dX8_init_47 rfl ?_
  refine lv_bipush (v := 26) hx hb dX8_init_48 rfl ?_
  refine lv_iconst (v := (-1)) hx hb dX8_init_50 rfl ?_
  refine i_ctor (As := [.int 26, .int (-1)]) (cf := cfRow E 26 (-1)) hC hsub hP hD hS hA hl.1 (m_X7_init l E 26 (-1) (by decide) _ _) cv_X7_init tw_1_98 rfl rfl ⟨Nat.le_of_ble_eq_true rfl, Nat.le_of_ble_eq_true rfl⟩ ⟨Nat.le_of_ble_eq_true rfl, Nat.le_of_ble_eq_true rfl⟩ (Nat.le_of_ble_eq_true rfl) dX8_init_51 (fun ad51 H locs h51 hP hD hS => ?_)
  rw [← h51]
  have hP : va_P (eD E) vwCl ((((((b0, .inr (9, [.ref (ad9 0), .ref (ad22 0), .ref (ad37 0), .null, .int 0])) :: [] : va_W) ++ pool 13 ad9 (cfRev E ad9)) ++ pool 2 ad22 (cfRow E 5 0 ad22)) ++ pool 2 ad37 (cfRow E 40 97 ad37)) ++ pool 2 ad51 (cfRow E 26 (-1) ad51)) H := hP
  have hD : va_D (fre b0 s.heap.size) ((((((b0, .inr (9, [.ref (ad9 0), .ref (ad22 0), .ref (ad37 0), .null, .int 0])) :: [] : va_W) ++ pool 13 ad9 (cfRev E ad9)) ++ pool 2 ad22 (cfRow E 5 0 ad22)) ++ pool 2 ad37 (cfRow E 40 97 ad37)) ++ pool 2 ad51 (cfRow E 26 (-1) ad51)) := hD
  refine va_putF hx hb hts in_X8 tyX8 tyX8_ok nmX8 hown hK hP hD hS 0 rfl rfl 3 (by decide) (hts _ tw_1_103) (fun _ h => h) rfl hC.2 rfl rfl rfl rfl (Nat.le_of_ble_eq_true rfl) dX8_init_54 (fun H locs hP hD hS => ?_)
  have hP : va_P (eD E) vwCl ((((((b0, .inr (9, [.ref (ad9 0), .ref (ad22 0), .ref (ad37 0), .ref (ad51 0), .int 0])) :: [] : va_W) ++ pool 13 ad9 (cfRev E ad9)) ++ pool 2 ad22 (cfRow E 5 0 ad22)) ++ pool 2 ad37 (cfRow E 40 97 ad37)) ++ pool 2 ad51 (cfRow E 26 (-1) ad51)) H := hP
  have hD : va_D (fre b0 s.heap.size) ((((((b0, .inr (9, [.ref (ad9 0), .ref (ad22 0), .ref (ad37 0), .ref (ad51 0), .int 0])) :: [] : va_W) ++ pool 13 ad9 (cfRev E ad9)) ++ pool 2 ad22 (cfRow E 5 0 ad22)) ++ pool 2 ad37 (cfRow E 40 97 ad37)) ++ pool 2 ad51 (cfRow E 26 (-1) ad51)) := hD
  refine lv_aload_n hx hb dX8_init_57 rfl (lv_at hl 0 rfl) ?_
  refine lv_iconst (v := 1) hx hb dX8_init_58 rfl ?_
  refine va_put hx hb hts in_X8 tyX8 tyX8_ok nmX8 hown hK hP hD hS 0 rfl rfl 4 (by decide) (hts _ tw_1_104) (fun _ h => h) rfl rfl rfl rfl (Nat.le_of_ble_eq_true rfl) dX8_init_59 (fun H locs hP hD hS => ?_)
  have hP : va_P (eD E) vwCl ((((((b0, .inr (9, [.ref (ad9 0), .ref (ad22 0), .ref (ad37 0), .ref (ad51 0), .int 1])) :: [] : va_W) ++ pool 13 ad9 (cfRev E ad9)) ++ pool 2 ad22 (cfRow E 5 0 ad22)) ++ pool 2 ad37 (cfRow E 40 97 ad37)) ++ pool 2 ad51 (cfRow E 26 (-1) ad51)) H := hP
  have hD : va_D (fre b0 s.heap.size) ((((((b0, .inr (9, [.ref (ad9 0), .ref (ad22 0), .ref (ad37 0), .ref (ad51 0), .int 1])) :: [] : va_W) ++ pool 13 ad9 (cfRev E ad9)) ++ pool 2 ad22 (cfRow E 5 0 ad22)) ++ pool 2 ad37 (cfRow E 40 97 ad37)) ++ pool 2 ad51 (cfRow E 26 (-1) ad51)) := hD
  refine x_wid (c2 := 19) (s2 := 400) (Nat.le_of_ble_eq_true rfl) (Nat.le_of_ble_eq_true rfl) ?_
  exact W.vret hx hb hC.1.2.2.2.2.2.2.2.2.2.1 (fun t ht _ => ⟨⟨rfl, fun i => ([b0, ad9 0, ad9 1, ad9 2, ad9 3, ad9 4, ad9 5, ad9 6, ad9 7, ad9 8, ad9 9, ad9 10, ad9 11, ad9 12, ad22 0, ad22 1, ad37 0, ad37 1, ad51 0, ad51 1] : List Nat).getD i 0, rfl, by rw [ht]; exact hP, hD⟩, hS.F ht⟩) hS.2.2 dX8_init_62 hC.1.2.2.2.2.2.2.2.2.2.2.1
theorem dX1_init_0 : decode cX1_init 0 = .ok (.aload_n 0, 1) := by decide +kernel
theorem dX1_init_1 : decode cX1_init 1 = .ok (.invokespecial 3, 3) := by decide +kernel
theorem dX1_init_4 : decode cX1_init 4 = .ok (.aload_n 0, 1) := by decide +kernel
theorem dX1_init_5 : decode cX1_init 5 = .ok (.new 9, 3) := by decide +kernel
theorem dX1_init_8 : decode cX1_init 8 = .ok (.dup, 1) := by decide +kernel
theorem dX1_init_9 : decode cX1_init 9 = .ok (.iconst 3, 1) := by decide +kernel
theorem dX1_init_10 : decode cX1_init 10 = .ok (.iconst 0, 1) := by decide +kernel
theorem dX1_init_11 : decode cX1_init 11 = .ok (.invokespecial 11, 3) := by decide +kernel
theorem dX1_init_14 : decode cX1_init 14 = .ok (.putfield 14, 3) := by decide +kernel
theorem dX1_init_17 : decode cX1_init 17 = .ok (.aload_n 0, 1) := by decide +kernel
theorem dX1_init_18 : decode cX1_init 18 = .ok (.getstatic 20, 3) := by decide +kernel
theorem dX1_init_21 : decode cX1_init 21 = .ok (.putfield 26, 3) := by decide +kernel
theorem dX1_init_24 : decode cX1_init 24 = .ok (.return_, 1) := by decide +kernel
theorem cv_X1_init : CalI yX1_init cX1_init 1 0 := ⟨⟨⟨by decide +kernel, by decide +kernel⟩, tw_1_7, tw_1_148, by decide +kernel⟩, rfl, tw_1_147⟩
set_option maxRecDepth 100000 in
set_option maxHeartbeats 4000000 in
theorem m_X1_init (l : Launch) (E : En) (hS0 : SF E) (sz b0 : Nat) : MI l E yX1_init cX1_init 1 2 2 4 sz b0 [] 4 [.null, .null, .int 0] 3 (cfCm E) := by
  refine entI (E := E) "LetterRepository$Command" (by decide +kernel) rfl rfl (Nat.le_of_ble_eq_true rfl) ?_
  intro p e s m below meth c ls hC hsub hP hD hS hl
  have hx := hC.1.1
  have hb := hC.1.2.1
  have hts := hC.1.2.2.2.2.1
  have hown := hC.1.2.2.2.1
  have hK := hC.1.2.2.2.2.2.1
  have hA : ∀ q, s.heap.size ≤ q → fre b0 s.heap.size q := fun q h => .inr h
  have hl : lv_has ls 1 [(0, .ref b0)] := hl
  refine lv_aload_n hx hb dX1_init_0 rfl (lv_at hl 0 rfl) ?_
  refine i_obj hC hl.1 tw_1_149 ⟨Nat.le_of_ble_eq_true rfl, Nat.le_of_ble_eq_true rfl⟩ dX1_init_1 ?_
  refine lv_aload_n hx hb dX1_init_4 rfl (lv_at hl 0 rfl) ?_
  refine va_new (ci := 8) (fs := [.null]) (C := RX7) (T := TX7) (N := 1) hx hb hts in_X7 tyX7 tyX7_ok hown (hts _ tw_1_150) (hts _ tw_1_55) (hts _ tw_1_4) hK hP hD hS hA rfl (fun j hj => by rcases (show j = 0 by omega) with rfl <;> rfl) (Nat.le_of_ble_eq_true rfl) (Nat.le_of_ble_eq_true rfl) dX1_init_5 (fun q5 H hP hD hS => ?_)
  refine lv_dup hx hb dX1_init_8 rfl ?_
  refine lv_iconst (v := 3) hx hb dX1_init_9 rfl ?_
  refine lv_iconst (v := 0) hx hb dX1_init_10 rfl ?_
  refine i_ctor (As := [.int 3, .int 0]) (cf := cfRow E 3 0) hC hsub hP hD hS hA hl.1 (m_X7_init l E 3 0 (by decide) _ _) cv_X7_init tw_1_151 rfl rfl ⟨Nat.le_of_ble_eq_true rfl, Nat.le_of_ble_eq_true rfl⟩ ⟨Nat.le_of_ble_eq_true rfl, Nat.le_of_ble_eq_true rfl⟩ (Nat.le_of_ble_eq_true rfl) dX1_init_11 (fun ad11 H locs h11 hP hD hS => ?_)
  rw [← h11]
  have hP : va_P (eD E) vwCl (((b0, .inr (4, [.null, .null, .int 0])) :: [] : va_W) ++ pool 2 ad11 (cfRow E 3 0 ad11)) H := hP
  have hD : va_D (fre b0 s.heap.size) (((b0, .inr (4, [.null, .null, .int 0])) :: [] : va_W) ++ pool 2 ad11 (cfRow E 3 0 ad11)) := hD
  refine va_putF hx hb hts in_X1 tyX1 tyX1_ok nmX1 hown hK hP hD hS 0 rfl rfl 0 (by decide) (hts _ tw_1_154) (fun _ h => h) rfl hC.2 rfl rfl rfl rfl (Nat.le_of_ble_eq_true rfl) dX1_init_14 (fun H locs hP hD hS => ?_)
  have hP : va_P (eD E) vwCl (((b0, .inr (4, [.ref (ad11 0), .null, .int 0])) :: [] : va_W) ++ pool 2 ad11 (cfRow E 3 0 ad11)) H := hP
  have hD : va_D (fre b0 s.heap.size) (((b0, .inr (4, [.ref (ad11 0), .null, .int 0])) :: [] : va_W) ++ pool 2 ad11 (cfRow E 3 0 ad11)) := hD
  refine lv_aload_n hx hb dX1_init_17 rfl (lv_at hl 0 rfl) ?_
  refine va_gets hx hb ((sfK hS0 hC.1).1 12 (by decide)).1 (va_S.mono hsub hS) hown (hts _ tw_1_152) (fun _ h => h) dX1_init_18 ?_
  refine va_put hx hb hts in_X1 tyX1 tyX1_ok nmX1 hown hK hP hD hS 0 rfl rfl 1 (by decide) (hts _ tw_1_155) (fun _ h => h) rfl rfl rfl rfl (Nat.le_of_ble_eq_true rfl) dX1_init_21 (fun H locs hP hD hS => ?_)
  have hP : va_P (eD E) vwCl (((b0, .inr (4, [.ref (ad11 0), .ref (eK E 12), .int 0])) :: [] : va_W) ++ pool 2 ad11 (cfRow E 3 0 ad11)) H := hP
  have hD : va_D (fre b0 s.heap.size) (((b0, .inr (4, [.ref (ad11 0), .ref (eK E 12), .int 0])) :: [] : va_W) ++ pool 2 ad11 (cfRow E 3 0 ad11)) := hD
  refine x_wid (c2 := 2) (s2 := 4) (Nat.le_of_ble_eq_true rfl) (Nat.le_of_ble_eq_true rfl) ?_
  exact W.vret hx hb hC.1.2.2.2.2.2.2.2.2.2.1 (fun t ht _ => ⟨⟨rfl, fun i => ([b0, ad11 0, ad11 1] : List Nat).getD i 0, rfl, by rw [ht]; exact hP, hD⟩, hS.F ht⟩) hS.2.2 dX1_init_24 hC.1.2.2.2.2.2.2.2.2.2.2.1
theorem arrV_cg {cI : ClassId} {N : Nat} {f g : Nat → Value} (h : ∀ j, j < N → f j = g j) : arrV cI N f = arrV cI N g := by
  unfold arrV
  congr 1
  congr 1
  funext j
  exact h j.val j.isLt
/-- blocks of w cells in a row -/
def flat (w : Nat) (c : (Nat → Nat) → Nat → va_E) (A : Nat → Nat) (k : Nat) : va_E := c (fun j => A (w * (k / w) + j)) (k % w)
def ctg (w : Nat) (c : (Nat → Nat) → Nat → va_E) : Prop := ∀ (A B : Nat → Nat), (∀ j, j < w → A j = B j) → ∀ r, r < w → c A r = c B r
theorem flat_step {w i : Nat} {c : (Nat → Nat) → Nat → va_E} {A B : Nat → Nat} (hw : 0 < w) (hc : ctg w c) : pool (w * i) A (flat w c A) ++ pool w B (c B) = pool (w * (i + 1)) (fun k => if k < w * i then A k else B (k - w * i)) (flat w c (fun k => if k < w * i then A k else B (k - w * i))) := by
  have hlen : (pool (w * i) A (flat w c A)).length = w * i := pool_len
  apply List.ext_getElem?
  intro k
  by_cases h : k < w * i
  · rw [List.getElem?_append_left (by omega), pool_get h, pool_get (by rw [Nat.mul_succ]; omega), if_pos h]
    congr 2
    unfold flat
    have hk : k / w < i := (Nat.div_lt_iff_lt_mul hw).mpr (by rw [Nat.mul_comm]; exact h)
    refine hc _ _ (fun j hj => ?_) _ (Nat.mod_lt _ hw)
    have : w * (k / w) + j < w * i := by
      have h1 : w * (k / w + 1) ≤ w * i := Nat.mul_le_mul_left w hk
      rw [Nat.mul_succ] at h1
      omega
    simp only [if_pos this]
  · rw [List.getElem?_append_right (by omega), hlen]
    by_cases h2 : k < w * (i + 1)
    · have hk : k - w * i < w := by rw [Nat.mul_succ] at h2; omega
      rw [pool_get hk, pool_get h2, if_neg h]
      congr 2
      unfold flat
      have e1 : k = w * i + (k - w * i) := by omega
      have e2 : k / w = i := by
        rw [e1, Nat.mul_add_div hw, Nat.div_eq_of_lt hk]; rfl
      have e3 : k % w = k - w * i := by
        rw [e1, Nat.mul_add_mod, Nat.mod_eq_of_lt hk]; omega
      rw [e2, e3]
      refine hc _ _ (fun j hj => ?_) _ hk
      show B j = if w * i + j < w * i then A (w * i + j) else B (w * i + j - w * i)
      rw [if_neg (by omega), Nat.add_sub_cancel_left]
    · rw [pool_none (by rw [Nat.mul_succ] at h2; omega), pool_none h2]
theorem ctgS : ctg 20 (cfSt E) := by
  intro A B h r hr
  have e0 : A 0 = B 0 := h 0 (by omega)
  have e : ∀ j, j < 20 → A (0 + j) = B (0 + j) := fun j hj => by rw [Nat.zero_add]; exact h j hj
  unfold cfSt stCell
  by_cases h0 : r = 0
  · subst h0; simp (discharger := omega) only [e]
  · by_cases h1 : r = 1
    · subst h1
      simp (discharger := omega) only [e]
      rfl
    · have er : r % 2 = 0 → A (0 + r + 1) = B (0 + r + 1) := fun h2 => h _ (by omega)
      have er2 : r % 2 = 0 → A (0 + (r + 1)) = B (0 + (r + 1)) := fun h2 => h _ (by omega)
      simp only [if_neg h0, if_neg h1]
      split
      · rename_i h2; simp only [er h2]
      · rfl
theorem ctgC : ctg 3 (cfCm E) := by
  intro A B h r hr
  have e0 : A 0 = B 0 := h 0 (by omega)
  have e : ∀ j, j < 3 → A (0 + j) = B (0 + j) := fun j hj => by rw [Nat.zero_add]; exact h j hj
  unfold cfCm cmCell
  split <;> simp (discharger := omega) only [e, e0]
theorem p_conv {ws ws' : va_W} {H : Heap} {A : Nat → Prop} {D : va_G} {cl : List vw_C} (hP : va_P D cl ws H) (hD : va_D A ws) (h : ∀ (j : Nat) (x' : Nat × va_E), ws'[j]? = some x' → ∃ x, ws[j]? = some x ∧ x.1 = x'.1 ∧ (va_at D cl x H → va_at D cl x' H)) : va_P D cl ws' H ∧ va_D A ws' := by
  refine ⟨fun k x hx => ?_, fun i j x y hx hy hxy => ?_, fun k x hx => ?_⟩
  · obtain ⟨z, h1, -, h3⟩ := h k x hx
    exact h3 (hP k z h1)
  · obtain ⟨z, h1, h2, -⟩ := h i x hx
    obtain ⟨z', h1', h2', -⟩ := h j y hy
    exact hD.1 i j z z' h1 h1' (by rw [h2, h2', hxy])
  · obtain ⟨z, h1, h2, -⟩ := h k x hx
    rw [← h2]; exact hD.2 k z h1
theorem set1 {α : Type} (x y : α) (l : List α) (z : α) : (x :: y :: l).set 1 z = x :: z :: l := rfl

theorem dX2_init_0 : decode cX2_init 0 = .ok (.aload_n 0, 1) := by decide +kernel
theorem dX2_init_1 : decode cX2_init 1 = .ok (.invokespecial 3, 3) := by decide +kernel
theorem dX2_init_4 : decode cX2_init 4 = .ok (.aload_n 0, 1) := by decide +kernel
theorem dX2_init_5 : decode cX2_init 5 = .ok (.bipush 9, 2) := by decide +kernel
theorem dX2_init_7 : decode cX2_init 7 = .ok (.anewarray 9, 3) := by decide +kernel
theorem dX2_init_10 : decode cX2_init 10 = .ok (.putfield 11, 3) := by decide +kernel
theorem dX2_init_13 : decode cX2_init 13 = .ok (.iconst 0, 1) := by decide +kernel
theorem dX2_init_14 : decode cX2_init 14 = .ok (.istore_n 1, 1) := by decide +kernel
theorem dX2_init_15 : decode cX2_init 15 = .ok (.iload_n 1, 1) := by decide +kernel
theorem dX2_init_16 : decode cX2_init 16 = .ok (.aload_n 0, 1) := by decide +kernel
theorem dX2_init_17 : decode cX2_init 17 = .ok (.getfield 11, 3) := by decide +kernel
theorem dX2_init_20 : decode cX2_init 20 = .ok (.arraylength, 1) := by decide +kernel
theorem dX2_init_21 : decode cX2_init 21 = .ok (.if_icmp .ge 22, 3) := by decide +kernel
theorem dX2_init_24 : decode cX2_init 24 = .ok (.aload_n 0, 1) := by decide +kernel
theorem dX2_init_25 : decode cX2_init 25 = .ok (.getfield 11, 3) := by decide +kernel
theorem dX2_init_28 : decode cX2_init 28 = .ok (.iload_n 1, 1) := by decide +kernel
theorem dX2_init_29 : decode cX2_init 29 = .ok (.new 9, 3) := by decide +kernel
theorem dX2_init_32 : decode cX2_init 32 = .ok (.dup, 1) := by decide +kernel
theorem dX2_init_33 : decode cX2_init 33 = .ok (.invokespecial 17, 3) := by decide +kernel
theorem dX2_init_36 : decode cX2_init 36 = .ok (.aastore, 1) := by decide +kernel
theorem dX2_init_37 : decode cX2_init 37 = .ok (.iinc 1 1, 3) := by decide +kernel
theorem dX2_init_40 : decode cX2_init 40 = .ok (.goto (-25), 3) := by decide +kernel
theorem dX2_init_43 : decode cX2_init 43 = .ok (.return_, 1) := by decide +kernel
theorem cv_X2_init : CalI yX2_init cX2_init 2 0 := ⟨⟨⟨by decide +kernel, by decide +kernel⟩, tw_1_5, tw_1_121, by decide +kernel⟩, rfl, tw_1_120⟩
/-- X2_init: its cells -/
def cfHi (E : En) (ad : Nat → Nat) (i : Nat) : va_E := if i = 0 then .inr (5, [.ref (ad 1), .int 0, .int 0]) else if i = 1 then .inl (eC E 4, 9, .inr (.inr (.inr (.inr (fun x => some (ad (20 * x + 2))))))) else flat 20 (cfSt E) (fun k => ad (k + 2)) (i - 2)
set_option maxRecDepth 100000 in
set_option maxHeartbeats 4000000 in
theorem m_X2_init (l : Launch) (E : En) (hS0 : SF E) (sz b0 : Nat) : MI l E yX2_init cX2_init 2 4 181 3654 sz b0 [] 5 [.null, .int 0, .int 0] (2 + 9 * 20) (cfHi E) := by
  refine entI (E := E) "LetterRepository$History" (by decide +kernel) rfl rfl (Nat.le_of_ble_eq_true rfl) ?_
  intro p e s m below meth c ls hC hsub hP hD hS hl
  have hx := hC.1.1
  have hb := hC.1.2.1
  have hts := hC.1.2.2.2.2.1
  have hown := hC.1.2.2.2.1
  have hK := hC.1.2.2.2.2.2.1
  have hA : ∀ q, s.heap.size ≤ q → fre b0 s.heap.size q := fun q h => .inr h
  have hl : lv_has ls 2 [(0, .ref b0)] := hl
  have hAO := (hS0 s s.heap hC.1.2.2.2.2.2.2.2.1).2.2.2.2.2.2.2.2.2.2.2.2.2.2.1
  refine lv_aload_n hx hb dX2_init_0 rfl (lv_at hl 0 rfl) ?_
  refine i_obj hC hl.1 tw_1_122 ⟨Nat.le_of_ble_eq_true rfl, Nat.le_of_ble_eq_true rfl⟩ dX2_init_1 ?_
  refine lv_aload_n hx hb dX2_init_4 rfl (lv_at hl 0 rfl) ?_
  refine lv_bipush (v := 9) hx hb dX2_init_5 rfl ?_
  refine va_newq (C := "LetterRepository$Store") (N' := 9) hx hb hown (hts _ tw_1_123) hAO hK hP hD hS hA (by decide) rfl (by decide) (Nat.le_of_ble_eq_true rfl) (Nat.le_of_ble_eq_true rfl) dX2_init_7 (fun a cA H hK2 hP hD hS => ?_)
  have hcA : cA = eC E 4 := by
    obtain ⟨_, _, _, _, _, h1⟩ := (hK2.2 6 (cA, .object "LetterRepository$Store") rfl).2
    obtain ⟨_, _, _, _, _, h2⟩ := (hK.2 4 (eC E 4, .object "LetterRepository$Store") rfl).2
    exact Option.some.inj (h1.symm.trans h2)
  subst hcA
  refine va_putF hx hb hts in_X2 tyX2 tyX2_ok nmX2 hown hK hP hD hS 0 rfl rfl 0 (by decide) (hts _ tw_1_126) (fun _ h => h) rfl hC.2 rfl rfl rfl rfl (Nat.le_of_ble_eq_true rfl) dX2_init_10 (fun H locs hP hD hS => ?_)
  have hP : va_P (eD E) vwCl (([(b0, .inr (5, [.ref a, .int 0, .int 0])), (a, .inl (eC E 4, 9, .inr (.inr (.inr (.inr (fun x => if x < 0 then some ((fun _ => 0 : Nat → Nat) (20 * x)) else none))))))] : va_W) ++ pool (20 * 0) (fun _ => 0) (flat 20 (cfSt E) (fun _ => 0))) H := by
    have e0 : (fun x => if x < 0 then some ((fun _ => 0 : Nat → Nat) (20 * x)) else none) = (fun _ => none : Nat → Option Nat) := by funext x; simp
    have e1 : pool (20 * 0) (fun _ => 0) (flat 20 (cfSt E) (fun _ => 0)) = [] := rfl
    rw [e0, e1]; exact hP
  have hD : va_D (fre b0 s.heap.size) (([(b0, .inr (5, [.ref a, .int 0, .int 0])), (a, .inl (eC E 4, 9, .inr (.inr (.inr (.inr (fun x => if x < 0 then some ((fun _ => 0 : Nat → Nat) (20 * x)) else none))))))] : va_W) ++ pool (20 * 0) (fun _ => 0) (flat 20 (cfSt E) (fun _ => 0))) := by
    have e0 : (fun x => if x < 0 then some ((fun _ => 0 : Nat → Nat) (20 * x)) else none) = (fun _ => none : Nat → Option Nat) := by funext x; simp
    have e1 : pool (20 * 0) (fun _ => 0) (flat 20 (cfSt E) (fun _ => 0)) = [] := rfl
    rw [e0, e1]; exact hD
  refine lv_iconst (v := nI 0) hx hb dX2_init_13 rfl ?_
  refine lv_istore_n (lv' := [(1, .int (nI 0)), (0, .ref b0)]) hx hb dX2_init_14 rfl hl (Nat.lt_of_lt_of_eq (by decide) rfl) rfl (fun ls hl => ?_)
  have L : ∀ (k i : Nat) (A : Nat → Nat) (H : Heap) (locs : List Loc) (ls : Array Slot) (cells slots : Nat), i + k = 9 → cells + 20 * k ≤ 181 → slots + 405 * k ≤ 3654 → va_P (eD E) vwCl (([(b0, .inr (5, [.ref a, .int 0, .int 0])), (a, .inl (eC E 4, 9, .inr (.inr (.inr (.inr (fun x => if x < i then some (A (20 * x)) else none))))))] : va_W) ++ pool (20 * i) A (flat 20 (cfSt E) A)) H → va_D (fre b0 s.heap.size) (([(b0, .inr (5, [.ref a, .int 0, .int 0])), (a, .inl (eC E 4, 9, .inr (.inr (.inr (.inr (fun x => if x < i then some (A (20 * x)) else none))))))] : va_W) ++ pool (20 * i) A (flat 20 (cfSt E) A)) → va_S (fre b0 s.heap.size) s.heap H locs → lv_has ls 2 [(1, .int (nI i)), (0, .ref b0)] → W p l e (rmx 4 181 3654) s m [.ref b0].toArray below meth c H locs cells slots (MQ below (QI E b0 (2 + 9 * 20) (cfHi E)) [.ref b0].toArray s 181 3654 (fre b0 s.heap.size)) (F0 m 15 ls []) := by
    intro k
    induction k with
    | zero =>
      intro i A H locs ls cells slots hi hc1 hc2 hP hD hS hl
      obtain rfl : i = 9 := by omega
      refine lv_iload_n hx hb dX2_init_15 rfl (lv_at hl 0 rfl) ?_
      refine lv_aload_n hx hb dX2_init_16 rfl (lv_at hl 1 rfl) ?_
      refine va_get (T := TX2) hx hb hts in_X2 hown hK hP 0 rfl rfl 0 (by decide) (hts _ tw_1_126) (fun _ h => h) rfl dX2_init_17 ?_
      refine va_alen (x := (9, .inr (.inr (.inr (.inr (fun x => if x < 9 then some (A (20 * x)) else none)))))) hx hb hK hP 1 4 rfl rfl rfl dX2_init_20 ?_
      refine lv_icmp_ge (tgt := 43) hx hb dX2_init_21 (by decide) (fun _ => ?_) (fun h => absurd (Int32.le_refl _) h)
      refine x_wid (c2 := 181) (s2 := 3654) (by omega) (by omega) ?_
      have had : (fun k => (fun j => if j = 0 then b0 else if j = 1 then a else A (j - 2)) (k + 2)) = A := by funext k; simp
      obtain ⟨hP, hD⟩ := p_conv (ws' := pool (2 + 9 * 20) (fun j => if j = 0 then b0 else if j = 1 then a else A (j - 2)) (cfHi E (fun j => if j = 0 then b0 else if j = 1 then a else A (j - 2)))) hP hD (fun j x' hx' => by
        have hj : j < 2 + 9 * 20 := by
          have h := (List.getElem?_eq_some_iff.mp hx').1
          rwa [pool_len] at h
        rw [pool_get hj] at hx'
        cases hx'
        by_cases h0 : j = 0
        · subst h0; exact ⟨_, rfl, rfl, fun h => h⟩
        · by_cases h1 : j = 1
          · subst h1
            refine ⟨_, rfl, rfl, fun h => ?_⟩
            have h : H[a]? = some (vp_cell (eC E 4) (9, .inr (.inr (.inr (.inr (fun x => if x < 9 then some (A (20 * x)) else none)))))) := h
            show H[a]? = some (vp_cell (eC E 4) (9, .inr (.inr (.inr (.inr (fun x => some ((fun j => if j = 0 then b0 else if j = 1 then a else A (j - 2)) (20 * x + 2))))))))
            rw [h, vp_cell_q, vp_cell_q]
            congr 1
            all_goals exact arrV_cg (fun x hx => by simp [hx])
          · obtain ⟨r, rfl⟩ : ∃ r, j = r + 2 := ⟨j - 2, by omega⟩
            refine ⟨(A r, flat 20 (cfSt E) A r), ?_, ?_, fun h => ?_⟩
            · rw [List.getElem?_append_right (by simp), show r + 2 - [(b0, (.inr (5, [.ref a, .int 0, .int 0]) : va_E)), (a, .inl (eC E 4, 9, .inr (.inr (.inr (.inr (fun x => if x < 9 then some (A (20 * x)) else none))))))].length = r by simp, pool_get (by omega)]
            · simp
            · have e : (cfHi E (fun j => if j = 0 then b0 else if j = 1 then a else A (j - 2)) (r + 2)) = flat 20 (cfSt E) A r := by
                unfold cfHi
                rw [if_neg (by omega), if_neg (by omega), had]
                simp
              have e2 : (if r + 2 = 0 then b0 else if r + 2 = 1 then a else A (r + 2 - 2)) = A r := by simp
              show va_at _ _ ((if r + 2 = 0 then b0 else if r + 2 = 1 then a else A (r + 2 - 2)), cfHi E (fun j => if j = 0 then b0 else if j = 1 then a else A (j - 2)) (r + 2)) H
              rw [e, e2]
              exact h)
      exact W.vret hx hb hC.1.2.2.2.2.2.2.2.2.2.1 (fun t ht _ => ⟨⟨rfl, _, rfl, by rw [ht]; exact hP, hD⟩, hS.F ht⟩) hS.2.2 dX2_init_43 hC.1.2.2.2.2.2.2.2.2.2.2.1
    | succ k ih =>
      intro i A H locs ls cells slots hi hc1 hc2 hP hD hS hl
      refine lv_iload_n hx hb dX2_init_15 rfl (lv_at hl 0 rfl) ?_
      refine lv_aload_n hx hb dX2_init_16 rfl (lv_at hl 1 rfl) ?_
      refine va_get (T := TX2) hx hb hts in_X2 hown hK hP 0 rfl rfl 0 (by decide) (hts _ tw_1_126) (fun _ h => h) rfl dX2_init_17 ?_
      refine va_alen (x := (9, .inr (.inr (.inr (.inr (fun x => if x < i then some (A (20 * x)) else none)))))) hx hb hK hP 1 4 rfl rfl rfl dX2_init_20 ?_
      refine lv_icmp_ge (tgt := 43) hx hb dX2_init_21 (by decide) (fun h => absurd h (nI_ge (by omega) (by omega))) (fun _ => ?_)
      refine lv_aload_n hx hb dX2_init_24 rfl (lv_at hl 1 rfl) ?_
      refine va_get (T := TX2) hx hb hts in_X2 hown hK hP 0 rfl rfl 0 (by decide) (hts _ tw_1_126) (fun _ h => h) rfl dX2_init_25 ?_
      refine lv_iload_n hx hb dX2_init_28 rfl (lv_at hl 0 rfl) ?_
      refine va_new (ci := 9) (fs := [.null, .null, .null, .null, .int 0]) (C := RX8) (T := TX8) (N := 5) hx hb hts in_X8 tyX8 tyX8_ok hown (hts _ tw_1_123) (hts _ tw_1_43) (hts _ tw_1_2) hK hP hD hS hA rfl (fun j hj => by rcases (show j = 0 ∨ j = 1 ∨ j = 2 ∨ j = 3 ∨ j = 4 by omega) with rfl | rfl | rfl | rfl | rfl <;> rfl) (by show cells + 1 ≤ 181; omega) (by show slots + 5 ≤ 3654; omega) dX2_init_29 (fun q H hP hD hS => ?_)
      refine lv_dup hx hb dX2_init_32 rfl ?_
      refine i_ctorN (As := []) (cf := cfSt E) hC hsub hP hD hS hA hl.1 (m_X8_init l E _ _) cv_X8_init tw_1_125 rfl rfl ⟨Nat.le_of_ble_eq_true rfl, Nat.le_of_ble_eq_true rfl⟩ ⟨by show cells + 1 + 19 ≤ 181; omega, by show slots + 5 + 400 ≤ 3654; omega⟩ (Nat.le_of_ble_eq_true rfl) dX2_init_33 (fun B H locs hB hP hD hS => ?_)
      rw [← hB]
      have hlen : (pool (20 * i) A (flat 20 (cfSt E) A)).length = 20 * i := pool_len
      have hv : ((([(b0, .inr (5, [.ref a, .int 0, .int 0])), (a, .inl (eC E 4, 9, .inr (.inr (.inr (.inr (fun x => if x < i then some (A (20 * x)) else none))))))] : va_W) ++ pool (20 * i) A (flat 20 (cfSt E) A)) ++ pool 20 B (cfSt E B))[2 + 20 * i]? = some (B 0, cfSt E B 0) := by
        rw [List.getElem?_append_right (by simp [hlen]; omega), List.length_append, hlen, pool_get (by simp)]
        simp
      refine va_astq (n := 9) (f := (fun x => if x < i then some (A (20 * x)) else none)) hx hb hK hP hD hS 1 4 (2 + 20 * i) 9 rfl rfl hv rfl (nI_in (by omega) (by omega)) dX2_init_36 (fun H locs hP hD hS => ?_)
      have e1 : va_up ((fun x => if x < i then some (A (20 * x)) else none) : Nat → Option Nat) (nI i).toNatClampNeg (some (B 0)) = (fun x => if x < i + 1 then some ((fun k => if k < 20 * i then A k else B (k - 20 * i)) (20 * x)) else none) := by
        funext x
        rw [nI_clamp (by omega)]
        by_cases h : x = i
        · subst h; simp [va_up]
        · by_cases h2 : x < i
          · simp [va_up, h, h2, show x < i + 1 by omega, show 20 * x < 20 * i by omega]
          · simp [va_up, h, h2, show ¬ x < i + 1 by omega]
      have e2 : ((([(b0, .inr (5, [.ref a, .int 0, .int 0])), (a, .inl (eC E 4, 9, .inr (.inr (.inr (.inr (fun x => if x < i then some (A (20 * x)) else none))))))] : va_W) ++ pool (20 * i) A (flat 20 (cfSt E) A)) ++ pool 20 B (cfSt E B)).set 1 (a, .inl (eC E 4, 9, .inr (.inr (.inr (.inr (va_up ((fun x => if x < i then some (A (20 * x)) else none) : Nat → Option Nat) (nI i).toNatClampNeg (some (B 0)))))))) = ([(b0, .inr (5, [.ref a, .int 0, .int 0])), (a, .inl (eC E 4, 9, .inr (.inr (.inr (.inr (fun x => if x < i + 1 then some ((fun k => if k < 20 * i then A k else B (k - 20 * i)) (20 * x)) else none))))))] : va_W) ++ pool (20 * (i + 1)) (fun k => if k < 20 * i then A k else B (k - 20 * i)) (flat 20 (cfSt E) (fun k => if k < 20 * i then A k else B (k - 20 * i))) := by
        rw [e1, ← flat_step (by decide) ctgS]
        rfl
      rw [e2] at hP hD
      refine lv_iinc (v := nI (i + 1)) (lv' := [(1, .int (nI (i + 1))), (0, .ref b0)]) hx hb dX2_init_37 hl (k := 0) rfl (nI_1 i) (Nat.lt_of_lt_of_eq (by decide) rfl) rfl (fun ls hl => ?_)
      refine lv_goto (tgt := 15) hx hb dX2_init_40 (by decide) ?_
      exact ih (i + 1) (fun k => if k < 20 * i then A k else B (k - 20 * i)) H locs ls _ _ (by omega) (by omega) (by omega) hP hD hS hl
  exact L 9 0 (fun _ => 0) H locs ls _ _ rfl (by decide) (by decide) hP hD hS hl

theorem dX4_init_0 : decode cX4_init 0 = .ok (.aload_n 0, 1) := by decide +kernel
theorem dX4_init_1 : decode cX4_init 1 = .ok (.invokespecial 3, 3) := by decide +kernel
theorem dX4_init_4 : decode cX4_init 4 = .ok (.aload_n 0, 1) := by decide +kernel
theorem dX4_init_5 : decode cX4_init 5 = .ok (.bipush 8, 2) := by decide +kernel
theorem dX4_init_7 : decode cX4_init 7 = .ok (.anewarray 9, 3) := by decide +kernel
theorem dX4_init_10 : decode cX4_init 10 = .ok (.putfield 11, 3) := by decide +kernel
theorem dX4_init_13 : decode cX4_init 13 = .ok (.aload_n 0, 1) := by decide +kernel
theorem dX4_init_14 : decode cX4_init 14 = .ok (.iconst (-1), 1) := by decide +kernel
theorem dX4_init_15 : decode cX4_init 15 = .ok (.putfield 17, 3) := by decide +kernel
theorem dX4_init_18 : decode cX4_init 18 = .ok (.iconst 0, 1) := by decide +kernel
theorem dX4_init_19 : decode cX4_init 19 = .ok (.istore_n 1, 1) := by decide +kernel
theorem dX4_init_20 : decode cX4_init 20 = .ok (.iload_n 1, 1) := by decide +kernel
theorem dX4_init_21 : decode cX4_init 21 = .ok (.aload_n 0, 1) := by decide +kernel
theorem dX4_init_22 : decode cX4_init 22 = .ok (.getfield 11, 3) := by decide +kernel
theorem dX4_init_25 : decode cX4_init 25 = .ok (.arraylength, 1) := by decide +kernel
theorem dX4_init_26 : decode cX4_init 26 = .ok (.if_icmp .ge 22, 3) := by decide +kernel
theorem dX4_init_29 : decode cX4_init 29 = .ok (.aload_n 0, 1) := by decide +kernel
theorem dX4_init_30 : decode cX4_init 30 = .ok (.getfield 11, 3) := by decide +kernel
theorem dX4_init_33 : decode cX4_init 33 = .ok (.iload_n 1, 1) := by decide +kernel
theorem dX4_init_34 : decode cX4_init 34 = .ok (.new 9, 3) := by decide +kernel
theorem dX4_init_37 : decode cX4_init 37 = .ok (.dup, 1) := by decide +kernel
theorem dX4_init_38 : decode cX4_init 38 = .ok (.invokespecial 21, 3) := by decide +kernel
theorem dX4_init_41 : decode cX4_init 41 = .ok (.aastore, 1) := by decide +kernel
theorem dX4_init_42 : decode cX4_init 42 = .ok (.iinc 1 1, 3) := by decide +kernel
theorem dX4_init_45 : decode cX4_init 45 = .ok (.goto (-25), 3) := by decide +kernel
theorem dX4_init_48 : decode cX4_init 48 = .ok (.return_, 1) := by decide +kernel
theorem cv_X4_init : CalI yX4_init cX4_init 2 0 := ⟨⟨⟨by decide +kernel, by decide +kernel⟩, tw_1_6, tw_1_141, by decide +kernel⟩, rfl, tw_1_140⟩
/-- X4_init: its cells -/
def cfPr (E : En) (ad : Nat → Nat) (i : Nat) : va_E := if i = 0 then .inr (6, [.ref (ad 1), .int 0, .int (-1), .int 0]) else if i = 1 then .inl (eC E 5, 8, .inr (.inr (.inr (.inr (fun x => some (ad (3 * x + 2))))))) else flat 3 (cfCm E) (fun k => ad (k + 2)) (i - 2)
set_option maxRecDepth 100000 in
set_option maxHeartbeats 4000000 in
theorem m_X4_init (l : Launch) (E : En) (hS0 : SF E) (sz b0 : Nat) : MI l E yX4_init cX4_init 2 3 25 64 sz b0 [] 6 [.null, .int 0, .int 0, .int 0] (2 + 8 * 3) (cfPr E) := by
  refine entI (E := E) "LetterRepository$Program" (by decide +kernel) rfl rfl (Nat.le_of_ble_eq_true rfl) ?_
  intro p e s m below meth c ls hC hsub hP hD hS hl
  have hx := hC.1.1
  have hb := hC.1.2.1
  have hts := hC.1.2.2.2.2.1
  have hown := hC.1.2.2.2.1
  have hK := hC.1.2.2.2.2.2.1
  have hA : ∀ q, s.heap.size ≤ q → fre b0 s.heap.size q := fun q h => .inr h
  have hl : lv_has ls 2 [(0, .ref b0)] := hl
  have hAO := (hS0 s s.heap hC.1.2.2.2.2.2.2.2.1).2.2.2.2.2.2.2.2.2.2.2.2.2.2.2
  refine lv_aload_n hx hb dX4_init_0 rfl (lv_at hl 0 rfl) ?_
  refine i_obj hC hl.1 tw_1_142 ⟨Nat.le_of_ble_eq_true rfl, Nat.le_of_ble_eq_true rfl⟩ dX4_init_1 ?_
  refine lv_aload_n hx hb dX4_init_4 rfl (lv_at hl 0 rfl) ?_
  refine lv_bipush (v := 8) hx hb dX4_init_5 rfl ?_
  refine va_newq (C := "LetterRepository$Command") (N' := 8) hx hb hown (hts _ tw_1_143) hAO hK hP hD hS hA (by decide) rfl (by decide) (Nat.le_of_ble_eq_true rfl) (Nat.le_of_ble_eq_true rfl) dX4_init_7 (fun a cA H hK2 hP hD hS => ?_)
  have hcA : cA = eC E 5 := by
    obtain ⟨_, _, _, _, _, h1⟩ := (hK2.2 6 (cA, .object "LetterRepository$Command") rfl).2
    obtain ⟨_, _, _, _, _, h2⟩ := (hK.2 5 (eC E 5, .object "LetterRepository$Command") rfl).2
    exact Option.some.inj (h1.symm.trans h2)
  subst hcA
  refine va_putF hx hb hts in_X4 tyX4 tyX4_ok nmX4 hown hK hP hD hS 0 rfl rfl 0 (by decide) (hts _ tw_1_165) (fun _ h => h) rfl hC.2 rfl rfl rfl rfl (Nat.le_of_ble_eq_true rfl) dX4_init_10 (fun H locs hP hD hS => ?_)
  refine lv_aload_n hx hb dX4_init_13 rfl (lv_at hl 0 rfl) ?_
  refine lv_iconst (v := (-1)) hx hb dX4_init_14 rfl ?_
  refine va_put hx hb hts in_X4 tyX4 tyX4_ok nmX4 hown hK hP hD hS 0 rfl rfl 2 (by decide) (hts _ tw_1_168) (fun _ h => h) rfl rfl rfl rfl (Nat.le_of_ble_eq_true rfl) dX4_init_15 (fun H locs hP hD hS => ?_)
  have hP : va_P (eD E) vwCl (([(b0, .inr (6, [.ref a, .int 0, .int (-1), .int 0])), (a, .inl (eC E 5, 8, .inr (.inr (.inr (.inr (fun x => if x < 0 then some ((fun _ => 0 : Nat → Nat) (3 * x)) else none))))))] : va_W) ++ pool (3 * 0) (fun _ => 0) (flat 3 (cfCm E) (fun _ => 0))) H := by
    have e0 : (fun x => if x < 0 then some ((fun _ => 0 : Nat → Nat) (3 * x)) else none) = (fun _ => none : Nat → Option Nat) := by funext x; simp
    have e1 : pool (3 * 0) (fun _ => 0) (flat 3 (cfCm E) (fun _ => 0)) = [] := rfl
    rw [e0, e1]; exact hP
  have hD : va_D (fre b0 s.heap.size) (([(b0, .inr (6, [.ref a, .int 0, .int (-1), .int 0])), (a, .inl (eC E 5, 8, .inr (.inr (.inr (.inr (fun x => if x < 0 then some ((fun _ => 0 : Nat → Nat) (3 * x)) else none))))))] : va_W) ++ pool (3 * 0) (fun _ => 0) (flat 3 (cfCm E) (fun _ => 0))) := by
    have e0 : (fun x => if x < 0 then some ((fun _ => 0 : Nat → Nat) (3 * x)) else none) = (fun _ => none : Nat → Option Nat) := by funext x; simp
    have e1 : pool (3 * 0) (fun _ => 0) (flat 3 (cfCm E) (fun _ => 0)) = [] := rfl
    rw [e0, e1]; exact hD
  refine lv_iconst (v := nI 0) hx hb dX4_init_18 rfl ?_
  refine lv_istore_n (lv' := [(1, .int (nI 0)), (0, .ref b0)]) hx hb dX4_init_19 rfl hl (Nat.lt_of_lt_of_eq (by decide) rfl) rfl (fun ls hl => ?_)
  have L : ∀ (k i : Nat) (A : Nat → Nat) (H : Heap) (locs : List Loc) (ls : Array Slot) (cells slots : Nat), i + k = 8 → cells + 3 * k ≤ 25 → slots + 7 * k ≤ 64 → va_P (eD E) vwCl (([(b0, .inr (6, [.ref a, .int 0, .int (-1), .int 0])), (a, .inl (eC E 5, 8, .inr (.inr (.inr (.inr (fun x => if x < i then some (A (3 * x)) else none))))))] : va_W) ++ pool (3 * i) A (flat 3 (cfCm E) A)) H → va_D (fre b0 s.heap.size) (([(b0, .inr (6, [.ref a, .int 0, .int (-1), .int 0])), (a, .inl (eC E 5, 8, .inr (.inr (.inr (.inr (fun x => if x < i then some (A (3 * x)) else none))))))] : va_W) ++ pool (3 * i) A (flat 3 (cfCm E) A)) → va_S (fre b0 s.heap.size) s.heap H locs → lv_has ls 2 [(1, .int (nI i)), (0, .ref b0)] → W p l e (rmx 3 25 64) s m [.ref b0].toArray below meth c H locs cells slots (MQ below (QI E b0 (2 + 8 * 3) (cfPr E)) [.ref b0].toArray s 25 64 (fre b0 s.heap.size)) (F0 m 20 ls []) := by
    intro k
    induction k with
    | zero =>
      intro i A H locs ls cells slots hi hc1 hc2 hP hD hS hl
      obtain rfl : i = 8 := by omega
      refine lv_iload_n hx hb dX4_init_20 rfl (lv_at hl 0 rfl) ?_
      refine lv_aload_n hx hb dX4_init_21 rfl (lv_at hl 1 rfl) ?_
      refine va_get (T := TX4) hx hb hts in_X4 hown hK hP 0 rfl rfl 0 (by decide) (hts _ tw_1_165) (fun _ h => h) rfl dX4_init_22 ?_
      refine va_alen (x := (8, .inr (.inr (.inr (.inr (fun x => if x < 8 then some (A (3 * x)) else none)))))) hx hb hK hP 1 5 rfl rfl rfl dX4_init_25 ?_
      refine lv_icmp_ge (tgt := 48) hx hb dX4_init_26 (by decide) (fun _ => ?_) (fun h => absurd (Int32.le_refl _) h)
      refine x_wid (c2 := 25) (s2 := 64) (by omega) (by omega) ?_
      have had : (fun k => (fun j => if j = 0 then b0 else if j = 1 then a else A (j - 2)) (k + 2)) = A := by funext k; simp
      obtain ⟨hP, hD⟩ := p_conv (ws' := pool (2 + 8 * 3) (fun j => if j = 0 then b0 else if j = 1 then a else A (j - 2)) (cfPr E (fun j => if j = 0 then b0 else if j = 1 then a else A (j - 2)))) hP hD (fun j x' hx' => by
        have hj : j < 2 + 8 * 3 := by
          have h := (List.getElem?_eq_some_iff.mp hx').1
          rwa [pool_len] at h
        rw [pool_get hj] at hx'
        cases hx'
        by_cases h0 : j = 0
        · subst h0; exact ⟨_, rfl, rfl, fun h => h⟩
        · by_cases h1 : j = 1
          · subst h1
            refine ⟨_, rfl, rfl, fun h => ?_⟩
            have h : H[a]? = some (vp_cell (eC E 5) (8, .inr (.inr (.inr (.inr (fun x => if x < 8 then some (A (3 * x)) else none)))))) := h
            show H[a]? = some (vp_cell (eC E 5) (8, .inr (.inr (.inr (.inr (fun x => some ((fun j => if j = 0 then b0 else if j = 1 then a else A (j - 2)) (3 * x + 2))))))))
            rw [h, vp_cell_q, vp_cell_q]
            congr 1
            all_goals exact arrV_cg (fun x hx => by simp [hx])
          · obtain ⟨r, rfl⟩ : ∃ r, j = r + 2 := ⟨j - 2, by omega⟩
            refine ⟨(A r, flat 3 (cfCm E) A r), ?_, ?_, fun h => ?_⟩
            · rw [List.getElem?_append_right (by simp), show r + 2 - [(b0, (.inr (6, [.ref a, .int 0, .int (-1), .int 0]) : va_E)), (a, .inl (eC E 5, 8, .inr (.inr (.inr (.inr (fun x => if x < 8 then some (A (3 * x)) else none))))))].length = r by simp, pool_get (by omega)]
            · simp
            · have e : (cfPr E (fun j => if j = 0 then b0 else if j = 1 then a else A (j - 2)) (r + 2)) = flat 3 (cfCm E) A r := by
                unfold cfPr
                rw [if_neg (by omega), if_neg (by omega), had]
                simp
              have e2 : (if r + 2 = 0 then b0 else if r + 2 = 1 then a else A (r + 2 - 2)) = A r := by simp
              show va_at _ _ ((if r + 2 = 0 then b0 else if r + 2 = 1 then a else A (r + 2 - 2)), cfPr E (fun j => if j = 0 then b0 else if j = 1 then a else A (j - 2)) (r + 2)) H
              rw [e, e2]
              exact h)
      exact W.vret hx hb hC.1.2.2.2.2.2.2.2.2.2.1 (fun t ht _ => ⟨⟨rfl, _, rfl, by rw [ht]; exact hP, hD⟩, hS.F ht⟩) hS.2.2 dX4_init_48 hC.1.2.2.2.2.2.2.2.2.2.2.1
    | succ k ih =>
      intro i A H locs ls cells slots hi hc1 hc2 hP hD hS hl
      refine lv_iload_n hx hb dX4_init_20 rfl (lv_at hl 0 rfl) ?_
      refine lv_aload_n hx hb dX4_init_21 rfl (lv_at hl 1 rfl) ?_
      refine va_get (T := TX4) hx hb hts in_X4 hown hK hP 0 rfl rfl 0 (by decide) (hts _ tw_1_165) (fun _ h => h) rfl dX4_init_22 ?_
      refine va_alen (x := (8, .inr (.inr (.inr (.inr (fun x => if x < i then some (A (3 * x)) else none)))))) hx hb hK hP 1 5 rfl rfl rfl dX4_init_25 ?_
      refine lv_icmp_ge (tgt := 48) hx hb dX4_init_26 (by decide) (fun h => absurd h (nI_ge (by omega) (by omega))) (fun _ => ?_)
      refine lv_aload_n hx hb dX4_init_29 rfl (lv_at hl 1 rfl) ?_
      refine va_get (T := TX4) hx hb hts in_X4 hown hK hP 0 rfl rfl 0 (by decide) (hts _ tw_1_165) (fun _ h => h) rfl dX4_init_30 ?_
      refine lv_iload_n hx hb dX4_init_33 rfl (lv_at hl 0 rfl) ?_
      refine va_new (ci := 4) (fs := [.null, .null, .int 0]) (C := RX1) (T := TX1) (N := 3) hx hb hts in_X1 tyX1 tyX1_ok hown (hts _ tw_1_143) (hts _ tw_1_145) (hts _ tw_1_7) hK hP hD hS hA rfl (fun j hj => by rcases (show j = 0 ∨ j = 1 ∨ j = 2 by omega) with rfl | rfl | rfl <;> rfl) (by show cells + 1 ≤ 25; omega) (by show slots + 3 ≤ 64; omega) dX4_init_34 (fun q H hP hD hS => ?_)
      refine lv_dup hx hb dX4_init_37 rfl ?_
      refine i_ctorN (As := []) (cf := cfCm E) hC hsub hP hD hS hA hl.1 (m_X1_init l E hS0 _ _) cv_X1_init tw_1_146 rfl rfl ⟨Nat.le_of_ble_eq_true rfl, Nat.le_of_ble_eq_true rfl⟩ ⟨by show cells + 1 + 2 ≤ 25; omega, by show slots + 3 + 4 ≤ 64; omega⟩ (Nat.le_of_ble_eq_true rfl) dX4_init_38 (fun B H locs hB hP hD hS => ?_)
      rw [← hB]
      have hlen : (pool (3 * i) A (flat 3 (cfCm E) A)).length = 3 * i := pool_len
      have hv : ((([(b0, .inr (6, [.ref a, .int 0, .int (-1), .int 0])), (a, .inl (eC E 5, 8, .inr (.inr (.inr (.inr (fun x => if x < i then some (A (3 * x)) else none))))))] : va_W) ++ pool (3 * i) A (flat 3 (cfCm E) A)) ++ pool 3 B (cfCm E B))[2 + 3 * i]? = some (B 0, cfCm E B 0) := by
        rw [List.getElem?_append_right (by simp [hlen]; omega), List.length_append, hlen, pool_get (by simp)]
        simp
      refine va_astq (n := 8) (f := (fun x => if x < i then some (A (3 * x)) else none)) hx hb hK hP hD hS 1 5 (2 + 3 * i) 4 rfl rfl hv rfl (nI_in (by omega) (by omega)) dX4_init_41 (fun H locs hP hD hS => ?_)
      have e1 : va_up ((fun x => if x < i then some (A (3 * x)) else none) : Nat → Option Nat) (nI i).toNatClampNeg (some (B 0)) = (fun x => if x < i + 1 then some ((fun k => if k < 3 * i then A k else B (k - 3 * i)) (3 * x)) else none) := by
        funext x
        rw [nI_clamp (by omega)]
        by_cases h : x = i
        · subst h; simp [va_up]
        · by_cases h2 : x < i
          · simp [va_up, h, h2, show x < i + 1 by omega, show 3 * x < 3 * i by omega]
          · simp [va_up, h, h2, show ¬ x < i + 1 by omega]
      have e2 : ((([(b0, .inr (6, [.ref a, .int 0, .int (-1), .int 0])), (a, .inl (eC E 5, 8, .inr (.inr (.inr (.inr (fun x => if x < i then some (A (3 * x)) else none))))))] : va_W) ++ pool (3 * i) A (flat 3 (cfCm E) A)) ++ pool 3 B (cfCm E B)).set 1 (a, .inl (eC E 5, 8, .inr (.inr (.inr (.inr (va_up ((fun x => if x < i then some (A (3 * x)) else none) : Nat → Option Nat) (nI i).toNatClampNeg (some (B 0)))))))) = ([(b0, .inr (6, [.ref a, .int 0, .int (-1), .int 0])), (a, .inl (eC E 5, 8, .inr (.inr (.inr (.inr (fun x => if x < i + 1 then some ((fun k => if k < 3 * i then A k else B (k - 3 * i)) (3 * x)) else none))))))] : va_W) ++ pool (3 * (i + 1)) (fun k => if k < 3 * i then A k else B (k - 3 * i)) (flat 3 (cfCm E) (fun k => if k < 3 * i then A k else B (k - 3 * i))) := by
        rw [e1, ← flat_step (by decide) ctgC]
        rfl
      rw [e2] at hP hD
      refine lv_iinc (v := nI (i + 1)) (lv' := [(1, .int (nI (i + 1))), (0, .ref b0)]) hx hb dX4_init_42 hl (k := 0) rfl (nI_1 i) (Nat.lt_of_lt_of_eq (by decide) rfl) rfl (fun ls hl => ?_)
      refine lv_goto (tgt := 20) hx hb dX4_init_45 (by decide) ?_
      exact ih (i + 1) (fun k => if k < 3 * i then A k else B (k - 3 * i)) H locs ls _ _ (by omega) (by omega) (by omega) hP hD hS hl
  exact L 8 0 (fun _ => 0) H locs ls _ _ rfl (by decide) (by decide) hP hD hS hl

end R098
