/-! 64: the law's own news; what they made, as the world -/
section R64
variable {p : Program} {l : Launch} {e : Env} {R : Room} {s : State} {m : MethodId} {args : Array Value} {below : List Frame} {meth : Method} {c : Code} {H : Heap} {locs : List Loc} {cells slots : Nat} {Q : State → Prop}
variable {E : En} {ow : String} {b : ByteArray} {n index : Nat} {ret : Option FieldType} {pc : Nat} {ls : Array Slot} {rest : List Value} {ws : va_W}
theorem l_join {A : Nat → Prop} {q : Nat} {e0 : va_E} {wl : va_W} {H1 : Heap} (hP : va_P (eD E) vwCl (ws ++ [(q, e0)]) H) (hD : va_D A (ws ++ [(q, e0)])) (hz : ∀ x, H.size ≤ x → A x) (hF : H.size ≤ H1.size ∧ ∀ x : Nat, x < H.size → ¬ fre q H.size x → H1[x]? = H[x]?) (hP1 : va_P (eD E) vwCl wl H1) (hD1 : va_D (fre q H.size) wl) :
    va_P (eD E) vwCl (ws ++ wl) H1 ∧ va_D A (ws ++ wl) := by
  have hq : (ws ++ [(q, e0)])[ws.length]? = some (q, e0) := by rw [List.getElem?_append_right (Nat.le_refl _)]; simp
  have hold : ∀ (k : Nat) (x : Nat × va_E), ws[k]? = some x → (ws ++ [(q, e0)])[k]? = some x ∧ k < ws.length := fun k x hx => by
    have hk := (List.getElem?_eq_some_iff.mp hx).1
    exact ⟨by rw [List.getElem?_append_left hk]; exact hx, hk⟩
  have hne : ∀ (k : Nat) (x : Nat × va_E), ws[k]? = some x → x.1 < H.size ∧ x.1 ≠ q := fun k x hx => by
    obtain ⟨h1, h2⟩ := hold k x hx
    refine ⟨(hP k x h1).lt, fun e => ?_⟩
    have := hD.1 k ws.length x (q, e0) h1 hq e
    omega
  have hws : va_P (eD E) vwCl ws H := fun k x hx => hP k x (hold k x hx).1
  have hws1 : va_P (eD E) vwCl ws H1 := hws.kept (fun k x hx => hF.2 x.1 (hne k x hx).1 (fun h => by
    rcases h with h | h
    · exact (hne k x hx).2 h
    · exact absurd (hne k x hx).1 (Nat.not_lt.mpr h)))
  have hwsD : va_D A ws := ⟨fun i j x y hx hy h => hD.1 i j x y (hold i x hx).1 (hold j y hy).1 h, fun k x hx => hD.2 k x (hold k x hx).1⟩
  have hwlD : va_D A wl := hD1.weaken (fun k x hx h => by
    rcases h with h | h
    · rw [h]; exact hD.2 _ _ hq
    · exact hz _ h)
  refine ⟨hws1.app hP1, hwsD.app hwlD (fun i j x y hx hy e => ?_)⟩
  have a1 := hne i x hx
  rcases hD1.2 j y hy with h | h
  · exact a1.2 (e.trans h)
  · rw [← e] at h; exact absurd a1.1 (Nat.not_lt.mpr h)
theorem l_after {A : Nat → Prop} {q mc ms ci : Nat} {fs0 : List Value} {Sh : va_W → Prop} {a : Array Value} {st : List Value} (hsub : ∀ q, A q → ours E q) (hP : va_P (eD E) vwCl (ws ++ [(q, .inr (ci, fs0))]) H) (hD : va_D A (ws ++ [(q, .inr (ci, fs0))])) (hS : va_S A s.heap H locs) (hz : ∀ x, s.heap.size ≤ x → A x)
    (hr : va_Run p l e R s m args below meth c H locs cells slots mc ms (F0 m pc ls st) rest (QJ E q Sh a) (fre q H.size))
    (kk : ∀ (tl : va_W) (H1 : Heap) (locs1 : List Loc), Sh tl → va_P (eD E) vwCl (ws ++ tl) H1 → va_D A (ws ++ tl) → va_S A s.heap H1 locs1 → W p l e R s m args below meth c H1 locs1 (cells + mc) (slots + ms) Q (F0 m (pc + 3) ls rest)) : W p l e R s m args below meth c H locs cells slots Q (F0 m pc ls st) := by
  intro T hT X
  obtain ⟨w, st₀, t, T', L, h0, X', hL, e1, e2, ⟨⟨hv, tl, ha, hP1, hD1⟩, hF⟩, st⟩ := hr T hT X
  cases hv
  obtain ⟨hz1, hk⟩ := hF
  rw [h0] at hz1 hk hD1
  have hzH : ∀ x, H.size ≤ x → A x := fun x hx => hz x (Nat.le_trans hS.1 hx)
  obtain ⟨j1, j2⟩ := l_join hP hD hzH ⟨hz1, hk⟩ hP1 hD1
  have hq : A q := hD.2 ws.length (q, .inr (ci, fs0)) (by rw [List.getElem?_append_right (Nat.le_refl _)]; simp)
  have hS1 : va_S A s.heap T'.heap (locs ++ L) := by
    refine ⟨Nat.le_trans hS.1 (by rw [e1]; exact hz1), fun x h1 h2 => ?_, fun z hz' => ?_⟩
    · rw [e1, hk x (Nat.lt_of_lt_of_le h1 hS.1) (fun h => by
        rcases h with h | h
        · exact h2 (h ▸ hq)
        · exact h2 (hzH x h))]
      exact hS.2.1 x h1 h2
    · rcases List.mem_append.mp hz' with h | h
      · exact hS.2.2 z h
      · rcases hL z h with h | h
        · exact h ▸ hq
        · exact hzH _ h
  obtain ⟨t2, a1, b1⟩ := kk tl T'.heap (locs ++ L) ha (by rw [e1]; exact j1) j2 hS1 T' rfl X'
  exact ⟨t2, st t2 a1, b1⟩
theorem l_ctorJ {A : Nat → Prop} {q mc ms ci d1 n1 : Nat} {y : MethodName} {bytes : ByteArray} {st : List Value} {fs0 : List Value} {Sh : va_W → Prop} (hC : Cx p s m args c meth E ow b n ret) (hsub : ∀ q, A q → ours E q) (hP : va_P (eD E) vwCl (ws ++ [(q, .inr (ci, fs0))]) H) (hD : va_D A (ws ++ [(q, .inr (ci, fs0))])) (hS : va_S A s.heap H locs) (hz : ∀ x, s.heap.size ≤ x → A x) (hsz : ls.size = n)
    (hM : MJ l E y bytes n1 d1 mc ms H.size q ci fs0 Sh) (hy : CalI y bytes n1 0) (hl : Cond.methodLink ow index y ∈ TB) (hst : st = .ref q :: rest) (hR : d1 + 1 ≤ R.frames ∧ 8 + (n1 + 11) + 40 * d1 ≤ R.locals) (hcs : cells + mc ≤ R.cells ∧ slots + ms ≤ R.slots) (hw : (rest.map fun v => v.category).sum ≤ 8) (hdg : decode b pc = .ok (.invokespecial index, 3))
    (kk : ∀ (tl : va_W) (H1 : Heap) (locs1 : List Loc), Sh tl → va_P (eD E) vwCl (ws ++ tl) H1 → va_D A (ws ++ tl) → va_S A s.heap H1 locs1 → W p l e R s m args below meth c H1 locs1 (cells + mc) (slots + ms) Q (F0 m (pc + 3) ls rest)) : W p l e R s m args below meth c H locs cells slots Q (F0 m pc ls st) := by
  have ht := hC.2.2.2.2.1
  refine l_after hsub hP hD hS hz (va_runI (Ts := TB) (As := []) (rest := rest) ⟨hC.1, hC.2.1, hC.2.2.1, hC.2.2.2.1, ht⟩ hM ⟨callB_tb (na := 0) hC hy.1 hl rfl rfl hR, hy.2.1, ht _ hy.2.2⟩ ⟨preI_blind, fun U hU hW => ⟨rfl, ?_⟩⟩ rfl rfl hsz hst (lv_room (rest := st) (ls := ls) (pc := pc) (m := m) hw) hdg hcs) kk
  exact i_pre hC hsub hP hD hS U hU hW
theorem l_ctor {A : Nat → Prop} {q nn mc ms ci d1 n1 : Nat} {y : MethodName} {bytes : ByteArray} {st : List Value} {fs0 : List Value} {cf : (Nat → Nat) → Nat → va_E} (hC : Cx p s m args c meth E ow b n ret) (hsub : ∀ q, A q → ours E q) (hP : va_P (eD E) vwCl (ws ++ [(q, .inr (ci, fs0))]) H) (hD : va_D A (ws ++ [(q, .inr (ci, fs0))])) (hS : va_S A s.heap H locs) (hz : ∀ x, s.heap.size ≤ x → A x) (hsz : ls.size = n)
    (hM : MI l E y bytes n1 d1 mc ms H.size q [] ci fs0 nn cf) (hy : CalI y bytes n1 0) (hl : Cond.methodLink ow index y ∈ TB) (hst : st = .ref q :: rest) (hR : d1 + 1 ≤ R.frames ∧ 8 + (n1 + 11) + 40 * d1 ≤ R.locals) (hcs : cells + mc ≤ R.cells ∧ slots + ms ≤ R.slots) (hw : (rest.map fun v => v.category).sum ≤ 8) (hdg : decode b pc = .ok (.invokespecial index, 3))
    (kk : ∀ (ad' : Nat → Nat) (H1 : Heap) (locs1 : List Loc), ad' 0 = q → va_P (eD E) vwCl (ws ++ pool nn ad' (cf ad')) H1 → va_D A (ws ++ pool nn ad' (cf ad')) → va_S A s.heap H1 locs1 → W p l e R s m args below meth c H1 locs1 (cells + mc) (slots + ms) Q (F0 m (pc + 3) ls rest)) : W p l e R s m args below meth c H locs cells slots Q (F0 m pc ls st) := by
  have ht := hC.2.2.2.2.1
  refine i_after hsub hP hD hS hz (va_runI (Ts := TB) (As := []) (rest := rest) ⟨hC.1, hC.2.1, hC.2.2.1, hC.2.2.2.1, ht⟩ hM ⟨callB_tb (na := 0) hC hy.1 hl rfl rfl hR, hy.2.1, ht _ hy.2.2⟩ ⟨preI_blind, fun U hU hW => ⟨rfl, ?_⟩⟩ rfl rfl hsz hst (lv_room (rest := st) (ls := ls) (pc := pc) (m := m) hw) hdg hcs) kk
  exact i_pre hC hsub hP hD hS U hU hW
end R64
/-! what was made, in its order, and in the world's -/
def adV (q9 q3 : Nat) (a1 a2 a3 a4 a5 a6 am : Nat → Nat) (i : Nat) : Nat :=
  if i < 20 then a1 i else if i < 40 then a2 (i - 20) else if i < 220 then a3 (i - 38) else if i < 222 then a3 (i - 220) else if i < 248 then a4 (i - 222) else if i = 248 then q9 else if i < 251 then a5 (i - 249) else if i < 253 then a6 (i - 251) else if i < 265 then am (i - 253) else q3
def gV (i : Nat) : Nat := if i < 40 then i + 1 else if i < 220 then i + 3 else if i < 222 then i - 179 else if i < 248 then i + 1 else if i = 248 then 0 else i
def hV (n : Nat) : Nat := if n = 0 then 248 else if n < 41 then n - 1 else if n < 43 then n + 179 else if n < 223 then n - 3 else if n < 249 then n - 1 else n
theorem hV_gV : ∀ i, i < 266 → hV (gV i) = i := by decide +kernel
def LLW (E : En) (q9 q3 : Nat) (a1 a2 a3 a4 a5 a6 am : Nat → Nat) : va_W := ((((((((([(q9, .inr (10, [.ref (a1 0), .ref (a2 0), .ref (a3 0), .ref (a4 0), .ref (a5 0), .ref (a6 0), .int 0, .int (-1), .int (-1)]))] ++ pool 20 a1 (cfSt E a1)) ++ pool 20 a2 (cfSt E a2)) ++ pool 182 a3 (cfHi E a3)) ++ pool 26 a4 (cfPr E a4)) ++ pool 2 a5 (cfTx E a5)) ++ pool 2 a6 (cfTx E a6)) ++ pool 12 am (cfMo E am)) ++ [(q3, .inl (eC E 3, 1, .inr (.inl (fun _ => 0))))]) : va_W)
theorem up1 {L Y : va_W} {k : Nat} {x : Nat × va_E} (h : L[k]? = some x) : (L ++ Y)[k]? = some x := by
  rw [List.getElem?_append_left (List.getElem?_eq_some_iff.mp h).1]; exact h
theorem pl_at {X : va_W} {N n j : Nat} {a : Nat → Nat} {f : Nat → va_E} (hl : X.length = n) (hj : j < N) : (X ++ pool N a f)[n + j]? = some (a j, f j) := by
  rw [List.getElem?_append_right (by omega), hl, Nat.add_sub_cancel_left]; exact pool_get hj
theorem pl_ln {X : va_W} {N n : Nat} {a : Nat → Nat} {f : Nat → va_E} (hl : X.length = n) : (X ++ pool N a f).length = n + N := by
  rw [List.length_append, hl, pool_len]
section WJ
variable {E : En} {q9 q3 : Nat} {a1 a2 a3 a4 a5 a6 am : Nat → Nat}
theorem ll_0 : (LLW E q9 q3 a1 a2 a3 a4 a5 a6 am)[0]? = some (q9, .inr (10, [.ref (a1 0), .ref (a2 0), .ref (a3 0), .ref (a4 0), .ref (a5 0), .ref (a6 0), .int 0, .int (-1), .int (-1)])) := up1 (up1 (up1 (up1 (up1 (up1 (up1 (up1 rfl)))))))
theorem ll_1 {j : Nat} (hj : j < 20) : (LLW E q9 q3 a1 a2 a3 a4 a5 a6 am)[1 + j]? = some (a1 j, cfSt E a1 j) := up1 (up1 (up1 (up1 (up1 (up1 (up1 (pl_at rfl hj)))))))
theorem ll_2 {j : Nat} (hj : j < 20) : (LLW E q9 q3 a1 a2 a3 a4 a5 a6 am)[21 + j]? = some (a2 j, cfSt E a2 j) := up1 (up1 (up1 (up1 (up1 (up1 (pl_at (pl_ln rfl) hj))))))
theorem ll_3 {j : Nat} (hj : j < 182) : (LLW E q9 q3 a1 a2 a3 a4 a5 a6 am)[41 + j]? = some (a3 j, cfHi E a3 j) := up1 (up1 (up1 (up1 (up1 (pl_at (pl_ln (pl_ln rfl)) hj)))))
theorem ll_4 {j : Nat} (hj : j < 26) : (LLW E q9 q3 a1 a2 a3 a4 a5 a6 am)[223 + j]? = some (a4 j, cfPr E a4 j) := up1 (up1 (up1 (up1 (pl_at (pl_ln (pl_ln (pl_ln rfl))) hj))))
theorem ll_5 {j : Nat} (hj : j < 2) : (LLW E q9 q3 a1 a2 a3 a4 a5 a6 am)[249 + j]? = some (a5 j, cfTx E a5 j) := up1 (up1 (up1 (pl_at (pl_ln (pl_ln (pl_ln (pl_ln rfl)))) hj)))
theorem ll_6 {j : Nat} (hj : j < 2) : (LLW E q9 q3 a1 a2 a3 a4 a5 a6 am)[251 + j]? = some (a6 j, cfTx E a6 j) := up1 (up1 (pl_at (pl_ln (pl_ln (pl_ln (pl_ln (pl_ln rfl))))) hj))
theorem ll_7 {j : Nat} (hj : j < 12) : (LLW E q9 q3 a1 a2 a3 a4 a5 a6 am)[253 + j]? = some (am j, cfMo E am j) := up1 (pl_at (pl_ln (pl_ln (pl_ln (pl_ln (pl_ln (pl_ln rfl)))))) hj)
theorem ll_8 : (LLW E q9 q3 a1 a2 a3 a4 a5 a6 am)[265]? = some (q3, .inl (eC E 3, 1, .inr (.inl (fun _ => 0)))) := by
  have h : ((((((((([(q9, .inr (10, [.ref (a1 0), .ref (a2 0), .ref (a3 0), .ref (a4 0), .ref (a5 0), .ref (a6 0), .int 0, .int (-1), .int (-1)]))] ++ pool 20 a1 (cfSt E a1)) ++ pool 20 a2 (cfSt E a2)) ++ pool 182 a3 (cfHi E a3)) ++ pool 26 a4 (cfPr E a4)) ++ pool 2 a5 (cfTx E a5)) ++ pool 2 a6 (cfTx E a6)) ++ pool 12 am (cfMo E am)) : va_W)).length = 265 := pl_ln (pl_ln (pl_ln (pl_ln (pl_ln (pl_ln (pl_ln rfl))))))
  unfold LLW
  rw [List.getElem?_append_right (by rw [h]; exact Nat.le_refl _), h]; rfl
theorem st_off {ad : Nat → Nat} {b j : Nat} {v : Nat → Int32} : stCell E (fun x => ad (b + x)) 0 j v = stCell E ad b j v := by
  simp only [stCell, Nat.zero_add, Nat.add_assoc]
theorem cm_off {ad : Nat → Nat} {b j : Nat} {v : Nat → Int32} : cmCell E (fun x => ad (b + x)) 0 j v = cmCell E ad b j v := by
  simp only [cmCell, Nat.zero_add]
theorem cell_st {a ad : Nat → Nat} {n j : Nat} (hn : n < 11) (hj : j < 20) (h : ∀ x, x < 20 → a x = ad (20 * n + x)) : cfSt E a j = cell E ad (20 * n + j) (V0 (20 * n + j)) := by
  rw [ctgS a (fun x => ad (20 * n + x)) h j hj]
  have e1 : (20 * n + j) % 20 = j := by omega
  have e2 : V0 (20 * n + j) = V0st j := by unfold V0; rw [if_pos (by omega), e1]
  unfold cell
  rw [if_pos (by omega), e1, e2, Nat.add_sub_cancel]
  exact st_off
theorem cell_cm {a ad : Nat → Nat} {n j : Nat} (hn : n < 8) (hj : j < 3) (h : ∀ x, x < 3 → a x = ad (224 + 3 * n + x)) : cfCm E a j = cell E ad (224 + 3 * n + j) (V0 (224 + 3 * n + j)) := by
  rw [ctgC a (fun x => ad (224 + 3 * n + x)) h j hj]
  have e1 : (224 + 3 * n + j - 224) % 3 = j := by omega
  have e2 : V0 (224 + 3 * n + j) = V0cm j := by unfold V0; rw [if_neg (by omega), if_neg (by omega), if_pos (by omega), e1]
  unfold cell
  rw [if_neg (by omega), if_pos (by omega), e1, e2, Nat.add_sub_cancel]
  exact cm_off
abbrev AD (q9 q3 : Nat) (a1 a2 a3 a4 a5 a6 am : Nat → Nat) : Nat → Nat := adV q9 q3 a1 a2 a3 a4 a5 a6 am
theorem ad_1 {i : Nat} (h : i < 20) : adV q9 q3 a1 a2 a3 a4 a5 a6 am i = a1 i := if_pos h
theorem ad_2 {i : Nat} (h : 20 ≤ i) (h2 : i < 40) : adV q9 q3 a1 a2 a3 a4 a5 a6 am i = a2 (i - 20) := by unfold adV; rw [if_neg (by omega), if_pos h2]
theorem ad_3 {i : Nat} (h : 40 ≤ i) (h2 : i < 220) : adV q9 q3 a1 a2 a3 a4 a5 a6 am i = a3 (i - 38) := by unfold adV; rw [if_neg (by omega), if_neg (by omega), if_pos h2]
theorem ad_4 {i : Nat} (h : 222 ≤ i) (h2 : i < 248) : adV q9 q3 a1 a2 a3 a4 a5 a6 am i = a4 (i - 222) := by unfold adV; rw [if_neg (by omega), if_neg (by omega), if_neg (by omega), if_neg (by omega), if_pos h2]
theorem ll_at {H : Heap} : ∀ k, k < 266 → ∃ c, (LLW E q9 q3 a1 a2 a3 a4 a5 a6 am)[gV k]? = some (adV q9 q3 a1 a2 a3 a4 a5 a6 am k, c) ∧ (va_at (eD E) vwCl (adV q9 q3 a1 a2 a3 a4 a5 a6 am k, c) H → va_at (eD E) vwCl (adV q9 q3 a1 a2 a3 a4 a5 a6 am k, cell E (adV q9 q3 a1 a2 a3 a4 a5 a6 am) k (V0 k)) H) := by
  intro k hk
  have same : ∀ {c : va_E}, c = cell E (adV q9 q3 a1 a2 a3 a4 a5 a6 am) k (V0 k) → (va_at (eD E) vwCl (adV q9 q3 a1 a2 a3 a4 a5 a6 am k, c) H → va_at (eD E) vwCl (adV q9 q3 a1 a2 a3 a4 a5 a6 am k, cell E (adV q9 q3 a1 a2 a3 a4 a5 a6 am) k (V0 k)) H) := fun e h => e ▸ h
  by_cases h220 : k < 220
  · obtain ⟨n, j, hj, rfl⟩ : ∃ n j, j < 20 ∧ k = 20 * n + j := ⟨k / 20, k % 20, Nat.mod_lt _ (by omega), (Nat.div_add_mod k 20).symm⟩
    have hn : n < 11 := by omega
    rcases Nat.lt_or_ge n 2 with q | q
    · rcases (show n = 0 ∨ n = 1 by omega) with rfl | rfl
      · refine ⟨cfSt E a1 j, ?_, same (cell_st (n := 0) hn hj (fun x hx => by rw [ad_1 (by omega)]; congr 1; omega))⟩
        rw [ad_1 (by omega), show gV (20 * 0 + j) = 1 + j by unfold gV; rw [if_pos (by omega)]; omega, show 20 * 0 + j = j by omega]
        exact ll_1 hj
      · refine ⟨cfSt E a2 j, ?_, same (cell_st (n := 1) hn hj (fun x hx => by rw [ad_2 (by omega) (by omega)]; congr 1; omega))⟩
        rw [ad_2 (by omega) (by omega), show gV (20 * 1 + j) = 21 + j by unfold gV; rw [if_pos (by omega)]; omega, show 20 * 1 + j - 20 = j by omega]
        exact ll_2 hj
    · obtain ⟨n, rfl⟩ : ∃ n', n = n' + 2 := ⟨n - 2, by omega⟩
      have ei : 20 * (n + 2) + j - 38 = 20 * n + j + 2 := by omega
      refine ⟨cfSt E (fun x => a3 (20 * n + x + 2)) j, ?_, same (cell_st (n := n + 2) hn hj (fun x hx => by rw [ad_3 (by omega) (by omega)]; exact congrArg a3 (by omega)))⟩
      rw [ad_3 (by omega) (by omega), show gV (20 * (n + 2) + j) = 41 + (20 * n + j + 2) by unfold gV; rw [if_neg (by omega), if_pos (by omega)]; omega, ei, ll_3 (by omega)]
      have e3 : cfHi E a3 (20 * n + j + 2) = cfSt E (fun x => a3 (20 * n + x + 2)) j := by
        unfold cfHi flat
        rw [if_neg (by omega), if_neg (by omega), Nat.add_sub_cancel, show (20 * n + j) / 20 = n by omega, show (20 * n + j) % 20 = j by omega]
      rw [e3]
  · by_cases h248 : 224 ≤ k ∧ k < 248
    · obtain ⟨n, j, hj, rfl⟩ : ∃ n j, j < 3 ∧ k = 224 + 3 * n + j := ⟨(k - 224) / 3, (k - 224) % 3, Nat.mod_lt _ (by omega), by have := Nat.div_add_mod (k - 224) 3; omega⟩
      have ei : 224 + 3 * n + j - 222 = 3 * n + j + 2 := by omega
      refine ⟨cfCm E (fun x => a4 (3 * n + x + 2)) j, ?_, same (cell_cm (n := n) (by omega) hj (fun x hx => by rw [ad_4 (by omega) (by omega)]; exact congrArg a4 (by omega)))⟩
      rw [ad_4 (by omega) (by omega), show gV (224 + 3 * n + j) = 223 + (3 * n + j + 2) by unfold gV; rw [if_neg (by omega), if_neg (by omega), if_neg (by omega), if_pos (by omega)]; omega, ei, ll_4 (by omega)]
      have e3 : cfPr E a4 (3 * n + j + 2) = cfCm E (fun x => a4 (3 * n + x + 2)) j := by
        unfold cfPr flat
        rw [if_neg (by omega), if_neg (by omega), Nat.add_sub_cancel, show (3 * n + j) / 3 = n by omega, show (3 * n + j) % 3 = j by omega]
      rw [e3]
    · rcases (show k = 220 ∨ k = 221 ∨ k = 222 ∨ k = 223 ∨ k = 248 ∨ k = 249 ∨ k = 250 ∨ k = 251 ∨ k = 252 ∨ k = 253 ∨ k = 254 ∨ k = 255 ∨ k = 256 ∨ k = 257 ∨ k = 258 ∨ k = 259 ∨ k = 260 ∨ k = 261 ∨ k = 262 ∨ k = 263 ∨ k = 264 ∨ k = 265 by omega) with rfl | rfl | rfl | rfl | rfl | rfl | rfl | rfl | rfl | rfl | rfl | rfl | rfl | rfl | rfl | rfl | rfl | rfl | rfl | rfl | rfl | rfl
      · exact ⟨_, ll_3 (j := 0) (by omega), same rfl⟩
      · refine ⟨_, ll_3 (j := 1) (by omega), fun h => ?_⟩
        have h : H[a3 1]? = some (arrV (eC E 4) 9 (fun j => va_rf (some (a3 (20 * j + 2))))) := h
        show H[a3 1]? = some (arrV (eC E 4) 9 (fun j => va_rf (some (adV q9 q3 a1 a2 a3 a4 a5 a6 am (20 * (j + 2))))))
        rw [h]
        refine congrArg some (arrV_cg fun j hj => ?_)
        rw [ad_3 (by omega) (by omega), show 20 * (j + 2) - 38 = 20 * j + 2 by omega]
      · exact ⟨_, ll_4 (j := 0) (by omega), same rfl⟩
      · refine ⟨_, ll_4 (j := 1) (by omega), fun h => ?_⟩
        have h : H[a4 1]? = some (arrV (eC E 5) 8 (fun j => va_rf (some (a4 (3 * j + 2))))) := h
        show H[a4 1]? = some (arrV (eC E 5) 8 (fun j => va_rf (some (adV q9 q3 a1 a2 a3 a4 a5 a6 am (224 + 3 * j)))))
        rw [h]
        refine congrArg some (arrV_cg fun j hj => ?_)
        rw [ad_4 (by omega) (by omega), show 224 + 3 * j - 222 = 3 * j + 2 by omega]
      · exact ⟨_, ll_0, same rfl⟩
      · exact ⟨_, ll_5 (j := 0) (by omega), same rfl⟩
      · exact ⟨_, ll_5 (j := 1) (by omega), same rfl⟩
      · exact ⟨_, ll_6 (j := 0) (by omega), same rfl⟩
      · exact ⟨_, ll_6 (j := 1) (by omega), same rfl⟩
      · exact ⟨_, ll_7 (j := 0) (by omega), same rfl⟩
      · exact ⟨_, ll_7 (j := 1) (by omega), same rfl⟩
      · exact ⟨_, ll_7 (j := 2) (by omega), same rfl⟩
      · exact ⟨_, ll_7 (j := 3) (by omega), same rfl⟩
      · exact ⟨_, ll_7 (j := 4) (by omega), same rfl⟩
      · exact ⟨_, ll_7 (j := 5) (by omega), same rfl⟩
      · exact ⟨_, ll_7 (j := 6) (by omega), same rfl⟩
      · exact ⟨_, ll_7 (j := 7) (by omega), same rfl⟩
      · exact ⟨_, ll_7 (j := 8) (by omega), same rfl⟩
      · exact ⟨_, ll_7 (j := 9) (by omega), same rfl⟩
      · exact ⟨_, ll_7 (j := 10) (by omega), same rfl⟩
      · exact ⟨_, ll_7 (j := 11) (by omega), same rfl⟩
      · exact ⟨_, ll_8, same rfl⟩
theorem wj_P {H : Heap} (hP : va_P (eD E) vwCl (LLW E q9 q3 a1 a2 a3 a4 a5 a6 am) H) : va_P (eD E) vwCl (pool 266 (adV q9 q3 a1 a2 a3 a4 a5 a6 am) (fun i => cell E (adV q9 q3 a1 a2 a3 a4 a5 a6 am) i (V0 i))) H := by
  intro k x hx
  by_cases hk : k < 266
  · rw [pool_get hk] at hx
    cases hx
    obtain ⟨c, h1, h2⟩ := ll_at (E := E) (q9 := q9) (q3 := q3) (a1 := a1) (a2 := a2) (a3 := a3) (a4 := a4) (a5 := a5) (a6 := a6) (am := am) (H := H) k hk
    exact h2 (hP _ _ h1)
  · rw [pool_none hk] at hx; cases hx
theorem wj_D {A : Nat → Prop} (hD : va_D A (LLW E q9 q3 a1 a2 a3 a4 a5 a6 am)) : va_D A (pool 266 (adV q9 q3 a1 a2 a3 a4 a5 a6 am) (fun i => cell E (adV q9 q3 a1 a2 a3 a4 a5 a6 am) i (V0 i))) := by
  have at1 : ∀ k (x : Nat × va_E), (pool 266 (adV q9 q3 a1 a2 a3 a4 a5 a6 am) (fun i => cell E (adV q9 q3 a1 a2 a3 a4 a5 a6 am) i (V0 i)))[k]? = some x → k < 266 ∧ ∃ c, (LLW E q9 q3 a1 a2 a3 a4 a5 a6 am)[gV k]? = some (x.1, c) := fun k x hx => by
    by_cases hk : k < 266
    · rw [pool_get hk] at hx
      cases hx
      obtain ⟨c, h1, -⟩ := ll_at (E := E) (q9 := q9) (q3 := q3) (a1 := a1) (a2 := a2) (a3 := a3) (a4 := a4) (a5 := a5) (a6 := a6) (am := am) (H := #[]) k hk
      exact ⟨hk, c, h1⟩
    · rw [pool_none hk] at hx; cases hx
  refine ⟨fun i j x y hx hy hxy => ?_, fun k x hx => ?_⟩
  · obtain ⟨h1, c1, z1⟩ := at1 i x hx
    obtain ⟨h2, c2, z2⟩ := at1 j y hy
    have := hD.1 _ _ _ _ z1 z2 hxy
    rw [← hV_gV i h1, ← hV_gV j h2, this]
  · obtain ⟨h1, c1, z1⟩ := at1 k x hx
    exact hD.2 _ (x.1, c1) z1
theorem adx_adV : adx (adV q9 q3 a1 a2 a3 a4 a5 a6 am) (fun k => if k = 0 then a5 1 else a6 1) = adV q9 q3 a1 a2 a3 a4 a5 a6 am := by
  funext i
  unfold adx
  by_cases h : i = 250
  · subst h; rfl
  · rw [if_neg h]
    by_cases h2 : i = 252
    · subst h2; rfl
    · rw [if_neg h2]
end WJ
