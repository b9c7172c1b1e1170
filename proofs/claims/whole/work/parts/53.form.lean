/-! PURE, 53: what a command says, told by its signs -/
abbrev PSt : Type := Bool × Nat × List Nat
def rng (l : List Nat) (p a b : Nat) : Bool := decide (p < l.length ∧ a ≤ lg l p ∧ lg l p ≤ b)
theorem rng_T {l : List Nat} {p a b : Nat} (h : rng l p a b = true) : p < l.length ∧ a ≤ lg l p ∧ lg l p ≤ b := of_decide_eq_true h
theorem rng_F {l : List Nat} {p a b : Nat} (h : rng l p a b = false) : ¬ (p < l.length ∧ a ≤ lg l p ∧ lg l p ≤ b) := of_decide_eq_false h
def rstep (l : List Nat) (x : Nat) (s : PSt) : PSt :=
  if s.1 = false then s
  else if x = 42 then (if rng l s.2.1 48 57 = true then (if rng l (s.2.1 + 1) 48 57 = true then (true, s.2.1 + 2, s.2.2 ++ [10 * (lg l s.2.1 - 48) + (lg l (s.2.1 + 1) - 48)]) else (true, s.2.1 + 1, s.2.2 ++ [lg l s.2.1 - 48])) else (false, s.2))
  else if x = 35 then (if rng l s.2.1 48 57 = true then (true, s.2.1 + 1, s.2.2 ++ [lg l s.2.1 - 48]) else (false, s.2))
  else if x = 36 then (if rng l s.2.1 97 122 = true then (true, s.2.1 + 1, s.2.2 ++ [lg l s.2.1]) else (false, s.2))
  else if x = 94 then (if rng l s.2.1 65 90 = true then (true, s.2.1 + 1, s.2.2 ++ [lg l s.2.1]) else (false, s.2))
  else (if rng l s.2.1 x x = true then (true, s.2.1 + 1, s.2.2) else (false, s.2))
def rdf (l : List Nat) (fm : List Nat) (s : PSt) : PSt := fm.foldl (fun s x => rstep l x s) s
theorem rdf_c (l : List Nat) (x : Nat) (fm : List Nat) (s : PSt) : rdf l (x :: fm) s = rdf l fm (rstep l x s) := rfl
theorem rdf_a (l a b : List Nat) (s : PSt) : rdf l (a ++ b) s = rdf l b (rdf l a s) := List.foldl_append
theorem rs_F {l : List Nat} {x : Nat} {s : PSt} (h : s.1 = false) : rstep l x s = s := if_pos h
theorem rdf_F {l : List Nat} : ∀ {fm : List Nat} {s : PSt}, s.1 = false → rdf l fm s = s
  | [], s, h => rfl
  | x :: fm, s, h => by rw [rdf_c, rs_F h]; exact rdf_F h
def spc (x : Nat) : Nat := if x = 42 ∨ x = 35 ∨ x = 36 ∨ x = 94 then 1 else 0
theorem rs_all (l : List Nat) (x : Nat) (s : PSt) (h : s.2.1 ≤ l.length) : s.2.1 ≤ (rstep l x s).2.1 ∧ (rstep l x s).2.1 ≤ l.length ∧ ((rstep l x s).1 = true → s.1 = true ∧ s.2.1 + 1 ≤ (rstep l x s).2.1 ∧ (rstep l x s).2.2.length = s.2.2.length + spc x) ∧ (rstep l x s).2.2.length ≤ s.2.2.length + spc x := by
  have sp1 : (x = 42 ∨ x = 35 ∨ x = 36 ∨ x = 94) → spc x = 1 := fun z => if_pos z
  unfold rstep
  by_cases h0 : s.1 = false
  · rw [if_pos h0]; exact ⟨Nat.le_refl _, h, fun z => by rw [h0] at z; exact Bool.noConfusion z, Nat.le_add_right _ _⟩
  · have h0' : s.1 = true := by cases q : s.1; exact absurd q h0; rfl
    rw [if_neg h0]
    by_cases a : x = 42
    · rw [if_pos a, sp1 (.inl a)]
      by_cases q : rng l s.2.1 48 57 = true
      · rw [if_pos q]
        have q1 := rng_T q
        by_cases q2 : rng l (s.2.1 + 1) 48 57 = true
        · rw [if_pos q2]
          have q3 := rng_T q2
          exact ⟨Nat.le_add_right _ _, by show s.2.1 + 2 ≤ _; omega, fun _ => ⟨h0', by show _ ≤ s.2.1 + 2; omega, len1⟩, Nat.le_of_eq len1⟩
        · rw [if_neg q2]
          exact ⟨Nat.le_add_right _ _, by show s.2.1 + 1 ≤ _; omega, fun _ => ⟨h0', Nat.le_refl _, len1⟩, Nat.le_of_eq len1⟩
      · rw [if_neg q]; exact ⟨Nat.le_refl _, h, fun z => Bool.noConfusion z, Nat.le_add_right _ _⟩
    · rw [if_neg a]
      have one : ∀ (c : Bool) (v : Nat), (c = true → s.2.1 < l.length) → ∀ sp, sp = 1 → s.2.1 ≤ (if c = true then (true, s.2.1 + 1, s.2.2 ++ [v]) else (false, s.2) : PSt).2.1 ∧ (if c = true then (true, s.2.1 + 1, s.2.2 ++ [v]) else (false, s.2) : PSt).2.1 ≤ l.length ∧ ((if c = true then (true, s.2.1 + 1, s.2.2 ++ [v]) else (false, s.2) : PSt).1 = true → s.1 = true ∧ s.2.1 + 1 ≤ (if c = true then (true, s.2.1 + 1, s.2.2 ++ [v]) else (false, s.2) : PSt).2.1 ∧ (if c = true then (true, s.2.1 + 1, s.2.2 ++ [v]) else (false, s.2) : PSt).2.2.length = s.2.2.length + sp) ∧ (if c = true then (true, s.2.1 + 1, s.2.2 ++ [v]) else (false, s.2) : PSt).2.2.length ≤ s.2.2.length + sp := by
        intro c v hc sp hsp
        subst hsp
        cases c
        · exact ⟨Nat.le_refl _, h, fun z => Bool.noConfusion z, Nat.le_add_right _ _⟩
        · exact ⟨Nat.le_add_right _ _, hc rfl, fun _ => ⟨h0', Nat.le_refl _, len1⟩, Nat.le_of_eq len1⟩
      by_cases b : x = 35
      · rw [if_pos b, sp1 (.inr (.inl b))]; exact one _ _ (fun z => (rng_T z).1) 1 rfl
      · rw [if_neg b]
        by_cases c : x = 36
        · rw [if_pos c, sp1 (.inr (.inr (.inl c)))]; exact one _ _ (fun z => (rng_T z).1) 1 rfl
        · rw [if_neg c]
          by_cases d : x = 94
          · rw [if_pos d, sp1 (.inr (.inr (.inr d)))]; exact one _ _ (fun z => (rng_T z).1) 1 rfl
          · rw [if_neg d, show spc x = 0 from if_neg (by omega)]
            by_cases q : rng l s.2.1 x x = true
            · rw [if_pos q]; exact ⟨Nat.le_add_right _ _, (rng_T q).1, fun _ => ⟨h0', Nat.le_refl _, rfl⟩, Nat.le_refl _⟩
            · rw [if_neg q]; exact ⟨Nat.le_refl _, h, fun z => Bool.noConfusion z, Nat.le_refl _⟩
theorem rdf_all (l : List Nat) : ∀ (fm : List Nat) (s : PSt), s.2.1 ≤ l.length → s.2.1 ≤ (rdf l fm s).2.1 ∧ (rdf l fm s).2.1 ≤ l.length ∧ ((rdf l fm s).1 = true → s.1 = true ∧ s.2.1 + fm.length ≤ (rdf l fm s).2.1)
  | [], s, h => ⟨Nat.le_refl _, h, fun z => ⟨z, Nat.le_refl _⟩⟩
  | x :: fm, s, h => by
    obtain ⟨a1, a2, a3, _⟩ := rs_all l x s h
    obtain ⟨b1, b2, b3⟩ := rdf_all l fm (rstep l x s) a2
    rw [rdf_c]
    refine ⟨Nat.le_trans a1 b1, b2, fun z => ?_⟩
    obtain ⟨c1, c2⟩ := b3 z
    obtain ⟨d1, d2, _⟩ := a3 c1
    refine ⟨d1, ?_⟩
    rw [List.length_cons]; omega
/-! the keywords -/
def kwK (k : Nat) : List Nat := ([[101, 100, 105, 116, 32], [114, 101, 118, 101, 114, 116, 32], [99, 111, 109, 109, 105, 116, 32], [98, 114, 97, 110, 99, 104, 32], [99, 108, 111, 115, 101, 32], [109, 101, 114, 103, 101, 32], [111, 117, 114, 115, 32], [116, 104, 101, 105, 114, 115, 32], [112, 105, 99, 107, 32], [114, 101, 115, 101, 116, 32], [116, 97, 103, 32], [117, 110, 116, 97, 103, 32], [97, 114, 99, 104, 105, 118, 101]] : List (List Nat)).getD k []
def arK (k : Nat) : List Nat := ([[35, 35, 36], [35], [35, 32, 35], [42], [35], [35, 35], [35, 35], [35, 35], [35, 32, 42], [35, 32, 42], [94, 32, 42], [94], []] : List (List Nat)).getD k []
def frm (k : Nat) : List Nat := kwK k ++ arK k
theorem kw_txt : ∀ k, k < 13 → textOf k = (frm k).map nI := by decide +kernel
theorem kw_pf : ∀ k, k < 13 → ∀ k', k' < 13 → k ≠ k' → ∃ t, t < 8 ∧ t < (kwK k).length ∧ t < (kwK k').length ∧ lg (kwK k) t ≠ lg (kwK k') t := by decide +kernel
theorem kw_len : ∀ k, k < 13 → 4 ≤ (kwK k).length ∧ (kwK k).length ≤ 7 ∧ 7 ≤ (frm k).length ∧ (frm k).length ≤ 10 ∧ (arK k).length ≤ 3 := by decide +kernel
theorem kw_sp : ∀ k, k < 13 → ((kwK k).all fun x => decide (spc x = 0 ∧ x < 128)) = true ∧ ((frm k).all fun x => decide (x < 128)) = true := by decide +kernel
def lkl (l : List Nat) : List Nat → Nat → Nat
  | [], _ => 0
  | x :: K, p => if rng l p x x = true then lkl l K (p + 1) + 1 else 0
theorem lkl_le (l : List Nat) : ∀ (K : List Nat) (p : Nat), lkl l K p ≤ K.length
  | [], _ => Nat.le_refl _
  | x :: K, p => by
    have := lkl_le l K (p + 1)
    unfold lkl
    split
    · rw [List.length_cons]; omega
    · exact Nat.zero_le _
theorem lkl_at (l : List Nat) : ∀ (K : List Nat) (p t : Nat), t < lkl l K p → p + t < l.length ∧ lg l (p + t) = lg K t
  | [], _, t, h => absurd h (Nat.not_lt_zero _)
  | x :: K, p, t, h => by
    unfold lkl at h
    by_cases q : rng l p x x = true
    · rw [if_pos q] at h
      obtain ⟨a, b, c⟩ := rng_T q
      cases t with
      | zero => exact ⟨a, by show lg l p = x; omega⟩
      | succ t =>
        obtain ⟨d, e⟩ := lkl_at l K (p + 1) t (by omega)
        rw [show p + (t + 1) = p + 1 + t by omega]
        exact ⟨d, e⟩
    · rw [if_neg q] at h; exact absurd h (Nat.not_lt_zero _)
theorem lkl_no (l : List Nat) : ∀ (K : List Nat) (p : Nat), lkl l K p < K.length → rng l (p + lkl l K p) (lg K (lkl l K p)) (lg K (lkl l K p)) = false
  | [], _, h => absurd h (Nat.not_lt_zero _)
  | x :: K, p, h => by
    unfold lkl at h ⊢
    by_cases q : rng l p x x = true
    · rw [if_pos q] at h ⊢
      have := lkl_no l K (p + 1) (by rw [List.length_cons] at h; omega)
      rw [show p + (lkl l K (p + 1) + 1) = p + 1 + lkl l K (p + 1) by omega]
      exact this
    · rw [if_neg q]
      exact bf q
theorem rdf_kw (l : List Nat) : ∀ (K : List Nat) (p : Nat) (as : List Nat), (∀ x, x ∈ K → spc x = 0) → rdf l K (true, p, as) = if lkl l K p = K.length then (true, p + K.length, as) else (false, p + lkl l K p, as)
  | [], p, as, _ => rfl
  | x :: K, p, as, h => by
    have hx := h x List.mem_cons_self
    have ih := rdf_kw l K (p + 1) as (fun y hy => h y (List.mem_cons_of_mem _ hy))
    have es : rstep l x (true, p, as) = if rng l p x x = true then (true, p + 1, as) else (false, p, as) := by
      unfold spc at hx
      have n : ¬ (x = 42 ∨ x = 35 ∨ x = 36 ∨ x = 94) := fun z => by rw [if_pos z] at hx; omega
      unfold rstep
      rw [if_neg (show ¬ ((true, p, as) : PSt).1 = false from fun z => Bool.noConfusion z), if_neg (by omega), if_neg (by omega), if_neg (by omega), if_neg (by omega)]
    rw [rdf_c, es]
    unfold lkl
    by_cases q : rng l p x x = true
    · rw [if_pos q, if_pos q, ih, List.length_cons]
      by_cases q2 : lkl l K (p + 1) = K.length
      · rw [if_pos q2, if_pos (by omega), show p + 1 + K.length = p + (K.length + 1) by omega]
      · rw [if_neg q2, if_neg (by omega), show p + 1 + lkl l K (p + 1) = p + (lkl l K (p + 1) + 1) by omega]
    · rw [if_neg q, if_neg q, if_neg (by rw [List.length_cons]; omega)]
      exact rdf_F rfl
def lkK (l : List Nat) (p k : Nat) : Nat := lkl l (kwK k) p
theorem kw_no {k : Nat} (hk : k < 13) : ∀ x, x ∈ kwK k → spc x = 0 := fun x hx => (of_decide_eq_true (List.all_eq_true.mp (kw_sp k hk).1 x hx)).1
theorem rdf_fr {l : List Nat} {k p : Nat} (hk : k < 13) : rdf l (frm k) (true, p, []) = if lkK l p k = (kwK k).length then rdf l (arK k) (true, p + (kwK k).length, []) else (false, p + lkK l p k, []) := by
  unfold frm lkK
  rw [rdf_a, rdf_kw l (kwK k) p [] (kw_no hk)]
  by_cases q : lkl l (kwK k) p = (kwK k).length
  · rw [if_pos q, if_pos q]
  · rw [if_neg q, if_neg q]; exact rdf_F rfl
/-- two keywords are never both there -/
theorem kw_one {l : List Nat} {k k' p : Nat} (hk : k < 13) (hk' : k' < 13) (hne : k ≠ k') (h : lkK l p k = (kwK k).length) : lkK l p k' < lkK l p k := by
  obtain ⟨t, _, t1, t2, t3⟩ := kw_pf k hk k' hk' hne
  have a := (lkl_at l (kwK k) p t (by unfold lkK at h; omega)).2
  rcases Nat.lt_or_ge (lkK l p k') (lkK l p k) with q | q
  · exact q
  · have b := (lkl_at l (kwK k') p t (by unfold lkK at q h; omega)).2
    exact absurd (a.symm.trans b) t3
def bst (l : List Nat) (p : Nat) : Nat → Nat
  | 0 => 0
  | j + 1 => if lkK l p (j + 1) ≤ lkK l p (bst l p j) then bst l p j else j + 1
theorem bst_le (l : List Nat) (p : Nat) : ∀ j, bst l p j ≤ j ∧ ∀ i, i ≤ j → lkK l p i ≤ lkK l p (bst l p j)
  | 0 => ⟨Nat.le_refl _, fun i hi => by have : i = 0 := by omega
                                        subst this; exact Nat.le_refl _⟩
  | j + 1 => by
    obtain ⟨a, b⟩ := bst_le l p j
    unfold bst
    by_cases q : lkK l p (j + 1) ≤ lkK l p (bst l p j)
    · rw [if_pos q]
      refine ⟨by omega, fun i hi => ?_⟩
      by_cases e : i = j + 1
      · subst e; exact q
      · exact b i (by omega)
    · rw [if_neg q]
      refine ⟨Nat.le_refl _, fun i hi => ?_⟩
      by_cases e : i = j + 1
      · subst e; exact Nat.le_refl _
      · have := b i (by omega); omega
def kbK (l : List Nat) (p : Nat) : Nat := bst l p 12
theorem kb_lt (l : List Nat) (p : Nat) : kbK l p < 13 := by have := (bst_le l p 12).1; unfold kbK; omega
def cmd (l : List Nat) (p : Nat) : PSt := rdf l (frm (kbK l p)) (true, p, [])
theorem cmd_ne {l : List Nat} {p k : Nat} (hp : p ≤ l.length) (hk : k < 13) (hne : k ≠ kbK l p) : (rdf l (frm k) (true, p, [])).1 = false ∧ (rdf l (frm k) (true, p, [])).2.1 ≤ (cmd l p).2.1 := by
  have hb := kb_lt l p
  have hm := (bst_le l p 12).2 k (by omega)
  have hm : lkK l p k ≤ lkK l p (kbK l p) := hm
  have nf : ¬ lkK l p k = (kwK k).length := fun z => by have := kw_one hk hb hne z; omega
  rw [rdf_fr hk, if_neg nf]
  refine ⟨rfl, ?_⟩
  show p + lkK l p k ≤ _
  unfold cmd
  rw [rdf_fr hb]
  by_cases q : lkK l p (kbK l p) = (kwK (kbK l p)).length
  · rw [if_pos q]
    have hl : p + (kwK (kbK l p)).length ≤ l.length := by
      rcases Nat.eq_zero_or_pos (kwK (kbK l p)).length with z | z
      · omega
      · have := (lkl_at l (kwK (kbK l p)) p ((kwK (kbK l p)).length - 1) (by unfold lkK at q; omega)).1; omega
    have := (rdf_all l (arK (kbK l p)) (true, p + (kwK (kbK l p)).length, []) hl).1
    have : p + (kwK (kbK l p)).length ≤ _ := this
    omega
  · rw [if_neg q]; show _ ≤ p + lkK l p (kbK l p); omega
