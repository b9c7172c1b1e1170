/-! PURE, 21: the state, told by the reference's array g; ancestors, generations -/
abbrev Arr : Type := Nat → Int32
def cnt (g : Arr) : Nat := (g 0).toNatClampNeg
def bcn (g : Arr) : Nat := (g 1).toNatClampNeg
def p1 (g : Arr) (r : Nat) : Nat := (g (2 + 12 * r)).toNatClampNeg
def p2 (g : Arr) (r : Nat) : Nat := (g (2 + 12 * r + 1)).toNatClampNeg
def aut (g : Arr) (r : Nat) : Nat := (g (2 + 12 * r + 2)).toNatClampNeg
def hd (g : Arr) (b : Nat) : Nat := (g (290 + 9 * b)).toNatClampNeg
def tg (g : Arr) (t : Nat) : Nat := (g (335 + t)).toNatClampNeg
def arc (g : Arr) (r : Nat) : Prop := g (2 + 12 * r + 3) = nI 1
def Let (x : Int32) : Prop := ∃ c : Nat, 97 ≤ c ∧ c ≤ 122 ∧ x = nI c
/-- one revision as it must be -/
def RevOk (g : Arr) (r : Nat) : Prop :=
  ((r = 0 ∧ g (2 + 12 * r) = m1 ∧ g (2 + 12 * r + 1) = m1) ∨ (0 < r ∧ g (2 + 12 * r) = nI (p1 g r) ∧ p1 g r < r ∧ (arc g (p1 g r) → arc g r))) ∧
  (g (2 + 12 * r + 1) = m1 ∨ (g (2 + 12 * r + 1) = nI (p2 g r) ∧ p2 g r < r ∧ (arc g (p2 g r) → arc g r))) ∧
  (g (2 + 12 * r + 2) = nI (aut g r) ∧ aut g r < 10) ∧
  (g (2 + 12 * r + 3) = nI 0 ∨ g (2 + 12 * r + 3) = nI 1) ∧
  ∀ f, f < 8 → Let (g (2 + 12 * r + 4 + f))
def BraOk (g : Arr) (b : Nat) : Prop := (g (290 + 9 * b) = nI (hd g b) ∧ hd g b < cnt g ∧ ¬ arc g (hd g b)) ∧ ∀ f, f < 8 → Let (g (290 + 9 * b + 1 + f))
def TagOk (g : Arr) (t : Nat) : Prop := g (335 + t) = m1 ∨ (g (335 + t) = nI (tg g t) ∧ tg g t < cnt g ∧ ¬ arc g (tg g t))
def OKg (g : Arr) : Prop :=
  (g 0 = nI (cnt g) ∧ 1 ≤ cnt g ∧ cnt g ≤ 24) ∧ (g 1 = nI (bcn g) ∧ 1 ≤ bcn g ∧ bcn g ≤ 5) ∧
  (∀ r, r < cnt g → RevOk g r) ∧ (∀ b, b < bcn g → BraOk g b) ∧ ∀ t, t < 26 → TagOk g t
/-! ancestors: bits -/
def Aq (g : Arr) : Nat → Arr
  | 0 => fun _ => nI 0
  | k + 1 => upd (Aq g k) k ((pw k ||| (if g (2 + 12 * k) = m1 then nI 0 else Aq g k (p1 g k))) ||| (if g (2 + 12 * k + 1) = m1 then nI 0 else Aq g k (p2 g k)))
def Ag (g : Arr) (r : Nat) : Int32 := Aq g (r + 1) r
theorem Aq_st (g : Arr) {r : Nat} : ∀ {k : Nat}, r < k → Aq g k r = Ag g r
  | 0, h => absurd h (Nat.not_lt_zero _)
  | k + 1, h => by
    by_cases e : r = k
    · subst e; rfl
    · rw [Aq, up_n e]; exact Aq_st g (by omega)
def Gq (g : Arr) : Nat → Arr
  | 0 => fun _ => nI 0
  | k + 1 => upd (Gq g k) k ((if (if g (2 + 12 * k) = m1 then m1 else Gq g k (p1 g k)) < (if g (2 + 12 * k + 1) = m1 then m1 else Gq g k (p2 g k)) then (if g (2 + 12 * k + 1) = m1 then m1 else Gq g k (p2 g k)) else (if g (2 + 12 * k) = m1 then m1 else Gq g k (p1 g k))) + nI 1)
def Gg (g : Arr) (r : Nat) : Int32 := Gq g (r + 1) r
theorem Gq_st (g : Arr) {r : Nat} : ∀ {k : Nat}, r < k → Gq g k r = Gg g r
  | 0, h => absurd h (Nat.not_lt_zero _)
  | k + 1, h => by
    by_cases e : r = k
    · subst e; rfl
    · rw [Gq, up_n e]; exact Gq_st g (by omega)
section OK
variable {g : Arr}
theorem ok_cnt (h : OKg g) : g 0 = nI (cnt g) := h.1.1
theorem ok_c1 (h : OKg g) : 1 ≤ cnt g := h.1.2.1
theorem ok_c24 (h : OKg g) : cnt g ≤ 24 := h.1.2.2
theorem ok_bcn (h : OKg g) : g 1 = nI (bcn g) := h.2.1.1
theorem ok_b1 (h : OKg g) : 1 ≤ bcn g := h.2.1.2.1
theorem ok_b5 (h : OKg g) : bcn g ≤ 5 := h.2.1.2.2
theorem ok_rev (h : OKg g) {r : Nat} (hr : r < cnt g) : RevOk g r := h.2.2.1 r hr
theorem ok_bra (h : OKg g) {b : Nat} (hb : b < bcn g) : BraOk g b := h.2.2.2.1 b hb
theorem ok_tag (h : OKg g) {t : Nat} (ht : t < 26) : TagOk g t := h.2.2.2.2 t ht
theorem ok_hd (h : OKg g) {b : Nat} (hb : b < bcn g) : g (290 + 9 * b) = nI (hd g b) := (ok_bra h hb).1.1
theorem ok_hc (h : OKg g) {b : Nat} (hb : b < bcn g) : hd g b < cnt g := (ok_bra h hb).1.2.1
theorem ok_p1 (h : OKg g) {r : Nat} (hr : r < cnt g) (h0 : 0 < r) : g (2 + 12 * r) = nI (p1 g r) := by
  rcases (ok_rev h hr).1 with q | q
  · omega
  · exact q.2.1
theorem ok_p1l (h : OKg g) {r : Nat} (hr : r < cnt g) (h0 : 0 < r) : p1 g r < r := by
  rcases (ok_rev h hr).1 with q | q
  · omega
  · exact q.2.2.1
theorem ok_p0 (h : OKg g) : g 2 = m1 := by
  rcases (ok_rev h (show 0 < cnt g from ok_c1 h)).1 with q | q
  · exact q.2.1
  · omega
theorem ok_p02 (h : OKg g) : g 3 = m1 := by
  rcases (ok_rev h (show 0 < cnt g from ok_c1 h)).1 with q | q
  · exact q.2.2
  · omega
/-- the first parent, in the two ways it can be -/
theorem ok_f (h : OKg g) {r : Nat} (hr : r < cnt g) : (r = 0 ∧ g (2 + 12 * r) = m1) ∨ (0 < r ∧ g (2 + 12 * r) = nI (p1 g r) ∧ p1 g r < r) := by
  rcases (ok_rev h hr).1 with q | q
  · exact .inl ⟨q.1, q.2.1⟩
  · exact .inr ⟨q.1, q.2.1, q.2.2.1⟩
theorem ok_s (h : OKg g) {r : Nat} (hr : r < cnt g) : g (2 + 12 * r + 1) = m1 ∨ (g (2 + 12 * r + 1) = nI (p2 g r) ∧ p2 g r < r) := by
  rcases (ok_rev h hr).2.1 with q | q
  · exact .inl q
  · exact .inr ⟨q.1, q.2.1⟩
theorem ok_au (h : OKg g) {r : Nat} (hr : r < cnt g) : g (2 + 12 * r + 2) = nI (aut g r) := (ok_rev h hr).2.2.1.1
theorem ok_aul (h : OKg g) {r : Nat} (hr : r < cnt g) : aut g r < 10 := (ok_rev h hr).2.2.1.2
theorem ok_ar (h : OKg g) {r : Nat} (hr : r < cnt g) : g (2 + 12 * r + 3) = nI 0 ∨ g (2 + 12 * r + 3) = nI 1 := (ok_rev h hr).2.2.2.1
theorem ok_le (h : OKg g) {r f : Nat} (hr : r < cnt g) (hf : f < 8) : Let (g (2 + 12 * r + 4 + f)) := (ok_rev h hr).2.2.2.2 f hf
theorem ok_wk (h : OKg g) {b f : Nat} (hb : b < bcn g) (hf : f < 8) : Let (g (290 + 9 * b + 1 + f)) := (ok_bra h hb).2 f hf
theorem nI_m1 {a : Nat} (h : a < 2 ^ 31) : nI a ≠ m1 := fun e => by rw [← m1_ne h]; exact e
/-- the ancestors of a revision by its parents' -/
theorem Ag_eq (h : OKg g) {r : Nat} (hr : r < cnt g) : Ag g r = (pw r ||| (if g (2 + 12 * r) = m1 then nI 0 else Ag g (p1 g r))) ||| (if g (2 + 12 * r + 1) = m1 then nI 0 else Ag g (p2 g r)) := by
  have e : Ag g r = (pw r ||| (if g (2 + 12 * r) = m1 then nI 0 else Aq g r (p1 g r))) ||| (if g (2 + 12 * r + 1) = m1 then nI 0 else Aq g r (p2 g r)) := by
    unfold Ag; rw [Aq, up_e]
  rw [e]
  congr 1
  · congr 1
    rcases ok_f h hr with q | q
    · rw [if_pos q.2, if_pos q.2]
    · rw [Aq_st g q.2.2]
  · rcases ok_s h hr with q | q
    · rw [if_pos q, if_pos q]
    · rw [Aq_st g q.2]
theorem Gg_eq (h : OKg g) {r : Nat} (hr : r < cnt g) : Gg g r = (if (if g (2 + 12 * r) = m1 then m1 else Gg g (p1 g r)) < (if g (2 + 12 * r + 1) = m1 then m1 else Gg g (p2 g r)) then (if g (2 + 12 * r + 1) = m1 then m1 else Gg g (p2 g r)) else (if g (2 + 12 * r) = m1 then m1 else Gg g (p1 g r))) + nI 1 := by
  have e1 : (if g (2 + 12 * r) = m1 then m1 else Gq g r (p1 g r)) = if g (2 + 12 * r) = m1 then m1 else Gg g (p1 g r) := by
    rcases ok_f h hr with q | q
    · rw [if_pos q.2, if_pos q.2]
    · rw [Gq_st g q.2.2]
  have e2 : (if g (2 + 12 * r + 1) = m1 then m1 else Gq g r (p2 g r)) = if g (2 + 12 * r + 1) = m1 then m1 else Gg g (p2 g r) := by
    rcases ok_s h hr with q | q
    · rw [if_pos q, if_pos q]
    · rw [Gq_st g q.2]
  rw [← e1, ← e2]
  unfold Gg
  rw [Gq, up_e]
/-- is q an ancestor of r -/
def anc (g : Arr) (r q : Nat) : Prop := bt (Ag g r) q = true
theorem anc_iff (h : OKg g) {r q : Nat} (hr : r < cnt g) : anc g r q ↔ q = r ∨ (g (2 + 12 * r) ≠ m1 ∧ anc g (p1 g r) q) ∨ (g (2 + 12 * r + 1) ≠ m1 ∧ anc g (p2 g r) q) := by
  have hc := ok_c24 h
  unfold anc
  rw [Ag_eq h hr, b_or, b_or, bt_pw (by omega)]
  by_cases e1 : g (2 + 12 * r) = m1 <;> by_cases e2 : g (2 + 12 * r + 1) = m1 <;> simp [e1, e2, bt_0, or_assoc]
theorem anc_self (h : OKg g) {r : Nat} (hr : r < cnt g) : anc g r r := (anc_iff h hr).mpr (.inl rfl)
theorem anc_le (h : OKg g) : ∀ {r q : Nat}, r < cnt g → anc g r q → q ≤ r := by
  intro r
  induction r using Nat.strongRecOn with
  | ind r ih =>
    intro q hr ha
    rcases (anc_iff h hr).mp ha with e | ⟨e, a⟩ | ⟨e, a⟩
    · omega
    · rcases ok_f h hr with z | z
      · exact absurd z.2 e
      · have := ih _ z.2.2 (by omega) a; omega
    · rcases ok_s h hr with z | z
      · exact absurd z e
      · have := ih _ z.2 (by omega) a; omega
theorem anc_tr (h : OKg g) : ∀ {r q s : Nat}, r < cnt g → anc g r q → anc g q s → anc g r s := by
  intro r
  induction r using Nat.strongRecOn with
  | ind r ih =>
    intro q s hr ha hs
    rcases (anc_iff h hr).mp ha with e | ⟨e, a⟩ | ⟨e, a⟩
    · subst e; exact hs
    · rcases ok_f h hr with z | z
      · exact absurd z.2 e
      · exact (anc_iff h hr).mpr (.inr (.inl ⟨e, ih _ z.2.2 (by omega) a hs⟩))
    · rcases ok_s h hr with z | z
      · exact absurd z e
      · exact (anc_iff h hr).mpr (.inr (.inr ⟨e, ih _ z.2 (by omega) a hs⟩))
theorem anc_0 (h : OKg g) : ∀ {r : Nat}, r < cnt g → anc g r 0 := by
  intro r
  induction r using Nat.strongRecOn with
  | ind r ih =>
    intro hr
    rcases ok_f h hr with z | z
    · rw [z.1]; exact anc_self h (ok_c1 h)
    · exact (anc_iff h hr).mpr (.inr (.inl ⟨by rw [z.2.1]; exact nI_m1 (by have := ok_c24 h; omega), ih _ z.2.2 (by omega)⟩))
/-- what is archived hands it on -/
theorem anc_arc (h : OKg g) : ∀ {r q : Nat}, r < cnt g → anc g r q → arc g q → arc g r := by
  intro r
  induction r using Nat.strongRecOn with
  | ind r ih =>
    intro q hr ha hq
    have R := ok_rev h hr
    rcases (anc_iff h hr).mp ha with e | ⟨e, a⟩ | ⟨e, a⟩
    · subst e; exact hq
    · rcases R.1 with z | z
      · exact absurd z.2.1 e
      · exact z.2.2.2 (ih _ z.2.2.1 (by omega) a hq)
    · rcases R.2.1 with z | z
      · exact absurd z e
      · exact z.2.2 (ih _ z.2.1 (by omega) a hq)
theorem Gg_lt (h : OKg g) : ∀ {r : Nat}, r < cnt g → ∃ n, n ≤ r ∧ Gg g r = nI n := by
  have hc := ok_c24 h
  intro r
  induction r using Nat.strongRecOn with
  | ind r ih =>
    intro hr
    rw [Gg_eq h hr]
    rcases ok_f h hr with ⟨z1, z2⟩ | ⟨z1, z2, z3⟩
    · rw [if_pos z2]
      have e2 : g (2 + 12 * r + 1) = m1 := by subst z1; exact ok_p02 h
      rw [if_pos e2]
      exact ⟨0, by omega, by decide⟩
    · obtain ⟨a, ha, ea⟩ := ih _ z3 (by omega)
      have n1 : ¬ g (2 + 12 * r) = m1 := by rw [z2]; exact nI_m1 (a := p1 g r) (by omega)
      simp only [n1, if_false]
      rw [ea]
      rcases ok_s h hr with y | ⟨y1, y2⟩
      · simp only [y, if_true]
        rw [if_neg (by rw [lt_m1 (by omega)]; exact id)]
        exact ⟨a + 1, by omega, nI_add a 1⟩
      · obtain ⟨b, hb, eb⟩ := ih _ y2 (by omega)
        have n2 : ¬ g (2 + 12 * r + 1) = m1 := by rw [y1]; exact nI_m1 (a := p2 g r) (by omega)
        simp only [n2, if_false]
        rw [eb]
        by_cases q : a < b
        · rw [if_pos (nI_lt q (by omega))]
          exact ⟨b + 1, by omega, nI_add b 1⟩
        · rw [if_neg (nI_nlt (by omega) (by omega))]
          exact ⟨a + 1, by omega, nI_add a 1⟩
end OK
/-! the letters that a merge gives -/
def cmn (x : Int32) : Nat → Nat
  | 0 => 0
  | k + 1 => if bt x k then k else cmn x k
def com (g : Arr) (a b : Nat) : Nat := cmn (Ag g a &&& Ag g b) 24
theorem cmn_le (x : Int32) : ∀ k, cmn x k ≤ k
  | 0 => Nat.le_refl _
  | k + 1 => by
    unfold cmn
    split
    · omega
    · have := cmn_le x k; omega
theorem cmn_st {x : Int32} {n : Nat} (hx : ∀ q, n ≤ q → q < 24 → bt x q = false) : ∀ k, n ≤ k → k ≤ 24 → cmn x k = cmn x n
  | 0, h, _ => by have : n = 0 := by omega
                  subst this; rfl
  | k + 1, h, h2 => by
    by_cases e : n = k + 1
    · subst e; rfl
    · rw [cmn, hx k (by omega) (by omega), if_neg (by decide)]
      exact cmn_st hx k (by omega) (by omega)
/-- the greatest, told by what it is -/
theorem cmn_max {x : Int32} {m : Nat} : ∀ {n : Nat}, m < n → bt x m = true → (∀ q, m < q → q < n → bt x q = false) → cmn x n = m
  | 0, h, _, _ => absurd h (Nat.not_lt_zero _)
  | n + 1, h, h1, h2 => by
    by_cases e : m = n
    · subst e; rw [cmn, if_pos h1]
    · rw [cmn, h2 n (by omega) (by omega), if_neg (by decide)]
      exact cmn_max (by omega) h1 (fun q a b => h2 q a (by omega))
def edt (g : Arr) (b f : Nat) : Bool := decide (g (290 + 9 * b + 1 + f) ≠ g (2 + 12 * hd g b + 4 + f))
def edn (g : Arr) (b : Nat) : Nat := fb_ct (edt g b) 8
/-- the letter of a field in a merge; 0 is a conflict -/
def mgl (g : Arr) (b o f : Nat) : Int32 :=
  if g (2 + 12 * hd g b + 4 + f) = g (2 + 12 * hd g o + 4 + f) then g (2 + 12 * hd g b + 4 + f)
  else if g (2 + 12 * hd g b + 4 + f) = g (2 + 12 * com g (hd g b) (hd g o) + 4 + f) then g (2 + 12 * hd g o + 4 + f)
  else if g (2 + 12 * hd g o + 4 + f) = g (2 + 12 * com g (hd g b) (hd g o) + 4 + f) then g (2 + 12 * hd g b + 4 + f) else nI 0
def cfl (g : Arr) (b o f : Nat) : Bool := decide (mgl g b o f = nI 0)
theorem Let_r {x : Int32} (h : Let x) : ∃ c : Nat, 97 ≤ c ∧ c ≤ 122 ∧ x = nI c := h
theorem com_lt {g : Arr} (h : OKg g) {a b : Nat} (ha : a < cnt g) (hb : b < cnt g) : com g a b < cnt g := by
  have hc := ok_c24 h
  have h0 : bt (Ag g a &&& Ag g b) 0 = true := by
    rw [b_and]; have h1 := anc_0 h ha; have h2 := anc_0 h hb; unfold anc at h1 h2; rw [h1, h2]; rfl
  have hz : ∀ q, cnt g ≤ q → q < 24 → bt (Ag g a &&& Ag g b) q = false := by
    intro q h1 _
    rw [b_and]
    cases hq : bt (Ag g a) q
    · rfl
    · have := anc_le h ha hq; omega
  unfold com
  rw [cmn_st hz 24 hc (Nat.le_refl _)]
  have : ∀ n, 0 < n → cmn (Ag g a &&& Ag g b) n < n := by
    intro n
    induction n with
    | zero => intro h; omega
    | succ n ih =>
      intro _
      unfold cmn
      split
      · omega
      · rcases Nat.eq_zero_or_pos n with e | e
        · subst e; exact Nat.lt_succ_self _
        · have := ih e; omega
  exact this _ (ok_c1 h)
theorem mgl_let {g : Arr} (h : OKg g) {b o f : Nat} (hb : b < bcn g) (ho : o < bcn g) (hf : f < 8) : mgl g b o f = nI 0 ∨ Let (mgl g b o f) := by
  unfold mgl
  split
  · exact .inr (ok_le h (ok_hc h hb) hf)
  · split
    · exact .inr (ok_le h (ok_hc h ho) hf)
    · split
      · exact .inr (ok_le h (ok_hc h hb) hf)
      · exact .inl rfl
