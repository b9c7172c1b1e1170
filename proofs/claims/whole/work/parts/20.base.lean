/-! PURE, 20: numbers, options, loops, memory -/
def bt (x : Int32) (i : Nat) : Bool := x.toBitVec.getLsbD i
theorem b_ext {x y : Int32} (h : ∀ i, i < 32 → bt x i = bt y i) : x = y := Int32.toBitVec_inj.mp (BitVec.eq_of_getLsbD_eq (fun i hi => h i hi))
theorem b_or (x y : Int32) (i : Nat) : bt (x ||| y) i = (bt x i || bt y i) := by unfold bt; rw [Int32.toBitVec_or, BitVec.getLsbD_or]
theorem b_and (x y : Int32) (i : Nat) : bt (x &&& y) i = (bt x i && bt y i) := by unfold bt; rw [Int32.toBitVec_and, BitVec.getLsbD_and]
theorem b_xor (x y : Int32) (i : Nat) : bt (x ^^^ y) i = (bt x i ^^ bt y i) := by unfold bt; rw [Int32.toBitVec_xor, BitVec.getLsbD_xor]
theorem b_big {x : Int32} {i : Nat} (h : 32 ≤ i) : bt x i = false := BitVec.getLsbD_of_ge _ _ h
theorem b_255 (i : Nat) : bt 255 i = decide (i < 8) := by
  rcases Nat.lt_or_ge i 32 with h | h
  · exact (by decide +kernel : ∀ i, i < 32 → bt 255 i = decide (i < 8)) i h
  · rw [b_big h, decide_eq_false (by omega)]
theorem b_65535 (i : Nat) : bt 65535 i = decide (i < 16) := by
  rcases Nat.lt_or_ge i 32 with h | h
  · exact (by decide +kernel : ∀ i, i < 32 → bt 65535 i = decide (i < 16)) i h
  · rw [b_big h, decide_eq_false (by omega)]
theorem b_m1 : ∀ i, i < 32 → bt (-1) i = true := by decide +kernel
theorem b_0 (i : Nat) : bt 0 i = false := BitVec.getLsbD_zero
theorem s_l : ∀ n, n < 32 → ((nI n &&& 31).toBitVec.smod 32).toNat = n := by decide +kernel
theorem s_u : ∀ n, n < 32 → (((nI n).toUInt32 &&& Int32.toUInt32 31).toBitVec % 32).toNat = n := by decide +kernel
theorem b_shl (n : Nat) (hn : n < 32) (x : Int32) {i : Nat} (hi : i < 32) : bt (x <<< (nI n &&& 31)) i = (decide (n ≤ i) && bt x (i - n)) := by
  unfold bt
  rw [Int32.toBitVec_shiftLeft]
  show (x.toBitVec <<< ((nI n &&& 31).toBitVec.smod 32).toNat).getLsbD i = _
  rw [s_l n hn, BitVec.getLsbD_shiftLeft]
  rcases Nat.lt_or_ge i n with h | h
  · simp [h, Nat.not_le.mpr h]
  · simp [hi, h, Nat.not_lt.mpr h]
theorem b_ushr (n : Nat) (hn : n < 32) (x : Int32) (i : Nat) : bt ((x.toUInt32 >>> ((nI n).toUInt32 &&& Int32.toUInt32 31)).toInt32) i = bt x (n + i) := by
  show (x.toUInt32 >>> ((nI n).toUInt32 &&& Int32.toUInt32 31)).toBitVec.getLsbD i = x.toUInt32.toBitVec.getLsbD (n + i)
  rw [UInt32.toBitVec_shiftRight]
  show (x.toUInt32.toBitVec >>> (((nI n).toUInt32 &&& Int32.toUInt32 31).toBitVec % 32).toNat).getLsbD i = _
  rw [s_u n hn, BitVec.getLsbD_ushiftRight]
theorem b_sshr (n : Nat) (hn : n < 32) (x : Int32) {i : Nat} (hi : i < 32) : bt (x >>> (nI n &&& 31)) i = if n + i < 32 then bt x (n + i) else bt x 31 := by
  unfold bt
  rw [Int32.toBitVec_shiftRight]
  show (x.toBitVec.sshiftRight ((nI n &&& 31).toBitVec.smod 32).toNat).getLsbD i = _
  rw [s_l n hn, BitVec.getLsbD_sshiftRight, BitVec.msb_eq_getLsbD_last]
  simp [hi]
theorem b_shl8 (x : Int32) {i : Nat} (hi : i < 32) : bt (x <<< ((8 : Int32) &&& 31)) i = (decide (8 ≤ i) && bt x (i - 8)) := b_shl 8 (by omega) x hi
theorem b_shl16 (x : Int32) {i : Nat} (hi : i < 32) : bt (x <<< ((16 : Int32) &&& 31)) i = (decide (16 ≤ i) && bt x (i - 16)) := b_shl 16 (by omega) x hi
theorem b_shl24 (x : Int32) {i : Nat} (hi : i < 32) : bt (x <<< ((24 : Int32) &&& 31)) i = (decide (24 ≤ i) && bt x (i - 24)) := b_shl 24 (by omega) x hi
theorem b_sshr8 (x : Int32) {i : Nat} (hi : i < 32) : bt (x >>> ((8 : Int32) &&& 31)) i = if 8 + i < 32 then bt x (8 + i) else bt x 31 := b_sshr 8 (by omega) x hi
def fb_ct (p : Nat → Bool) : Nat → Nat
  | 0 => 0
  | n + 1 => fb_ct p n + (if p n then 1 else 0)
theorem fb_ct_succ (p : Nat → Bool) (n : Nat) : fb_ct p (n + 1) = fb_ct p n + (if p n then 1 else 0) := rfl
theorem fb_ct_le (p : Nat → Bool) : ∀ n, fb_ct p n ≤ n
  | 0 => Nat.le_refl _
  | n + 1 => by
    have h := fb_ct_le p n
    rw [fb_ct_succ]
    split <;> omega
theorem fb_ct_step (p : Nat → Bool) (m : Nat) : ∀ n, fb_ct p m ≤ fb_ct p (m + n)
  | 0 => Nat.le_refl _
  | n + 1 => by
    have h := fb_ct_step p m n
    show fb_ct p m ≤ fb_ct p (m + n + 1)
    rw [fb_ct_succ]
    omega
theorem fb_ct_mono (p : Nat → Bool) {m n : Nat} (h : m ≤ n) : fb_ct p m ≤ fb_ct p n := by
  have := fb_ct_step p m (n - m)
  rwa [Nat.add_sub_cancel' h] at this
theorem fb_ct_cong {p q : Nat → Bool} : ∀ {n : Nat}, (∀ k, k < n → p k = q k) → fb_ct p n = fb_ct q n
  | 0, _ => rfl
  | n + 1, h => by
    rw [fb_ct_succ, fb_ct_succ, fb_ct_cong (fun k hk => h k (by omega)), h n (by omega)]
/-- one place changed -/
theorem fb_ct_out (p : Nat → Bool) (b : Bool) {i n : Nat} (h : n ≤ i) : fb_ct (fun k => if k = i then b else p k) n = fb_ct p n :=
  fb_ct_cong fun k hk => if_neg (by omega)
theorem fb_ct_upd (p : Nat → Bool) (b : Bool) {i : Nat} : ∀ {n : Nat}, i < n → fb_ct (fun k => if k = i then b else p k) n + (if p i then 1 else 0) = fb_ct p n + (if b then 1 else 0)
  | 0, h => absurd h (Nat.not_lt_zero i)
  | n + 1, h => by
    rw [fb_ct_succ, fb_ct_succ]
    rcases Nat.lt_or_ge i n with q | q
    · have := fb_ct_upd p b q
      have e : (if n = i then b else p n) = p n := if_neg (by omega)
      rw [e]
      omega
    · have e : i = n := by omega
      subst e
      rw [fb_ct_out p b (Nat.le_refl _)]
      simp only [if_true]
      omega
theorem fb_ct_sub {p q : Nat → Bool} : ∀ {n : Nat}, (∀ k, k < n → p k = true → q k = true) → fb_ct p n ≤ fb_ct q n
  | 0, _ => Nat.le_refl _
  | n + 1, h => by
    have h1 := fb_ct_sub (n := n) (p := p) (q := q) (fun k hk => h k (by omega))
    have h2 := h n (by omega)
    rw [fb_ct_succ, fb_ct_succ]
    cases hp : p n <;> cases hq : q n <;> simp_all <;> omega
theorem fb_ct_or {p q : Nat → Bool} : ∀ {n : Nat}, (∀ k, k < n → ¬ (p k = true ∧ q k = true)) → fb_ct (fun k => p k || q k) n = fb_ct p n + fb_ct q n
  | 0, _ => rfl
  | n + 1, h => by
    have h1 := fb_ct_or (n := n) (p := p) (q := q) (fun k hk => h k (by omega))
    have h2 := h n (by omega)
    rw [fb_ct_succ, fb_ct_succ, fb_ct_succ, h1]
    cases hp : p n <;> cases hq : q n <;> simp_all <;> omega
theorem fb_ct_not (p : Nat → Bool) : ∀ n, fb_ct p n + fb_ct (fun k => !p k) n = n
  | 0 => rfl
  | n + 1 => by
    have h := fb_ct_not p n
    rw [fb_ct_succ, fb_ct_succ]
    cases p n <;> simp <;> omega
theorem fb_ct_split (p : Nat → Bool) (m : Nat) : ∀ n, fb_ct p (m + n) = fb_ct p m + fb_ct (fun k => p (m + k)) n
  | 0 => rfl
  | n + 1 => by
    have h := fb_ct_split p m n
    show fb_ct p (m + n + 1) = _
    rw [fb_ct_succ, fb_ct_succ, h, Nat.add_assoc]
theorem fb_ct_zero {p : Nat → Bool} : ∀ {n : Nat}, fb_ct p n = 0 ↔ ∀ k, k < n → p k = false
  | 0 => ⟨fun _ k hk => absurd hk (Nat.not_lt_zero k), fun _ => rfl⟩
  | n + 1 => by
    have h := fb_ct_zero (p := p) (n := n)
    rw [fb_ct_succ]
    constructor
    · intro e k hk
      have e1 : fb_ct p n = 0 := by omega
      rcases Nat.lt_or_ge k n with q | q
      · exact h.mp e1 k q
      · have ek : k = n := by omega
        subst ek
        cases hp : p k
        · rfl
        · simp [hp] at e
    · intro a
      rw [h.mpr (fun k hk => a k (by omega)), a n (by omega)]
      rfl
theorem fb_ct_pos {p : Nat → Bool} {n : Nat} : 0 < fb_ct p n ↔ ∃ k, k < n ∧ p k = true := by
  constructor
  · intro h
    refine Classical.byContradiction fun hx => ?_
    have := fb_ct_zero.mpr (fun k hk => by
      cases hp : p k
      · rfl
      · exact absurd ⟨k, hk, hp⟩ hx : ∀ k, k < n → p k = false)
    omega
  · rintro ⟨k, hk, hp⟩
    rcases Nat.eq_zero_or_pos (fb_ct p n) with e | e
    · have := fb_ct_zero.mp e k hk
      rw [this] at hp
      cases hp
    · exact e
theorem fb_ct_all {p : Nat → Bool} {n : Nat} : fb_ct p n = n ↔ ∀ k, k < n → p k = true := by
  have h := fb_ct_not p n
  constructor
  · intro e k hk
    have z : fb_ct (fun k => !p k) n = 0 := by omega
    have := fb_ct_zero.mp z k hk
    cases hp : p k
    · simp [hp] at this
    · rfl
  · intro a
    have z : fb_ct (fun k => !p k) n = 0 := fb_ct_zero.mpr (fun k hk => by simp [a k hk])
    omega
/-- the k-th place with the property -/
theorem fb_ct_kth {p : Nat → Bool} {k : Nat} : ∀ {n : Nat}, k < fb_ct p n → ∃ i, i < n ∧ p i = true ∧ fb_ct p i = k
  | 0, h => absurd h (Nat.not_lt_zero k)
  | n + 1, h => by
    rcases Nat.lt_or_ge k (fb_ct p n) with q | q
    · obtain ⟨i, h1, h2⟩ := fb_ct_kth q
      exact ⟨i, by omega, h2⟩
    · rw [fb_ct_succ] at h
      cases hp : p n
      · simp [hp] at h; omega
      · simp [hp] at h
        exact ⟨n, by omega, hp, by omega⟩
theorem fb_ct_kth_one {p : Nat → Bool} {i j : Nat} (hi : p i = true) (hj : p j = true) (e : fb_ct p i = fb_ct p j) : i = j := by
  have key : ∀ a b : Nat, a < b → p a = true → fb_ct p a < fb_ct p b := by
    intro a b hab ha
    have h := fb_ct_mono p (show a + 1 ≤ b from hab)
    rw [fb_ct_succ, ha] at h
    simp at h
    omega
  rcases Nat.lt_trichotomy i j with q | q | q
  · have := key i j q hi; omega
  · exact q
  · have := key j i q hj; omega
def fb_put {α : Type} (f g : Nat → α) (a n : Nat) : Nat → α := fun k => if a ≤ k ∧ k < a + n then g (k - a) else f k
theorem fb_put_0 {α : Type} (f g : Nat → α) (a : Nat) : fb_put f g a 0 = f := funext fun k => if_neg (by omega)
theorem fb_put_in {α : Type} {f g : Nat → α} {a n k : Nat} (h1 : a ≤ k) (h2 : k < a + n) : fb_put f g a n k = g (k - a) := if_pos ⟨h1, h2⟩
theorem fb_put_out {α : Type} {f g : Nat → α} {a n k : Nat} (h : k < a ∨ a + n ≤ k) : fb_put f g a n k = f k := if_neg (by omega)
theorem fb_put_succ (f g : Nat → Int32) (a n : Nat) : upd (fb_put f g a n) (a + n) (g n) = fb_put f g a (n + 1) := by
  funext k
  by_cases h : k = a + n
  · subst h
    simp [upd, fb_put]
  · by_cases h1 : a ≤ k ∧ k < a + n
    · have h2 : a ≤ k ∧ k < a + (n + 1) := by omega
      simp only [upd, fb_put, if_neg h, if_pos h1, if_pos h2]
    · have h2 : ¬ (a ≤ k ∧ k < a + (n + 1)) := by omega
      simp only [upd, fb_put, if_neg h, if_neg h1, if_neg h2]
/-- .. from the far end down -/
theorem fb_put_down (f g : Nat → Int32) {a n m : Nat} (h : m < n) : upd (fb_put f (fun k => g (k + (m + 1))) (a + (m + 1)) (n - (m + 1))) (a + m) (g m) = fb_put f (fun k => g (k + m)) (a + m) (n - m) := by
  funext k
  by_cases h0 : k = a + m
  · subst h0
    simp only [upd, if_true]
    rw [fb_put_in (by omega) (by omega)]
    exact congrArg g (by omega)
  · simp only [upd, if_neg h0]
    by_cases h1 : a + (m + 1) ≤ k ∧ k < a + (m + 1) + (n - (m + 1))
    · rw [fb_put_in h1.1 h1.2, fb_put_in (by omega) (by omega)]
      exact congrArg g (by omega)
    · rw [fb_put_out (by omega), fb_put_out (by omega)]
theorem fb_put_cong {α : Type} {f f2 g g2 : Nat → α} {a n : Nat} (hf : ∀ k, (k < a ∨ a + n ≤ k) → f k = f2 k) (hg : ∀ k, k < n → g k = g2 k) : fb_put f g a n = fb_put f2 g2 a n := by
  funext k
  by_cases h : a ≤ k ∧ k < a + n
  · rw [fb_put_in h.1 h.2, fb_put_in h.1 h.2, hg _ (by omega)]
  · rw [fb_put_out (by omega), fb_put_out (by omega), hf _ (by omega)]
theorem zl0 : (0 : Int32) = nI 0 := id rfl
theorem zl1 : (1 : Int32) = nI 1 := id rfl
theorem zl2 : (2 : Int32) = nI 2 := id rfl
theorem zl3 : (3 : Int32) = nI 3 := id rfl
theorem zl4 : (4 : Int32) = nI 4 := id rfl
theorem zl5 : (5 : Int32) = nI 5 := id rfl
theorem zl6 : (6 : Int32) = nI 6 := id rfl
theorem zl7 : (7 : Int32) = nI 7 := id rfl
theorem zl8 : (8 : Int32) = nI 8 := id rfl
theorem zl9 : (9 : Int32) = nI 9 := id rfl
theorem zl10 : (10 : Int32) = nI 10 := id rfl
theorem zl11 : (11 : Int32) = nI 11 := id rfl
theorem zl12 : (12 : Int32) = nI 12 := id rfl
theorem zl13 : (13 : Int32) = nI 13 := id rfl
theorem zl16 : (16 : Int32) = nI 16 := id rfl
theorem zl23 : (23 : Int32) = nI 23 := id rfl
theorem zl24 : (24 : Int32) = nI 24 := id rfl
theorem zl26 : (26 : Int32) = nI 26 := id rfl
theorem zl31 : (31 : Int32) = nI 31 := id rfl
theorem zl32 : (32 : Int32) = nI 32 := id rfl
theorem zl35 : (35 : Int32) = nI 35 := id rfl
theorem zl36 : (36 : Int32) = nI 36 := id rfl
theorem zl40 : (40 : Int32) = nI 40 := id rfl
theorem zl42 : (42 : Int32) = nI 42 := id rfl
theorem zl45 : (45 : Int32) = nI 45 := id rfl
theorem zl48 : (48 : Int32) = nI 48 := id rfl
theorem zl57 : (57 : Int32) = nI 57 := id rfl
theorem zl58 : (58 : Int32) = nI 58 := id rfl
theorem zl59 : (59 : Int32) = nI 59 := id rfl
theorem zl60 : (60 : Int32) = nI 60 := id rfl
theorem zl61 : (61 : Int32) = nI 61 := id rfl
theorem zl62 : (62 : Int32) = nI 62 := id rfl
theorem zl63 : (63 : Int32) = nI 63 := id rfl
theorem zl64 : (64 : Int32) = nI 64 := id rfl
theorem zl65 : (65 : Int32) = nI 65 := id rfl
theorem zl78 : (78 : Int32) = nI 78 := id rfl
theorem zl90 : (90 : Int32) = nI 90 := id rfl
theorem zl94 : (94 : Int32) = nI 94 := id rfl
theorem zl97 : (97 : Int32) = nI 97 := id rfl
theorem zl98 : (98 : Int32) = nI 98 := id rfl
theorem zl114 : (114 : Int32) = nI 114 := id rfl
theorem zl122 : (122 : Int32) = nI 122 := id rfl
theorem zl126 : (126 : Int32) = nI 126 := id rfl
theorem zl244 : (244 : Int32) = nI 244 := id rfl
theorem zl290 : (290 : Int32) = nI 290 := id rfl
theorem zl291 : (291 : Int32) = nI 291 := id rfl
theorem zl326 : (326 : Int32) = nI 326 := id rfl
theorem zl335 : (335 : Int32) = nI 335 := id rfl
theorem zl361 : (361 : Int32) = nI 361 := id rfl
theorem zl2527 : (2527 : Int32) = nI 2527 := id rfl
theorem zl2888 : (2888 : Int32) = nI 2888 := id rfl
def m1 : Int32 := -1
theorem neg1 : -nI 1 = m1 := id rfl
theorem m1_toInt : m1.toInt = -1 := by decide
theorem bd_s {α β : Type} (r : α) (V : Mem) (k : α → Mem → Option β) : bd (some (r, V)) k = k r V := id rfl
theorem bv_s {β : Type} (V : Mem) (k : Mem → Option β) : bv (some V) k = k V := id rfl
theorem lt_d {α β : Type} (a : α) (k : α → β) : lt a k = k a := id rfl
theorem jn_d {α β : Type} (body : α → β) (k : α) : jn body k = body k := id rfl
theorem bx_0 {α β : Type} (d : β) (r : α) (V : Mem) (k : α → Mem → Option (Nat × β × Mem)) : bx d (some (0, r, V)) k = k r V := id rfl
theorem bx_n {α β : Type} (d : β) (q : Nat) (r : α) (V : Mem) (k : α → Mem → Option (Nat × β × Mem)) : bx d (some (q + 1, r, V)) k = some (q + 1, d, V) := id rfl
theorem bw_0 {β : Type} (d : β) (V : Mem) (k : Mem → Option (Nat × β × Mem)) : bw d (some (0, V)) k = k V := id rfl
theorem bw_n {β : Type} (d : β) (q : Nat) (V : Mem) (k : Mem → Option (Nat × β × Mem)) : bw d (some (q + 1, V)) k = some (q + 1, d, V) := id rfl
theorem bw0_0 (V : Mem) (k : Mem → Option (Nat × Mem)) : bw0 (some (0, V)) k = k V := id rfl
theorem bw0_n (q : Nat) (V : Mem) (k : Mem → Option (Nat × Mem)) : bw0 (some (q + 1, V)) k = some (q + 1, V) := id rfl
theorem om_s {α : Type} (x : Nat) (a : α) (k : Nat → α) : om (some x) a k = k x := id rfl
theorem om_n {α : Type} (a : α) (k : Nat → α) : om none a k = a := id rfl
theorem some_eq {α : Type} {a b : α} (h : a = b) : some a = some b := congrArg some h
/-! comparisons told by numbers -/
theorem le_T {a b : Nat} (h : a ≤ b) (hb : b < 2 ^ 31) : (nI a ≤ nI b) = True := eq_true (nI_le h hb)
theorem le_F {a b : Nat} (h : b < a) (ha : a < 2 ^ 31) : (nI a ≤ nI b) = False := eq_false (nI_ge h ha)
theorem lt_T {a b : Nat} (h : a < b) (hb : b < 2 ^ 31) : (nI a < nI b) = True := eq_true (nI_lt h hb)
theorem lt_F {a b : Nat} (h : b ≤ a) (ha : a < 2 ^ 31) : (nI a < nI b) = False := eq_false (nI_nlt h ha)
theorem eq_T {a b : Nat} (h : a = b) : (nI a = nI b) = True := eq_true (congrArg nI h)
theorem eq_F {a b : Nat} (h : a ≠ b) (ha : a < 2 ^ 31) (hb : b < 2 ^ 31) : (nI a = nI b) = False := eq_false (fun e => h ((nI_eq ha hb).mp e))
theorem m1_ne {a : Nat} (h : a < 2 ^ 31) : (nI a = m1) = False := eq_false (fun e => by
  have := congrArg Int32.toInt e
  rw [nI_toInt h, m1_toInt] at this
  omega)
theorem m1_ne' {a : Nat} (h : a < 2 ^ 31) : (m1 = nI a) = False := eq_false (fun e => by
  have := congrArg Int32.toInt e
  rw [nI_toInt h, m1_toInt] at this
  omega)
theorem m1_lt {a : Nat} (h : a < 2 ^ 31) : (m1 < nI a) = True := eq_true (by rw [Int32.lt_iff_toInt_lt, nI_toInt h, m1_toInt]; omega)
theorem m1_le {a : Nat} (h : a < 2 ^ 31) : (m1 ≤ nI a) = True := eq_true (by rw [Int32.le_iff_toInt_le, nI_toInt h, m1_toInt]; omega)
theorem lt_m1 {a : Nat} (h : a < 2 ^ 31) : (nI a < m1) = False := eq_false (by rw [Int32.lt_iff_toInt_lt, nI_toInt h, m1_toInt]; omega)
theorem le_m1 {a : Nat} (h : a < 2 ^ 31) : (nI a ≤ m1) = False := eq_false (by rw [Int32.le_iff_toInt_le, nI_toInt h, m1_toInt]; omega)
theorem cl_n {n : Nat} (h : n < 2 ^ 31) : (nI n).toNatClampNeg = n := nI_clamp h
theorem ib_T {a N : Nat} (h : a < N) (hN : N < 2 ^ 31) : (ib (nI a) N = true) = True := by
  have h1 : (0 : Int32) ≤ nI a := nI_pos' (by omega)
  simp [ib, h1, nI_clamp (show a < 2 ^ 31 by omega), h]
theorem sub_n {a b : Nat} (h : b ≤ a) : nI a - nI b = nI (a - b) := pk_sub h
theorem add_m1 {a : Nat} (h : 0 < a) : nI a + m1 = nI (a - 1) := by
  obtain ⟨b, rfl⟩ : ∃ b, a = b + 1 := ⟨a - 1, by omega⟩
  exact pk_m1 b
theorem sub_m1 : nI 0 - nI 1 = m1 := by decide
theorem m1_1 : m1 + nI 1 = nI 0 := by decide
theorem m1_1' : nI 1 + m1 = nI 0 := by decide
theorem and31 : ∀ {k : Nat}, k < 32 → nI k &&& nI 31 = nI k := fun {k} h => (by decide +kernel : ∀ k : Nat, k < 32 → nI k &&& nI 31 = nI k) k h
/-- an int, by where it lies -/
theorem i_cases (x : Int32) (n : Nat) (hn : n < 2 ^ 31) : (∃ k, k < n ∧ x = nI k) ∨ (x < nI 0 ∧ ¬ (nI 0 ≤ x)) ∨ (nI n ≤ x ∧ ¬ (x < nI n) ∧ ¬ (x < nI 0) ∧ nI 0 ≤ x) := by
  have h0 : (nI 0).toInt = 0 := by decide
  rcases pk_ix x hn with h | h | h
  · right; left
    refine ⟨h, ?_⟩
    have h : x < nI 0 := h
    rw [Int32.lt_iff_toInt_lt] at h
    rw [Int32.le_iff_toInt_le]
    omega
  · right; right
    have h2 := h
    rw [Int32.le_iff_toInt_le, nI_toInt hn] at h2
    refine ⟨h, ?_, ?_, ?_⟩
    · rw [Int32.lt_iff_toInt_lt, nI_toInt hn]; omega
    · rw [Int32.lt_iff_toInt_lt]; omega
    · rw [Int32.le_iff_toInt_le]; omega
  · left; exact h
/-! memory -/
theorem st_e {V : Mem} {c j : Nat} {x : Int32} : stv V c j x c = upd (V c) j x := if_pos rfl
theorem st_n {V : Mem} {c d j : Nat} {x : Int32} (h : d ≠ c) : stv V c j x d = V d := if_neg h
theorem vu_e {V : Mem} {c : Nat} {f : Nat → Int32} : va_up V c f c = f := if_pos rfl
theorem vu_n {V : Mem} {c d : Nat} {f : Nat → Int32} (h : d ≠ c) : va_up V c f d = V d := if_neg h
theorem up_e {f : Nat → Int32} {j : Nat} {x : Int32} : upd f j x j = x := if_pos rfl
theorem up_n {f : Nat → Int32} {j k : Nat} {x : Int32} (h : k ≠ j) : upd f j x k = f k := if_neg h
theorem vu_vu {V : Mem} {c : Nat} {f g : Nat → Int32} : va_up (va_up V c f) c g = va_up V c g := by
  funext d
  by_cases h : d = c
  · subst h; rw [vu_e, vu_e]
  · rw [vu_n h, vu_n h, vu_n h]
theorem vu_id {V : Mem} {c : Nat} : va_up V c (V c) = V := by
  funext d
  by_cases h : d = c
  · subst h; rw [vu_e]
  · rw [vu_n h]
theorem vu_id' {V : Mem} {c : Nat} {f : Nat → Int32} (h : f = V c) : va_up V c f = V := by rw [h, vu_id]
theorem st_vu {V : Mem} {c j : Nat} {x : Int32} : stv V c j x = va_up V c (upd (V c) j x) := rfl
/-! loops -/
theorem lp_up (K : Nat) (P : Nat → Nat → Prop) (h0 : ∀ n, P (n + 1) K) (h1 : ∀ n k, k < K → P n (k + 1) → P (n + 1) k) : ∀ (n k : Nat), k ≤ K → K - k < n → P n k := by
  intro n
  induction n with
  | zero => intro k _ h; omega
  | succ n ih =>
    intro k hk h
    rcases Nat.lt_or_ge k K with q | q
    · exact h1 n k q (ih (k + 1) (by omega) (by omega))
    · have e : k = K := by omega
      subst e
      exact h0 n
/-- up to K, from any k; the state is a function of k -/
theorem lp_run {β : Type} (K : Nat) (L : Nat → Nat → β) (z : β) (h0 : ∀ n, L (n + 1) K = z) (h1 : ∀ n k, k < K → L (n + 1) k = L n (k + 1)) {n k : Nat} (hk : k ≤ K) (hn : K - k < n) : L n k = z :=
  lp_up K (fun n k => L n k = z) h0 (fun n k h ih => (h1 n k h).trans ih) n k hk hn
/-- downwards -/
theorem lp_dn {β : Type} (L : Nat → Nat → β) (z : β) (h0 : ∀ n, L (n + 1) 0 = z) (h1 : ∀ n k, L (n + 1) (k + 1) = L n k) : ∀ {k n : Nat}, k < n → L n k = z := by
  intro k
  induction k with
  | zero => intro n h; obtain ⟨m, rfl⟩ : ∃ m, n = m + 1 := ⟨n - 1, by omega⟩; exact h0 m
  | succ k ih => intro n h; obtain ⟨m, rfl⟩ : ∃ m, n = m + 1 := ⟨n - 1, by omega⟩; rw [h1]; exact ih (by omega)
/-! bits by revision -/
def pw (k : Nat) : Int32 := nI 1 <<< (nI k &&& nI 31)
theorem pw_d (k : Nat) : nI 1 <<< (nI k &&& nI 31) = pw k := id rfl
theorem bt_pw {k : Nat} (hk : k < 32) (i : Nat) : bt (pw k) i = decide (i = k) := by
  rcases Nat.lt_or_ge i 32 with h | h
  · rw [pw, show (nI 31 : Int32) = 31 from rfl, b_shl k hk _ h]
    have h1 : ∀ j, j < 32 → bt (nI 1) j = decide (j = 0) := by decide +kernel
    by_cases e : i = k
    · subst e; rw [h1 _ (by omega)]; simp
    · by_cases e2 : k ≤ i
      · rw [h1 _ (by omega), decide_eq_false (show ¬ i - k = 0 by omega), Bool.and_false, decide_eq_false e]
      · rw [decide_eq_false e2, Bool.false_and, decide_eq_false e]
  · rw [b_big h, decide_eq_false (by omega)]
theorem bt_0 (i : Nat) : bt (nI 0) i = false := b_0 i
/-- what the reference asks -/
theorem sh_bt {x : Int32} {k : Nat} (hk : k < 32) : (x >>> (nI k &&& nI 31)) &&& nI 1 = if bt x k then nI 1 else nI 0 := by
  apply b_ext
  intro i hi
  have h1 : ∀ j, j < 32 → bt (nI 1) j = decide (j = 0) := by decide +kernel
  rw [b_and, show (nI 31 : Int32) = 31 from rfl, b_sshr k hk _ hi, h1 i hi]
  by_cases e : i = 0
  · subst e
    rw [if_pos (by omega), Nat.add_zero, decide_eq_true rfl, Bool.and_true]
    cases bt x k
    · exact (bt_0 0).symm
    · exact (h1 0 hi).symm
  · rw [decide_eq_false e, Bool.and_false]
    cases bt x k
    · exact (bt_0 i).symm
    · exact ((h1 i hi).trans (decide_eq_false e)).symm
/-- what the class asks -/
theorem an_bt {x : Int32} {k : Nat} (hk : k < 32) : (x &&& pw k = nI 0) = (bt x k = false) := by
  apply propext
  constructor
  · intro h
    have := congrArg (fun y => bt y k) h
    simpa [b_and, bt_pw hk, bt_0] using this
  · intro h
    apply b_ext
    intro i hi
    rw [b_and, bt_pw hk, bt_0]
    by_cases e : i = k
    · subst e; rw [h, Bool.false_and]
    · rw [decide_eq_false e, Bool.and_false]
theorem or_0 (x : Int32) : x ||| nI 0 = x := by
  apply b_ext; intro i hi; rw [b_or, bt_0, Bool.or_false]
theorem or_0' (x : Int32) : nI 0 ||| x = x := by
  apply b_ext; intro i hi; rw [b_or, bt_0, Bool.false_or]
theorem an_0 (x : Int32) : x &&& nI 0 = nI 0 := by
  apply b_ext; intro i hi; rw [b_and, bt_0, Bool.and_false]
