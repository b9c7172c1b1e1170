/-! PURE, 42: distances -/
theorem fb_ct_lt {p q : Nat → Bool} : ∀ {n : Nat}, (∀ k, k < n → p k = true → q k = true) → (∃ k, k < n ∧ q k = true ∧ p k = false) → fb_ct p n < fb_ct q n
  | 0, _, h => by obtain ⟨k, hk, _⟩ := h; omega
  | n + 1, h, h2 => by
    rw [fb_ct_succ, fb_ct_succ]
    obtain ⟨k, hk, a, b⟩ := h2
    by_cases e : k = n
    · subst e
      have := fb_ct_sub (p := p) (q := q) (n := k) (fun i hi => h i (by omega))
      rw [a, b]
      simp
      omega
    · have ih := fb_ct_lt (p := p) (q := q) (n := n) (fun i hi => h i (by omega)) ⟨k, by omega, a, b⟩
      have := h n (by omega)
      cases hp : p n <;> cases hq : q n <;> simp_all <;> omega
section QD
variable {V : Mem} {g : Arr}
theorem an_ne {x y : Int32} : (x &&& y = nI 0) = ¬ ∃ i, bt x i = true ∧ bt y i = true := by
  apply propext
  constructor
  · rintro h ⟨i, h1, h2⟩
    have := congrArg (fun z => bt z i) h
    simp only [b_and, h1, h2, bt_0] at this
    exact Bool.noConfusion this
  · intro h
    apply b_ext
    intro i _
    rw [b_and, bt_0]
    cases q : bt x i
    · rfl
    · cases q2 : bt y i
      · rfl
      · exact absurd ⟨i, q, q2⟩ h
def nbS (g : Arr) (S : Int32) : Nat → Int32
  | 0 => S
  | r + 1 => (nbS g S r ||| (if bt S r then psg g r else nI 0)) ||| (if S &&& psg g r = nI 0 then nI 0 else pw r)
theorem nbS_bt (g : Arr) (S : Int32) (q : Nat) : ∀ n, n ≤ 24 → (bt (nbS g S n) q = true ↔ bt S q = true ∨ ∃ r, r < n ∧ ((bt S r = true ∧ bt (psg g r) q = true) ∨ (q = r ∧ ∃ i, bt S i = true ∧ bt (psg g r) i = true)))
  | 0, _ => ⟨fun h => .inl h, fun h => h.resolve_right (fun ⟨r, h, _⟩ => absurd h (Nat.not_lt_zero _))⟩
  | n + 1, hn => by
    have ih := nbS_bt g S q n (by omega)
    unfold nbS
    rw [b_or, b_or, Bool.or_eq_true, Bool.or_eq_true, ih]
    constructor
    · rintro (((h | ⟨r, h1, h2⟩) | h) | h)
      · exact .inl h
      · exact .inr ⟨r, by omega, h2⟩
      · by_cases z : bt S n = true
        · rw [if_pos z] at h; exact .inr ⟨n, by omega, .inl ⟨z, h⟩⟩
        · rw [if_neg z, bt_0] at h; exact Bool.noConfusion h
      · by_cases z : S &&& psg g n = nI 0
        · rw [if_pos z, bt_0] at h; exact Bool.noConfusion h
        · rw [if_neg z, bt_pw (by omega)] at h
          rw [an_ne] at z
          exact .inr ⟨n, by omega, .inr ⟨of_decide_eq_true h, Classical.not_not.mp z⟩⟩
    · rintro (h | ⟨r, h1, h2⟩)
      · exact .inl (.inl (.inl h))
      · by_cases e : r = n
        · subst e
          rcases h2 with ⟨a, b⟩ | ⟨a, b⟩
          · exact .inl (.inr (by rw [if_pos a]; exact b))
          · refine .inr ?_
            rw [if_neg (by rw [an_ne]; exact fun z => z b), bt_pw (by omega)]
            exact decide_eq_true a
        · exact .inl (.inl (.inr ⟨r, by omega, h2⟩))
def inI (g : Arr) (S : Int32) (k : Nat) (acc : Int32) : Nat → Int32
  | 0 => acc
  | i + 1 => inI g S k acc i ||| (if (bt S i && (bt (psg g i) k || bt (psg g k) i)) = true then pw k else nI 0)
def mdS (g : Arr) (S : Int32) : Nat → Int32
  | 0 => S
  | k + 1 => inI g S k (mdS g S k) (cnt g)
theorem inI_bt (g : Arr) (S : Int32) {k : Nat} (hk : k < 32) (acc : Int32) (q : Nat) : ∀ n, bt (inI g S k acc n) q = true ↔ bt acc q = true ∨ (q = k ∧ ∃ i, i < n ∧ bt S i = true ∧ (bt (psg g i) k = true ∨ bt (psg g k) i = true))
  | 0 => ⟨fun h => .inl h, fun h => h.resolve_right (fun ⟨_, i, h, _⟩ => absurd h (Nat.not_lt_zero _))⟩
  | n + 1 => by
    have ih := inI_bt g S hk acc q n
    unfold inI
    rw [b_or, Bool.or_eq_true, ih]
    constructor
    · rintro ((h | ⟨h0, i, h1, h2⟩) | h)
      · exact .inl h
      · exact .inr ⟨h0, i, by omega, h2⟩
      · by_cases z : (bt S n && (bt (psg g n) k || bt (psg g k) n)) = true
        · rw [if_pos z, bt_pw hk] at h
          rw [Bool.and_eq_true, Bool.or_eq_true] at z
          exact .inr ⟨of_decide_eq_true h, n, by omega, z⟩
        · rw [if_neg z, bt_0] at h; exact Bool.noConfusion h
    · rintro (h | ⟨h0, i, h1, h2⟩)
      · exact .inl (.inl h)
      · by_cases e : i = n
        · subst e
          refine .inr ?_
          rw [if_pos (by rw [Bool.and_eq_true, Bool.or_eq_true]; exact h2), bt_pw hk]
          exact decide_eq_true h0
        · exact .inl (.inr ⟨h0, i, by omega, h2⟩)
theorem mdS_bt (g : Arr) (S : Int32) (q : Nat) : ∀ n, n ≤ 24 → (bt (mdS g S n) q = true ↔ bt S q = true ∨ (q < n ∧ ∃ i, i < cnt g ∧ bt S i = true ∧ (bt (psg g i) q = true ∨ bt (psg g q) i = true)))
  | 0, _ => ⟨fun h => .inl h, fun h => h.resolve_right (fun h => absurd h.1 (Nat.not_lt_zero _))⟩
  | n + 1, hn => by
    have ih := mdS_bt g S q n (by omega)
    unfold mdS
    rw [inI_bt g S (by omega), ih]
    constructor
    · rintro ((h | ⟨h0, h1⟩) | ⟨rfl, h1⟩)
      · exact .inl h
      · exact .inr ⟨by omega, h1⟩
      · exact .inr ⟨by omega, h1⟩
    · rintro (h | ⟨h0, h1⟩)
      · exact .inl (.inl h)
      · by_cases e : q = n
        · subst e; exact .inr ⟨rfl, h1⟩
        · exact .inl (.inr ⟨by omega, h1⟩)
def NBg (g : Arr) (S : Int32) : Int32 := nbS g S (cnt g)
theorem NB_eq (ok : OKg g) {S : Int32} (hS : ∀ q, bt S q = true → q < cnt g) : mdS g S (cnt g) = NBg g S := by
  have hc := ok_c24 ok
  apply b_ext
  intro q _
  have a := mdS_bt g S q (cnt g) hc
  have b := nbS_bt g S q (cnt g) hc
  have : bt (mdS g S (cnt g)) q = true ↔ bt (NBg g S) q = true := by
    unfold NBg
    rw [a, b]
    constructor
    · rintro (h | ⟨h0, i, h1, h2, h3 | h3⟩)
      · exact .inl h
      · exact .inr ⟨i, h1, .inl ⟨h2, h3⟩⟩
      · exact .inr ⟨q, h0, .inr ⟨rfl, i, h2, h3⟩⟩
    · rintro (h | ⟨r, h1, ⟨h2, h3⟩ | ⟨rfl, i, h2, h3⟩⟩)
      · exact .inl h
      · exact .inr ⟨by have := (psg_lt ok h1 h3).1; omega, r, h1, h2, .inl h3⟩
      · exact .inr ⟨h1, i, hS i h2, h2, .inr h3⟩
  cases x : bt (mdS g S (cnt g)) q
  · cases y : bt (NBg g S) q
    · rfl
    · rw [this.mpr y] at x; exact Bool.noConfusion x
  · exact (this.mp x).symm
theorem NB_sub (ok : OKg g) {S : Int32} {q : Nat} (h : bt S q = true) : bt (NBg g S) q = true := (nbS_bt g S q (cnt g) (ok_c24 ok)).mpr (.inl h)
theorem NB_lo (ok : OKg g) {S : Int32} (hS : ∀ q, bt S q = true → q < cnt g) : ∀ q, bt (NBg g S) q = true → q < cnt g := fun q h => by
  rcases (nbS_bt g S q (cnt g) (ok_c24 ok)).mp h with h | ⟨r, h1, ⟨h2, h3⟩ | ⟨rfl, h2⟩⟩
  · exact hS q h
  · have := (psg_lt ok h1 h3).1; omega
  · exact h1
/-- where nothing is added, all is there -/
theorem NB_all (ok : OKg g) {S : Int32} {a : Nat} (ha : bt S a = true) (hac : a < cnt g) (hcl : ∀ q, bt (NBg g S) q = true → bt S q = true) : ∀ b, b < cnt g → bt S b = true := by
  have hc := ok_c24 ok
  have fp : ∀ r, r < cnt g → 0 < r → bt (psg g r) (p1 g r) = true ∧ p1 g r < r := fun r hr h0 => by
    have hp := ok_p1l ok hr h0
    exact ⟨(psg_bt ok hr _).mpr (.inl ⟨by rw [ok_p1 ok hr h0]; exact nI_m1 (by omega), rfl⟩), hp⟩
  have dn : ∀ r, r < cnt g → bt S r = true → bt S 0 = true := by
    intro r
    induction r using Nat.strongRecOn with
    | ind r ih =>
      intro hr h
      rcases Nat.eq_zero_or_pos r with z | z
      · subst z; exact h
      · obtain ⟨f1, f2⟩ := fp r hr z
        exact ih _ f2 (by omega) (hcl _ ((nbS_bt g S _ (cnt g) hc).mpr (.inr ⟨r, hr, .inl ⟨h, f1⟩⟩)))
  have h0 := dn a hac ha
  intro b
  induction b using Nat.strongRecOn with
  | ind b ih =>
    intro hb
    rcases Nat.eq_zero_or_pos b with z | z
    · subst z; exact h0
    · obtain ⟨f1, f2⟩ := fp b hb z
      exact hcl _ ((nbS_bt g S _ (cnt g) hc).mpr (.inr ⟨b, hb, .inr ⟨rfl, p1 g b, ih _ f2 (by omega), f1⟩⟩))
theorem cx_nb {S : Int32} (ok : OKg g) (R : RelS V g) : f_X6_withNeighbours V S = some (NBg g S, V) := by
  have hc := ok_c24 ok
  unfold f_X6_withNeighbours NBg
  refine lp_run (cnt g) (fun n k => f_X6_withNeighbours_L4 S n V (nbS g S k) (nI k)) _ ?_ ?_ (n := FU) (k := 0) (by omega) (by unfold FU; omega)
  · intro n
    rw [f_X6_withNeighbours_L4.eq_2]
    simp (disch := omega) only [bd_s, bv_s, lt_d, jn_d, om_s, om_n, zl0, zl1, zl2, zl3, zl4, zl5, zl6, zl7, zl8, zl9, zl10, zl11, zl12, zl13, zl16, zl23, zl24, zl26, zl31, zl32, zl35, zl36, zl40, zl42, zl45, zl48, zl57, zl58, zl59, zl60, zl61, zl62, zl63, zl64, zl65, zl78, zl90, zl94, zl97, zl98, zl114, zl122, zl126, zl244, zl290, zl291, zl326, zl335, zl361, zl2527, zl2888, neg1, le_T, le_F, lt_T, lt_F, eq_T, eq_F, m1_ne, m1_ne', m1_lt, m1_le, lt_m1, le_m1, cl_n, ib_T, nI_add, pk_mul, sub_n, add_m1, sub_m1, m1_1, m1_1', pw_d, st_e, st_n, vu_e, vu_n, up_e, up_n, if_true, if_false, true_or, or_true, false_or, or_false, eq_self, reduceCtorEq, not_true_eq_false, not_false_eq_true, rl_n R, ok_cnt ok]
  · intro n k hk
    rw [f_X6_withNeighbours_L4.eq_2, nbS]
    have ct := sx_cont (V := V) (x := S) (show k < 24 by omega)
    cases q : bt S k
    · rw [q] at ct
      by_cases z : S &&& psg g k = nI 0
      · simp (disch := omega) only [bd_s, bv_s, lt_d, jn_d, om_s, om_n, zl0, zl1, zl2, zl3, zl4, zl5, zl6, zl7, zl8, zl9, zl10, zl11, zl12, zl13, zl16, zl23, zl24, zl26, zl31, zl32, zl35, zl36, zl40, zl42, zl45, zl48, zl57, zl58, zl59, zl60, zl61, zl62, zl63, zl64, zl65, zl78, zl90, zl94, zl97, zl98, zl114, zl122, zl126, zl244, zl290, zl291, zl326, zl335, zl361, zl2527, zl2888, neg1, le_T, le_F, lt_T, lt_F, eq_T, eq_F, m1_ne, m1_ne', m1_lt, m1_le, lt_m1, le_m1, cl_n, ib_T, nI_add, pk_mul, sub_n, add_m1, sub_m1, m1_1, m1_1', pw_d, st_e, st_n, vu_e, vu_n, up_e, up_n, if_true, if_false, true_or, or_true, false_or, or_false, eq_self, reduceCtorEq, not_true_eq_false, not_false_eq_true, rl_n R, ok_cnt ok, cx_ps ok R hk, ct, z, Bool.false_eq_true, or_0]
      · simp (disch := omega) only [bd_s, bv_s, lt_d, jn_d, om_s, om_n, zl0, zl1, zl2, zl3, zl4, zl5, zl6, zl7, zl8, zl9, zl10, zl11, zl12, zl13, zl16, zl23, zl24, zl26, zl31, zl32, zl35, zl36, zl40, zl42, zl45, zl48, zl57, zl58, zl59, zl60, zl61, zl62, zl63, zl64, zl65, zl78, zl90, zl94, zl97, zl98, zl114, zl122, zl126, zl244, zl290, zl291, zl326, zl335, zl361, zl2527, zl2888, neg1, le_T, le_F, lt_T, lt_F, eq_T, eq_F, m1_ne, m1_ne', m1_lt, m1_le, lt_m1, le_m1, cl_n, ib_T, nI_add, pk_mul, sub_n, add_m1, sub_m1, m1_1, m1_1', pw_d, st_e, st_n, vu_e, vu_n, up_e, up_n, if_true, if_false, true_or, or_true, false_or, or_false, eq_self, reduceCtorEq, not_true_eq_false, not_false_eq_true, rl_n R, ok_cnt ok, cx_ps ok R hk, ct, z, Bool.false_eq_true, or_0, sx_setOf]
    · rw [q] at ct
      by_cases z : S &&& psg g k = nI 0
      · simp (disch := omega) only [bd_s, bv_s, lt_d, jn_d, om_s, om_n, zl0, zl1, zl2, zl3, zl4, zl5, zl6, zl7, zl8, zl9, zl10, zl11, zl12, zl13, zl16, zl23, zl24, zl26, zl31, zl32, zl35, zl36, zl40, zl42, zl45, zl48, zl57, zl58, zl59, zl60, zl61, zl62, zl63, zl64, zl65, zl78, zl90, zl94, zl97, zl98, zl114, zl122, zl126, zl244, zl290, zl291, zl326, zl335, zl361, zl2527, zl2888, neg1, le_T, le_F, lt_T, lt_F, eq_T, eq_F, m1_ne, m1_ne', m1_lt, m1_le, lt_m1, le_m1, cl_n, ib_T, nI_add, pk_mul, sub_n, add_m1, sub_m1, m1_1, m1_1', pw_d, st_e, st_n, vu_e, vu_n, up_e, up_n, if_true, if_false, true_or, or_true, false_or, or_false, eq_self, reduceCtorEq, not_true_eq_false, not_false_eq_true, rl_n R, ok_cnt ok, cx_ps ok R hk, ct, z, or_0]
      · simp (disch := omega) only [bd_s, bv_s, lt_d, jn_d, om_s, om_n, zl0, zl1, zl2, zl3, zl4, zl5, zl6, zl7, zl8, zl9, zl10, zl11, zl12, zl13, zl16, zl23, zl24, zl26, zl31, zl32, zl35, zl36, zl40, zl42, zl45, zl48, zl57, zl58, zl59, zl60, zl61, zl62, zl63, zl64, zl65, zl78, zl90, zl94, zl97, zl98, zl114, zl122, zl126, zl244, zl290, zl291, zl326, zl335, zl361, zl2527, zl2888, neg1, le_T, le_F, lt_T, lt_F, eq_T, eq_F, m1_ne, m1_ne', m1_lt, m1_le, lt_m1, le_m1, cl_n, ib_T, nI_add, pk_mul, sub_n, add_m1, sub_m1, m1_1, m1_1', pw_d, st_e, st_n, vu_e, vu_n, up_e, up_n, if_true, if_false, true_or, or_true, false_or, or_false, eq_self, reduceCtorEq, not_true_eq_false, not_false_eq_true, rl_n R, ok_cnt ok, cx_ps ok R hk, ct, z, sx_setOf]
theorem mm_nx {U : Mem} {i k : Nat} (ok : OKg (U 254)) (hi : i < cnt (U 254)) (hk : k < cnt (U 254)) : f_X10_areNext U (nI i) (nI k) = some (if (bt (psg (U 254) i) k || bt (psg (U 254) k) i) = true then nI 1 else nI 0, U) := by
  have hc := ok_c24 ok
  have F : ∀ x y, x < cnt (U 254) → y < cnt (U 254) → (bt (psg (U 254) x) y = true ↔ U 254 (2 + 12 * x) = nI y ∨ U 254 (2 + 12 * x + 1) = nI y) := fun x y hx hy => by
    rw [psg_bt ok hx]
    have m : ∀ z : Nat, z < 2 ^ 31 → ¬ m1 = nI z := fun z hz => by rw [m1_ne' hz]; exact id
    constructor
    · rintro (⟨e, rfl⟩ | ⟨e, rfl⟩)
      · rcases ok_f ok hx with z | z
        · exact absurd z.2 e
        · exact .inl z.2.1
      · rcases ok_s ok hx with z | z
        · exact absurd z e
        · exact .inr z.1
    · rintro (e | e)
      · rcases ok_f ok hx with z | z
        · rw [z.2] at e; exact absurd e (m y (by omega))
        · refine .inl ⟨by rw [e]; exact nI_m1 (by omega), ?_⟩
          rw [z.2.1] at e; exact ((nI_eq (by omega) (by omega)).mp e).symm
      · rcases ok_s ok hx with z | z
        · rw [z] at e; exact absurd e (m y (by omega))
        · refine .inr ⟨by rw [e]; exact nI_m1 (by omega), ?_⟩
          rw [z.1] at e; exact ((nI_eq (by omega) (by omega)).mp e).symm
  have f1 := F i k hi hk
  have f2 := F k i hk hi
  unfold f_X10_areNext
  by_cases e1 : U 254 (2 + 12 * i) = nI k
  · rw [if_pos (show (bt (psg (U 254) i) k || bt (psg (U 254) k) i) = true by rw [f1.mpr (.inl e1)]; rfl)]
    simp (disch := omega) only [bd_s, bv_s, lt_d, jn_d, om_s, om_n, zl0, zl1, zl2, zl3, zl4, zl5, zl6, zl7, zl8, zl9, zl10, zl11, zl12, zl13, zl16, zl23, zl24, zl26, zl31, zl32, zl35, zl36, zl40, zl42, zl45, zl48, zl57, zl58, zl59, zl60, zl61, zl62, zl63, zl64, zl65, zl78, zl90, zl94, zl97, zl98, zl114, zl122, zl126, zl244, zl290, zl291, zl326, zl335, zl361, zl2527, zl2888, neg1, le_T, le_F, lt_T, lt_F, eq_T, eq_F, m1_ne, m1_ne', m1_lt, m1_le, lt_m1, le_m1, cl_n, ib_T, nI_add, pk_mul, sub_n, add_m1, sub_m1, m1_1, m1_1', pw_d, st_e, st_n, vu_e, vu_n, up_e, up_n, if_true, if_false, true_or, or_true, false_or, or_false, eq_self, reduceCtorEq, not_true_eq_false, not_false_eq_true, sm_revAt, e1]
  · by_cases e2 : U 254 (2 + 12 * i + 1) = nI k
    · rw [if_pos (show (bt (psg (U 254) i) k || bt (psg (U 254) k) i) = true by rw [f1.mpr (.inr e2)]; rfl)]
      simp (disch := omega) only [bd_s, bv_s, lt_d, jn_d, om_s, om_n, zl0, zl1, zl2, zl3, zl4, zl5, zl6, zl7, zl8, zl9, zl10, zl11, zl12, zl13, zl16, zl23, zl24, zl26, zl31, zl32, zl35, zl36, zl40, zl42, zl45, zl48, zl57, zl58, zl59, zl60, zl61, zl62, zl63, zl64, zl65, zl78, zl90, zl94, zl97, zl98, zl114, zl122, zl126, zl244, zl290, zl291, zl326, zl335, zl361, zl2527, zl2888, neg1, le_T, le_F, lt_T, lt_F, eq_T, eq_F, m1_ne, m1_ne', m1_lt, m1_le, lt_m1, le_m1, cl_n, ib_T, nI_add, pk_mul, sub_n, add_m1, sub_m1, m1_1, m1_1', pw_d, st_e, st_n, vu_e, vu_n, up_e, up_n, if_true, if_false, true_or, or_true, false_or, or_false, eq_self, reduceCtorEq, not_true_eq_false, not_false_eq_true, sm_revAt, e1, e2]
    · by_cases e3 : U 254 (2 + 12 * k) = nI i
      · rw [if_pos (show (bt (psg (U 254) i) k || bt (psg (U 254) k) i) = true by rw [f2.mpr (.inl e3), Bool.or_true])]
        simp (disch := omega) only [bd_s, bv_s, lt_d, jn_d, om_s, om_n, zl0, zl1, zl2, zl3, zl4, zl5, zl6, zl7, zl8, zl9, zl10, zl11, zl12, zl13, zl16, zl23, zl24, zl26, zl31, zl32, zl35, zl36, zl40, zl42, zl45, zl48, zl57, zl58, zl59, zl60, zl61, zl62, zl63, zl64, zl65, zl78, zl90, zl94, zl97, zl98, zl114, zl122, zl126, zl244, zl290, zl291, zl326, zl335, zl361, zl2527, zl2888, neg1, le_T, le_F, lt_T, lt_F, eq_T, eq_F, m1_ne, m1_ne', m1_lt, m1_le, lt_m1, le_m1, cl_n, ib_T, nI_add, pk_mul, sub_n, add_m1, sub_m1, m1_1, m1_1', pw_d, st_e, st_n, vu_e, vu_n, up_e, up_n, if_true, if_false, true_or, or_true, false_or, or_false, eq_self, reduceCtorEq, not_true_eq_false, not_false_eq_true, sm_revAt, e1, e2, e3]
      · by_cases e4 : U 254 (2 + 12 * k + 1) = nI i
        · rw [if_pos (show (bt (psg (U 254) i) k || bt (psg (U 254) k) i) = true by rw [f2.mpr (.inr e4), Bool.or_true])]
          simp (disch := omega) only [bd_s, bv_s, lt_d, jn_d, om_s, om_n, zl0, zl1, zl2, zl3, zl4, zl5, zl6, zl7, zl8, zl9, zl10, zl11, zl12, zl13, zl16, zl23, zl24, zl26, zl31, zl32, zl35, zl36, zl40, zl42, zl45, zl48, zl57, zl58, zl59, zl60, zl61, zl62, zl63, zl64, zl65, zl78, zl90, zl94, zl97, zl98, zl114, zl122, zl126, zl244, zl290, zl291, zl326, zl335, zl361, zl2527, zl2888, neg1, le_T, le_F, lt_T, lt_F, eq_T, eq_F, m1_ne, m1_ne', m1_lt, m1_le, lt_m1, le_m1, cl_n, ib_T, nI_add, pk_mul, sub_n, add_m1, sub_m1, m1_1, m1_1', pw_d, st_e, st_n, vu_e, vu_n, up_e, up_n, if_true, if_false, true_or, or_true, false_or, or_false, eq_self, reduceCtorEq, not_true_eq_false, not_false_eq_true, sm_revAt, e1, e2, e3, e4]
        · have n1 : bt (psg (U 254) i) k = false := bf (fun z => (f1.mp z).elim e1 e2)
          have n2 : bt (psg (U 254) k) i = false := bf (fun z => (f2.mp z).elim e3 e4)
          rw [n1, n2]
          simp (disch := omega) only [bd_s, bv_s, lt_d, jn_d, om_s, om_n, zl0, zl1, zl2, zl3, zl4, zl5, zl6, zl7, zl8, zl9, zl10, zl11, zl12, zl13, zl16, zl23, zl24, zl26, zl31, zl32, zl35, zl36, zl40, zl42, zl45, zl48, zl57, zl58, zl59, zl60, zl61, zl62, zl63, zl64, zl65, zl78, zl90, zl94, zl97, zl98, zl114, zl122, zl126, zl244, zl290, zl291, zl326, zl335, zl361, zl2527, zl2888, neg1, le_T, le_F, lt_T, lt_F, eq_T, eq_F, m1_ne, m1_ne', m1_lt, m1_le, lt_m1, le_m1, cl_n, ib_T, nI_add, pk_mul, sub_n, add_m1, sub_m1, m1_1, m1_1', pw_d, st_e, st_n, vu_e, vu_n, up_e, up_n, if_true, if_false, true_or, or_true, false_or, or_false, eq_self, reduceCtorEq, not_true_eq_false, not_false_eq_true, sm_revAt, e1, e2, e3, e4, Bool.or_false, Bool.false_eq_true]
theorem mm_nb {U : Mem} {S x4 a2 : Int32} {jj : Mem → Int32 → Option (Int32 × Mem)} (ok : OKg (U 254)) (hS : ∀ q, bt S q = true → q < cnt (U 254)) : f_X10_distance_L32 a2 S x4 jj FU U S (nI 0) = jj U (NBg (U 254) S) := by
  have hc := ok_c24 ok
  rw [← NB_eq ok hS]
  have inner : ∀ (k : Nat), k < cnt (U 254) → ∀ (acc : Int32) (j2 : Mem → Int32 → Option (Int32 × Mem)), f_X10_distance_L46 a2 S x4 (nI k) j2 FU U acc (nI 0) = j2 U (inI (U 254) S k acc (cnt (U 254))) := by
    intro k hk acc j2
    refine lp_run (cnt (U 254)) (fun n i => f_X10_distance_L46 a2 S x4 (nI k) j2 n U (inI (U 254) S k acc i) (nI i)) _ ?_ ?_ (n := FU) (k := 0) (by omega) (by unfold FU; omega)
    · intro n
      rw [f_X10_distance_L46.eq_2]
      simp (disch := omega) only [bd_s, bv_s, lt_d, jn_d, om_s, om_n, zl0, zl1, zl2, zl3, zl4, zl5, zl6, zl7, zl8, zl9, zl10, zl11, zl12, zl13, zl16, zl23, zl24, zl26, zl31, zl32, zl35, zl36, zl40, zl42, zl45, zl48, zl57, zl58, zl59, zl60, zl61, zl62, zl63, zl64, zl65, zl78, zl90, zl94, zl97, zl98, zl114, zl122, zl126, zl244, zl290, zl291, zl326, zl335, zl361, zl2527, zl2888, neg1, le_T, le_F, lt_T, lt_F, eq_T, eq_F, m1_ne, m1_ne', m1_lt, m1_le, lt_m1, le_m1, cl_n, ib_T, nI_add, pk_mul, sub_n, add_m1, sub_m1, m1_1, m1_1', pw_d, st_e, st_n, vu_e, vu_n, up_e, up_n, if_true, if_false, true_or, or_true, false_or, or_false, eq_self, reduceCtorEq, not_true_eq_false, not_false_eq_true, ok_cnt ok]
    · intro n i hi
      rw [f_X10_distance_L46.eq_2, inI]
      have e := mm_nx ok hi hk
      have es : ∀ x, (if bt S i = true then nI 1 else nI 0) = x → ((S >>> (nI i &&& nI 31)) &&& nI 1) = x := fun x hx => by rw [sh_bt (by omega)]; exact hx
      cases q : bt S i
      · simp (disch := omega) only [bd_s, bv_s, lt_d, jn_d, om_s, om_n, zl0, zl1, zl2, zl3, zl4, zl5, zl6, zl7, zl8, zl9, zl10, zl11, zl12, zl13, zl16, zl23, zl24, zl26, zl31, zl32, zl35, zl36, zl40, zl42, zl45, zl48, zl57, zl58, zl59, zl60, zl61, zl62, zl63, zl64, zl65, zl78, zl90, zl94, zl97, zl98, zl114, zl122, zl126, zl244, zl290, zl291, zl326, zl335, zl361, zl2527, zl2888, neg1, le_T, le_F, lt_T, lt_F, eq_T, eq_F, m1_ne, m1_ne', m1_lt, m1_le, lt_m1, le_m1, cl_n, ib_T, nI_add, pk_mul, sub_n, add_m1, sub_m1, m1_1, m1_1', pw_d, st_e, st_n, vu_e, vu_n, up_e, up_n, if_true, if_false, true_or, or_true, false_or, or_false, eq_self, reduceCtorEq, not_true_eq_false, not_false_eq_true, ok_cnt ok, es (nI 0) (by rw [q]; rfl), Bool.false_and, Bool.false_eq_true]
      · cases q2 : (bt (psg (U 254) i) k || bt (psg (U 254) k) i)
        · rw [q2] at e
          simp (disch := omega) only [bd_s, bv_s, lt_d, jn_d, om_s, om_n, zl0, zl1, zl2, zl3, zl4, zl5, zl6, zl7, zl8, zl9, zl10, zl11, zl12, zl13, zl16, zl23, zl24, zl26, zl31, zl32, zl35, zl36, zl40, zl42, zl45, zl48, zl57, zl58, zl59, zl60, zl61, zl62, zl63, zl64, zl65, zl78, zl90, zl94, zl97, zl98, zl114, zl122, zl126, zl244, zl290, zl291, zl326, zl335, zl361, zl2527, zl2888, neg1, le_T, le_F, lt_T, lt_F, eq_T, eq_F, m1_ne, m1_ne', m1_lt, m1_le, lt_m1, le_m1, cl_n, ib_T, nI_add, pk_mul, sub_n, add_m1, sub_m1, m1_1, m1_1', pw_d, st_e, st_n, vu_e, vu_n, up_e, up_n, if_true, if_false, true_or, or_true, false_or, or_false, eq_self, reduceCtorEq, not_true_eq_false, not_false_eq_true, ok_cnt ok, es (nI 1) (by rw [q]; rfl), e, Bool.true_and, Bool.false_eq_true]
        · rw [q2] at e
          simp (disch := omega) only [bd_s, bv_s, lt_d, jn_d, om_s, om_n, zl0, zl1, zl2, zl3, zl4, zl5, zl6, zl7, zl8, zl9, zl10, zl11, zl12, zl13, zl16, zl23, zl24, zl26, zl31, zl32, zl35, zl36, zl40, zl42, zl45, zl48, zl57, zl58, zl59, zl60, zl61, zl62, zl63, zl64, zl65, zl78, zl90, zl94, zl97, zl98, zl114, zl122, zl126, zl244, zl290, zl291, zl326, zl335, zl361, zl2527, zl2888, neg1, le_T, le_F, lt_T, lt_F, eq_T, eq_F, m1_ne, m1_ne', m1_lt, m1_le, lt_m1, le_m1, cl_n, ib_T, nI_add, pk_mul, sub_n, add_m1, sub_m1, m1_1, m1_1', pw_d, st_e, st_n, vu_e, vu_n, up_e, up_n, if_true, if_false, true_or, or_true, false_or, or_false, eq_self, reduceCtorEq, not_true_eq_false, not_false_eq_true, ok_cnt ok, es (nI 1) (by rw [q]; rfl), e, Bool.true_and]
  refine lp_run (cnt (U 254)) (fun n k => f_X10_distance_L32 a2 S x4 jj n U (mdS (U 254) S k) (nI k)) _ ?_ ?_ (n := FU) (k := 0) (by omega) (by unfold FU; omega)
  · intro n
    rw [f_X10_distance_L32.eq_2]
    simp (disch := omega) only [bd_s, bv_s, lt_d, jn_d, om_s, om_n, zl0, zl1, zl2, zl3, zl4, zl5, zl6, zl7, zl8, zl9, zl10, zl11, zl12, zl13, zl16, zl23, zl24, zl26, zl31, zl32, zl35, zl36, zl40, zl42, zl45, zl48, zl57, zl58, zl59, zl60, zl61, zl62, zl63, zl64, zl65, zl78, zl90, zl94, zl97, zl98, zl114, zl122, zl126, zl244, zl290, zl291, zl326, zl335, zl361, zl2527, zl2888, neg1, le_T, le_F, lt_T, lt_F, eq_T, eq_F, m1_ne, m1_ne', m1_lt, m1_le, lt_m1, le_m1, cl_n, ib_T, nI_add, pk_mul, sub_n, add_m1, sub_m1, m1_1, m1_1', pw_d, st_e, st_n, vu_e, vu_n, up_e, up_n, if_true, if_false, true_or, or_true, false_or, or_false, eq_self, reduceCtorEq, not_true_eq_false, not_false_eq_true, ok_cnt ok]
  · intro n k hk
    rw [f_X10_distance_L32.eq_2, mdS]
    simp (disch := omega) only [bd_s, bv_s, lt_d, jn_d, om_s, om_n, zl0, zl1, zl2, zl3, zl4, zl5, zl6, zl7, zl8, zl9, zl10, zl11, zl12, zl13, zl16, zl23, zl24, zl26, zl31, zl32, zl35, zl36, zl40, zl42, zl45, zl48, zl57, zl58, zl59, zl60, zl61, zl62, zl63, zl64, zl65, zl78, zl90, zl94, zl97, zl98, zl114, zl122, zl126, zl244, zl290, zl291, zl326, zl335, zl361, zl2527, zl2888, neg1, le_T, le_F, lt_T, lt_F, eq_T, eq_F, m1_ne, m1_ne', m1_lt, m1_le, lt_m1, le_m1, cl_n, ib_T, nI_add, pk_mul, sub_n, add_m1, sub_m1, m1_1, m1_1', pw_d, st_e, st_n, vu_e, vu_n, up_e, up_n, if_true, if_false, true_or, or_true, false_or, or_false, eq_self, reduceCtorEq, not_true_eq_false, not_false_eq_true, ok_cnt ok, inner k hk]
theorem dist_both {U : Mem} {a b : Nat} (ok : OKg g) (R : RelS V g) (hU : U 254 = g) (ha : a < cnt g) (hb : b < cnt g) : ∀ (m t : Nat) (S : Int32), t + m = 24 → (∀ q, bt S q = true → q < cnt g) → bt S a = true → t + 1 ≤ fb_ct (fun i => bt S i) 24 → ∀ n n', m < n → m < n' → ∃ res, f_X6_stepsBetween_L8 (nI b) n V S (nI t) = some (nI res, V) ∧ f_X10_distance_L18 (nI b) n' U S (nI t) = some (nI res, U) := by
  have hc := ok_c24 ok
  intro m
  induction m with
  | zero =>
    intro t S ht hS hSa hct n n' hn hn'
    have := fb_ct_le (fun i => bt S i) 24
    omega
  | succ m ih =>
    intro t S ht hS hSa hct n n' hn hn'
    obtain ⟨n, rfl⟩ : ∃ x, n = x + 1 := ⟨n - 1, by omega⟩
    obtain ⟨n', rfl⟩ : ∃ x, n' = x + 1 := ⟨n' - 1, by omega⟩
    have ct := sx_cont (V := V) (x := S) (show b < 24 by omega)
    have es : ∀ x, (if bt S b = true then nI 1 else nI 0) = x → ((S >>> (nI b &&& nI 31)) &&& nI 1) = x := fun x hx => by rw [sh_bt (by omega)]; exact hx
    cases q : bt S b
    · rw [q] at ct
      have strict : fb_ct (fun i => bt S i) 24 < fb_ct (fun i => bt (NBg g S) i) 24 := by
        refine fb_ct_lt (fun k _ h => NB_sub ok h) ?_
        refine Classical.byContradiction fun hx => ?_
        have := NB_all ok hSa ha (fun q' h => by
          cases z : bt S q'
          · exact absurd ⟨q', by have := NB_lo ok hS q' h; omega, h, z⟩ hx
          · rfl) b hb
        rw [q] at this
        exact Bool.noConfusion this
      obtain ⟨res, e1, e2⟩ := ih (t + 1) (NBg g S) (by omega) (NB_lo ok hS) (NB_sub ok hSa) (by omega) n n' (by omega) (by omega)
      refine ⟨res, ?_, ?_⟩
      · rw [f_X6_stepsBetween_L8.eq_2]
        simp (disch := omega) only [bd_s, bv_s, lt_d, jn_d, om_s, om_n, zl0, zl1, zl2, zl3, zl4, zl5, zl6, zl7, zl8, zl9, zl10, zl11, zl12, zl13, zl16, zl23, zl24, zl26, zl31, zl32, zl35, zl36, zl40, zl42, zl45, zl48, zl57, zl58, zl59, zl60, zl61, zl62, zl63, zl64, zl65, zl78, zl90, zl94, zl97, zl98, zl114, zl122, zl126, zl244, zl290, zl291, zl326, zl335, zl361, zl2527, zl2888, neg1, le_T, le_F, lt_T, lt_F, eq_T, eq_F, m1_ne, m1_ne', m1_lt, m1_le, lt_m1, le_m1, cl_n, ib_T, nI_add, pk_mul, sub_n, add_m1, sub_m1, m1_1, m1_1', pw_d, st_e, st_n, vu_e, vu_n, up_e, up_n, if_true, if_false, true_or, or_true, false_or, or_false, eq_self, reduceCtorEq, not_true_eq_false, not_false_eq_true, ct, Bool.false_eq_true, cx_nb ok R]
        exact e1
      · rw [f_X10_distance_L18.eq_2]
        have nb := fun jj => mm_nb (U := U) (S := S) (x4 := nI t) (a2 := nI b) (jj := jj) (by rw [hU]; exact ok) (by rw [hU]; exact hS)
        rw [hU] at nb
        simp (disch := omega) only [bd_s, bv_s, lt_d, jn_d, om_s, om_n, zl0, zl1, zl2, zl3, zl4, zl5, zl6, zl7, zl8, zl9, zl10, zl11, zl12, zl13, zl16, zl23, zl24, zl26, zl31, zl32, zl35, zl36, zl40, zl42, zl45, zl48, zl57, zl58, zl59, zl60, zl61, zl62, zl63, zl64, zl65, zl78, zl90, zl94, zl97, zl98, zl114, zl122, zl126, zl244, zl290, zl291, zl326, zl335, zl361, zl2527, zl2888, neg1, le_T, le_F, lt_T, lt_F, eq_T, eq_F, m1_ne, m1_ne', m1_lt, m1_le, lt_m1, le_m1, cl_n, ib_T, nI_add, pk_mul, sub_n, add_m1, sub_m1, m1_1, m1_1', pw_d, st_e, st_n, vu_e, vu_n, up_e, up_n, if_true, if_false, true_or, or_true, false_or, or_false, eq_self, reduceCtorEq, not_true_eq_false, not_false_eq_true, es (nI 0) (by rw [q]; rfl), nb]
        exact e2
    · rw [q] at ct
      refine ⟨t, ?_, ?_⟩
      · rw [f_X6_stepsBetween_L8.eq_2]
        simp (disch := omega) only [bd_s, bv_s, lt_d, jn_d, om_s, om_n, zl0, zl1, zl2, zl3, zl4, zl5, zl6, zl7, zl8, zl9, zl10, zl11, zl12, zl13, zl16, zl23, zl24, zl26, zl31, zl32, zl35, zl36, zl40, zl42, zl45, zl48, zl57, zl58, zl59, zl60, zl61, zl62, zl63, zl64, zl65, zl78, zl90, zl94, zl97, zl98, zl114, zl122, zl126, zl244, zl290, zl291, zl326, zl335, zl361, zl2527, zl2888, neg1, le_T, le_F, lt_T, lt_F, eq_T, eq_F, m1_ne, m1_ne', m1_lt, m1_le, lt_m1, le_m1, cl_n, ib_T, nI_add, pk_mul, sub_n, add_m1, sub_m1, m1_1, m1_1', pw_d, st_e, st_n, vu_e, vu_n, up_e, up_n, if_true, if_false, true_or, or_true, false_or, or_false, eq_self, reduceCtorEq, not_true_eq_false, not_false_eq_true, ct]
      · rw [f_X10_distance_L18.eq_2]
        simp (disch := omega) only [bd_s, bv_s, lt_d, jn_d, om_s, om_n, zl0, zl1, zl2, zl3, zl4, zl5, zl6, zl7, zl8, zl9, zl10, zl11, zl12, zl13, zl16, zl23, zl24, zl26, zl31, zl32, zl35, zl36, zl40, zl42, zl45, zl48, zl57, zl58, zl59, zl60, zl61, zl62, zl63, zl64, zl65, zl78, zl90, zl94, zl97, zl98, zl114, zl122, zl126, zl244, zl290, zl291, zl326, zl335, zl361, zl2527, zl2888, neg1, le_T, le_F, lt_T, lt_F, eq_T, eq_F, m1_ne, m1_ne', m1_lt, m1_le, lt_m1, le_m1, cl_n, ib_T, nI_add, pk_mul, sub_n, add_m1, sub_m1, m1_1, m1_1', pw_d, st_e, st_n, vu_e, vu_n, up_e, up_n, if_true, if_false, true_or, or_true, false_or, or_false, eq_self, reduceCtorEq, not_true_eq_false, not_false_eq_true, es (nI 1) (by rw [q]; rfl)]
theorem st_distance (I : Inv V) (a d : Int32) : StepR V (f_L_distance V a d) (fun W => f_X10_distance W a d) := by
  obtain ⟨ok, R⟩ := I.1
  have hc := ok_c24 ok
  rcases two_or ok a d with ⟨r, s, hr, hs, rfl, rfl⟩ | h
  · have D := fun (W : Mem) (hW : W 254 = V 254) => dist_both (V := V) (U := U0 W) (a := r) (b := s) ok R (by rw [U0_254, hW]) hr hs 24 0 (pw r) (by omega) (fun q h => by rw [bt_pw (by omega)] at h; rw [of_decide_eq_true h]; exact hr) (by rw [bt_pw (by omega)]; exact decide_eq_true rfl) (fb_ct_pos.mpr ⟨r, by omega, by rw [bt_pw (by omega)]; exact decide_eq_true rfl⟩) FU FU (by decide) (by decide)
    obtain ⟨res, e1, _⟩ := D V rfl
    refine q_T (r := nI res) I ?_ (fun W hW => ex_sc ?_)
    · unfold f_L_distance f_X9_distance f_X6_stepsBetween
      rw [cx_rqR ok R hr, bw_0, cx_rqR ok R hs, bw_0, sx_setOf (by omega), bd_s, show (0 : Int32) = nI 0 from rfl, e1, bd_s, bh_0]; rfl
    · obtain ⟨res', f1, f2⟩ := D W hW
      have : nI res' = nI res := by
        have := f1.symm.trans e1
        exact congrArg Prod.fst (Option.some.inj this)
      rw [this] at f2
      show f_X10_distance W (nI r) (nI s) = _
      unfold f_X10_distance
      rw [mq_asks ok hW hr hs, bd_s, if_neg (by decide)]
      exact f2
  · refine q_F (code := 1) I (by omega) (by omega) ?_ (fun W hW => ex_sc2 (r := m1) ?_)
    · unfold f_L_distance f_X9_distance
      rw [cq_two ok R h, bh_n]; rfl
    · unfold f_X10_distance
      rw [mq_asks_B ok hW h, bd_s, if_pos (by decide)]; rfl
end QD
