/-! PURE, 23: what the reference reads by way of its two rows of numbers -/
def scr (V : Mem) (h k : Arr) : Mem := fun c => if c = 259 then h else if c = 260 then k else V c
theorem scr_254 {V : Mem} {h k : Arr} : scr V h k 254 = V 254 := id rfl
theorem scr_259 {V : Mem} {h k : Arr} : scr V h k 259 = h := id rfl
theorem scr_260 {V : Mem} {h k : Arr} : scr V h k 260 = k := id rfl
theorem scr_n {V : Mem} {h k : Arr} {c : Nat} (h1 : c ≠ 259) (h2 : c ≠ 260) : scr V h k c = V c := by
  unfold scr; rw [if_neg h1, if_neg h2]
theorem scr_scr {V : Mem} {h k h' k' : Arr} : scr (scr V h k) h' k' = scr V h' k' := by
  funext c; unfold scr; by_cases e : c = 259 <;> by_cases e2 : c = 260 <;> simp [e, e2]
theorem scr_id {V : Mem} : scr V (V 259) (V 260) = V := by
  funext c; unfold scr; by_cases e : c = 259
  · rw [if_pos e, e]
  · rw [if_neg e]
    by_cases e2 : c = 260
    · rw [if_pos e2, e2]
    · rw [if_neg e2]
theorem scr_st {V : Mem} {h k : Arr} {j : Nat} {x : Int32} : stv (scr V h k) 259 j x = scr V (upd h j x) k := by
  funext c; by_cases e : c = 259
  · subst e; rw [st_e]; rfl
  · rw [st_n e]; unfold scr; rw [if_neg e, if_neg e]
theorem scr_st2 {V : Mem} {h k : Arr} {j : Nat} {x : Int32} : stv (scr V h k) 260 j x = scr V h (upd k j x) := by
  funext c; by_cases e : c = 260
  · subst e; rw [st_e]; rfl
  · rw [st_n e]; unfold scr; rw [if_neg e, if_neg e]
/-- a read that may write into the two rows -/
def Rd {α : Type} (F : Mem → Option (α × Mem)) (V : Mem) (r : α) : Prop := ∀ h k, ∃ h' k', F (scr V h k) = some (r, scr V h' k')
theorem Rd.of {α : Type} {F : Mem → Option (α × Mem)} {V : Mem} {r : α} (h : ∀ h k, F (scr V h k) = some (r, scr V h k)) : Rd F V r := fun a b => ⟨a, b, h a b⟩
theorem Rd.at {α : Type} {F : Mem → Option (α × Mem)} {V : Mem} {r : α} (q : Rd F V r) : ∃ h k, F V = some (r, scr V h k) := by
  have := q (V 259) (V 260)
  rwa [scr_id] at this
theorem Rd.bd {α β : Type} {F : Mem → Option (α × Mem)} {V : Mem} {r : α} {G : α → Mem → Option (β × Mem)} {z : β} (q : Rd F V r) (q2 : Rd (G r) V z) : Rd (fun W => bd (F W) G) V z := fun h k => by
  obtain ⟨h1, k1, e1⟩ := q h k
  obtain ⟨h2, k2, e2⟩ := q2 h1 k1
  exact ⟨h2, k2, by simp only [e1]; exact e2⟩
theorem Rd.cg {α : Type} {F G : Mem → Option (α × Mem)} {V : Mem} {r : α} (q : Rd G V r) (e : ∀ h k, F (scr V h k) = G (scr V h k)) : Rd F V r := fun h k => by
  rw [e]; exact q h k
theorem Rd.pure {α : Type} {V : Mem} {r : α} : Rd (fun W => some (r, W)) V r := fun h k => ⟨h, k, rfl⟩
theorem lp_rd {α : Type} {V : Mem} {z : α} (K : Nat) (L : Nat → Nat → Mem → Option (α × Mem)) (h0 : ∀ n h k', L (n + 1) K (scr V h k') = some (z, scr V h k')) (h1 : ∀ n k h k', k < K → ∃ h2 k2, L (n + 1) k (scr V h k') = L n (k + 1) (scr V h2 k2)) {n k : Nat} (hk : k ≤ K) (hn : K - k < n) : Rd (L n k) V z :=
  lp_up K (fun n k => Rd (L n k) V z) (fun n => Rd.of (h0 n)) (fun n k hk ih h k' => by
    obtain ⟨h2, k2, e⟩ := h1 n k h k' hk
    obtain ⟨h3, k3, e3⟩ := ih h2 k2
    exact ⟨h3, k3, e.trans e3⟩) n k hk hn
/-- the same where the loop ends in a continuation -/
def Rj {β : Type} (F : Mem → β) (V : Mem) (G : Mem → β) : Prop := ∀ h k, ∃ h' k', F (scr V h k) = G (scr V h' k')
theorem lp_rj {β : Type} {V : Mem} {G : Mem → β} (K : Nat) (L : Nat → Nat → Mem → β) (h0 : ∀ n h k', L (n + 1) K (scr V h k') = G (scr V h k')) (h1 : ∀ n k h k', k < K → ∃ h2 k2, L (n + 1) k (scr V h k') = L n (k + 1) (scr V h2 k2)) {n k : Nat} (hk : k ≤ K) (hn : K - k < n) : Rj (L n k) V G :=
  lp_up K (fun n k => Rj (L n k) V G) (fun n h k' => ⟨h, k', h0 n h k'⟩) (fun n k hk ih h k' => by
    obtain ⟨h2, k2, e⟩ := h1 n k h k' hk
    obtain ⟨h3, k3, e3⟩ := ih h2 k2
    exact ⟨h3, k3, e.trans e3⟩) n k hk hn
section SC
variable {V : Mem}
theorem sm_anc_lp {r : Nat} {jj : Mem → Option (Int32 × Mem)} {kk : Arr} (ok : OKg (V 254)) (hr : r < cnt (V 254)) : ∀ (m k : Nat) (h : Arr), k + m = r + 1 → (∀ i, i < k → h i = Ag (V 254) i) → ∀ n, m < n → ∃ h', f_X10_ancestorsOf_L2 (nI r) jj n (scr V h kk) (nI k) = jj (scr V h' kk) ∧ ∀ i, i ≤ r → h' i = Ag (V 254) i := by
  have hc := ok_c24 ok
  intro m
  induction m with
  | zero =>
    intro k h hk hi n hn
    obtain ⟨n, rfl⟩ : ∃ n', n = n' + 1 := ⟨n - 1, by omega⟩
    refine ⟨h, ?_, fun i hi' => hi i (by omega)⟩
    rw [f_X10_ancestorsOf_L2.eq_2]
    simp (disch := omega) only [bd_s, bv_s, lt_d, jn_d, om_s, om_n, zl0, zl1, zl2, zl3, zl4, zl5, zl6, zl7, zl8, zl9, zl10, zl11, zl12, zl13, zl16, zl23, zl24, zl26, zl31, zl32, zl35, zl36, zl40, zl42, zl45, zl48, zl57, zl58, zl59, zl60, zl61, zl62, zl63, zl64, zl65, zl78, zl90, zl94, zl97, zl98, zl114, zl122, zl126, zl244, zl290, zl291, zl326, zl335, zl361, zl2527, zl2888, neg1, le_T, le_F, lt_T, lt_F, eq_T, eq_F, m1_ne, m1_ne', m1_lt, m1_le, lt_m1, le_m1, cl_n, ib_T, nI_add, pk_mul, sub_n, add_m1, sub_m1, m1_1, m1_1', pw_d, st_e, st_n, vu_e, vu_n, up_e, up_n, if_true, if_false, true_or, or_true, false_or, or_false, eq_self, reduceCtorEq, not_true_eq_false, not_false_eq_true]
  | succ m ih =>
    intro k h hk hi n hn
    obtain ⟨n, rfl⟩ : ∃ n', n = n' + 1 := ⟨n - 1, by omega⟩
    have hk2 : k < cnt (V 254) := by omega
    have key : f_X10_ancestorsOf_L2 (nI r) jj (n + 1) (scr V h kk) (nI k) = f_X10_ancestorsOf_L2 (nI r) jj n (scr V (upd h k (Ag (V 254) k)) kk) (nI (k + 1)) := by
      rw [f_X10_ancestorsOf_L2.eq_2, Ag_eq ok hk2]
      rcases ok_f ok hk2 with ⟨z1, z2⟩ | ⟨z1, z2, z3⟩ <;> rcases ok_s ok hk2 with y | ⟨y1, y2⟩
      · simp (disch := omega) only [bd_s, bv_s, lt_d, jn_d, om_s, om_n, zl0, zl1, zl2, zl3, zl4, zl5, zl6, zl7, zl8, zl9, zl10, zl11, zl12, zl13, zl16, zl23, zl24, zl26, zl31, zl32, zl35, zl36, zl40, zl42, zl45, zl48, zl57, zl58, zl59, zl60, zl61, zl62, zl63, zl64, zl65, zl78, zl90, zl94, zl97, zl98, zl114, zl122, zl126, zl244, zl290, zl291, zl326, zl335, zl361, zl2527, zl2888, neg1, le_T, le_F, lt_T, lt_F, eq_T, eq_F, m1_ne, m1_ne', m1_lt, m1_le, lt_m1, le_m1, cl_n, ib_T, nI_add, pk_mul, sub_n, add_m1, sub_m1, m1_1, m1_1', pw_d, st_e, st_n, vu_e, vu_n, up_e, up_n, if_true, if_false, true_or, or_true, false_or, or_false, eq_self, reduceCtorEq, not_true_eq_false, not_false_eq_true, sm_revAt, scr_254, scr_st, z2, y]
      · omega
      · simp (disch := omega) only [bd_s, bv_s, lt_d, jn_d, om_s, om_n, zl0, zl1, zl2, zl3, zl4, zl5, zl6, zl7, zl8, zl9, zl10, zl11, zl12, zl13, zl16, zl23, zl24, zl26, zl31, zl32, zl35, zl36, zl40, zl42, zl45, zl48, zl57, zl58, zl59, zl60, zl61, zl62, zl63, zl64, zl65, zl78, zl90, zl94, zl97, zl98, zl114, zl122, zl126, zl244, zl290, zl291, zl326, zl335, zl361, zl2527, zl2888, neg1, le_T, le_F, lt_T, lt_F, eq_T, eq_F, m1_ne, m1_ne', m1_lt, m1_le, lt_m1, le_m1, cl_n, ib_T, nI_add, pk_mul, sub_n, add_m1, sub_m1, m1_1, m1_1', pw_d, st_e, st_n, vu_e, vu_n, up_e, up_n, if_true, if_false, true_or, or_true, false_or, or_false, eq_self, reduceCtorEq, not_true_eq_false, not_false_eq_true, sm_revAt, scr_254, scr_st, scr_259, z2, y, hi _ z3]
      · simp (disch := omega) only [bd_s, bv_s, lt_d, jn_d, om_s, om_n, zl0, zl1, zl2, zl3, zl4, zl5, zl6, zl7, zl8, zl9, zl10, zl11, zl12, zl13, zl16, zl23, zl24, zl26, zl31, zl32, zl35, zl36, zl40, zl42, zl45, zl48, zl57, zl58, zl59, zl60, zl61, zl62, zl63, zl64, zl65, zl78, zl90, zl94, zl97, zl98, zl114, zl122, zl126, zl244, zl290, zl291, zl326, zl335, zl361, zl2527, zl2888, neg1, le_T, le_F, lt_T, lt_F, eq_T, eq_F, m1_ne, m1_ne', m1_lt, m1_le, lt_m1, le_m1, cl_n, ib_T, nI_add, pk_mul, sub_n, add_m1, sub_m1, m1_1, m1_1', pw_d, st_e, st_n, vu_e, vu_n, up_e, up_n, if_true, if_false, true_or, or_true, false_or, or_false, eq_self, reduceCtorEq, not_true_eq_false, not_false_eq_true, sm_revAt, scr_254, scr_st, scr_259, z2, y1, hi _ z3, hi _ y2]
    obtain ⟨h', e, q⟩ := ih (k + 1) (upd h k (Ag (V 254) k)) (by omega) (fun i hi2 => by
      by_cases e : i = k
      · subst e; exact up_e
      · rw [up_n e]; exact hi i (by omega)) n (by omega)
    exact ⟨h', key.trans e, q⟩
theorem sm_anc {r : Nat} (ok : OKg (V 254)) (hr : r < cnt (V 254)) : Rd (fun W => f_X10_ancestorsOf W (nI r)) V (Ag (V 254) r) := by
  have hc := ok_c24 ok
  intro h k
  unfold f_X10_ancestorsOf
  obtain ⟨h', e, q⟩ := sm_anc_lp (jj := fun (V79 : Mem) => if ib (nI r) 24 = true then some ((V79 259 (nI r).toNatClampNeg), V79) else none) (kk := k) ok hr (r + 1) 0 h (by omega) (fun i hi => absurd hi (Nat.not_lt_zero _)) FU (by unfold FU; omega)
  refine ⟨h', k, ?_⟩
  show jn _ _ = _
  rw [jn_d]
  refine e.trans ?_
  simp (disch := omega) only [bd_s, bv_s, lt_d, jn_d, om_s, om_n, zl0, zl1, zl2, zl3, zl4, zl5, zl6, zl7, zl8, zl9, zl10, zl11, zl12, zl13, zl16, zl23, zl24, zl26, zl31, zl32, zl35, zl36, zl40, zl42, zl45, zl48, zl57, zl58, zl59, zl60, zl61, zl62, zl63, zl64, zl65, zl78, zl90, zl94, zl97, zl98, zl114, zl122, zl126, zl244, zl290, zl291, zl326, zl335, zl361, zl2527, zl2888, neg1, le_T, le_F, lt_T, lt_F, eq_T, eq_F, m1_ne, m1_ne', m1_lt, m1_le, lt_m1, le_m1, cl_n, ib_T, nI_add, pk_mul, sub_n, add_m1, sub_m1, m1_1, m1_1', pw_d, st_e, st_n, vu_e, vu_n, up_e, up_n, if_true, if_false, true_or, or_true, false_or, or_false, eq_self, reduceCtorEq, not_true_eq_false, not_false_eq_true, scr_259, q r (Nat.le_refl _)]
theorem sm_gen_lp {r : Nat} {jj : Mem → Option (Int32 × Mem)} {hh : Arr} (ok : OKg (V 254)) (hr : r < cnt (V 254)) : ∀ (m k : Nat) (h : Arr), k + m = r + 1 → (∀ i, i < k → h i = Gg (V 254) i) → ∀ n, m < n → ∃ h', f_X10_generationOf_L2 (nI r) jj n (scr V hh h) (nI k) = jj (scr V hh h') ∧ ∀ i, i ≤ r → h' i = Gg (V 254) i := by
  have hc := ok_c24 ok
  intro m
  induction m with
  | zero =>
    intro k h hk hi n hn
    obtain ⟨n, rfl⟩ : ∃ n', n = n' + 1 := ⟨n - 1, by omega⟩
    refine ⟨h, ?_, fun i hi' => hi i (by omega)⟩
    rw [f_X10_generationOf_L2.eq_2]
    simp (disch := omega) only [bd_s, bv_s, lt_d, jn_d, om_s, om_n, zl0, zl1, zl2, zl3, zl4, zl5, zl6, zl7, zl8, zl9, zl10, zl11, zl12, zl13, zl16, zl23, zl24, zl26, zl31, zl32, zl35, zl36, zl40, zl42, zl45, zl48, zl57, zl58, zl59, zl60, zl61, zl62, zl63, zl64, zl65, zl78, zl90, zl94, zl97, zl98, zl114, zl122, zl126, zl244, zl290, zl291, zl326, zl335, zl361, zl2527, zl2888, neg1, le_T, le_F, lt_T, lt_F, eq_T, eq_F, m1_ne, m1_ne', m1_lt, m1_le, lt_m1, le_m1, cl_n, ib_T, nI_add, pk_mul, sub_n, add_m1, sub_m1, m1_1, m1_1', pw_d, st_e, st_n, vu_e, vu_n, up_e, up_n, if_true, if_false, true_or, or_true, false_or, or_false, eq_self, reduceCtorEq, not_true_eq_false, not_false_eq_true]
  | succ m ih =>
    intro k h hk hi n hn
    obtain ⟨n, rfl⟩ : ∃ n', n = n' + 1 := ⟨n - 1, by omega⟩
    have hk2 : k < cnt (V 254) := by omega
    have key : f_X10_generationOf_L2 (nI r) jj (n + 1) (scr V hh h) (nI k) = f_X10_generationOf_L2 (nI r) jj n (scr V hh (upd h k (Gg (V 254) k))) (nI (k + 1)) := by
      rw [f_X10_generationOf_L2.eq_2, Gg_eq ok hk2]
      rcases ok_f ok hk2 with ⟨z1, z2⟩ | ⟨z1, z2, z3⟩ <;> rcases ok_s ok hk2 with y | ⟨y1, y2⟩
      · simp (disch := omega) only [bd_s, bv_s, lt_d, jn_d, om_s, om_n, zl0, zl1, zl2, zl3, zl4, zl5, zl6, zl7, zl8, zl9, zl10, zl11, zl12, zl13, zl16, zl23, zl24, zl26, zl31, zl32, zl35, zl36, zl40, zl42, zl45, zl48, zl57, zl58, zl59, zl60, zl61, zl62, zl63, zl64, zl65, zl78, zl90, zl94, zl97, zl98, zl114, zl122, zl126, zl244, zl290, zl291, zl326, zl335, zl361, zl2527, zl2888, neg1, le_T, le_F, lt_T, lt_F, eq_T, eq_F, m1_ne, m1_ne', m1_lt, m1_le, lt_m1, le_m1, cl_n, ib_T, nI_add, pk_mul, sub_n, add_m1, sub_m1, m1_1, m1_1', pw_d, st_e, st_n, vu_e, vu_n, up_e, up_n, if_true, if_false, true_or, or_true, false_or, or_false, eq_self, reduceCtorEq, not_true_eq_false, not_false_eq_true, sm_revAt, scr_254, scr_st2, z2, y]
      · omega
      · simp (disch := omega) only [bd_s, bv_s, lt_d, jn_d, om_s, om_n, zl0, zl1, zl2, zl3, zl4, zl5, zl6, zl7, zl8, zl9, zl10, zl11, zl12, zl13, zl16, zl23, zl24, zl26, zl31, zl32, zl35, zl36, zl40, zl42, zl45, zl48, zl57, zl58, zl59, zl60, zl61, zl62, zl63, zl64, zl65, zl78, zl90, zl94, zl97, zl98, zl114, zl122, zl126, zl244, zl290, zl291, zl326, zl335, zl361, zl2527, zl2888, neg1, le_T, le_F, lt_T, lt_F, eq_T, eq_F, m1_ne, m1_ne', m1_lt, m1_le, lt_m1, le_m1, cl_n, ib_T, nI_add, pk_mul, sub_n, add_m1, sub_m1, m1_1, m1_1', pw_d, st_e, st_n, vu_e, vu_n, up_e, up_n, if_true, if_false, true_or, or_true, false_or, or_false, eq_self, reduceCtorEq, not_true_eq_false, not_false_eq_true, sm_revAt, scr_254, scr_st2, scr_260, z2, y, hi _ z3]
      · simp (disch := omega) only [bd_s, bv_s, lt_d, jn_d, om_s, om_n, zl0, zl1, zl2, zl3, zl4, zl5, zl6, zl7, zl8, zl9, zl10, zl11, zl12, zl13, zl16, zl23, zl24, zl26, zl31, zl32, zl35, zl36, zl40, zl42, zl45, zl48, zl57, zl58, zl59, zl60, zl61, zl62, zl63, zl64, zl65, zl78, zl90, zl94, zl97, zl98, zl114, zl122, zl126, zl244, zl290, zl291, zl326, zl335, zl361, zl2527, zl2888, neg1, le_T, le_F, lt_T, lt_F, eq_T, eq_F, m1_ne, m1_ne', m1_lt, m1_le, lt_m1, le_m1, cl_n, ib_T, nI_add, pk_mul, sub_n, add_m1, sub_m1, m1_1, m1_1', pw_d, st_e, st_n, vu_e, vu_n, up_e, up_n, if_true, if_false, true_or, or_true, false_or, or_false, eq_self, reduceCtorEq, not_true_eq_false, not_false_eq_true, sm_revAt, scr_254, scr_st2, scr_260, z2, y1, hi _ z3, hi _ y2]
    obtain ⟨h', e, q⟩ := ih (k + 1) (upd h k (Gg (V 254) k)) (by omega) (fun i hi2 => by
      by_cases e : i = k
      · subst e; exact up_e
      · rw [up_n e]; exact hi i (by omega)) n (by omega)
    exact ⟨h', key.trans e, q⟩
theorem sm_gen {r : Nat} (ok : OKg (V 254)) (hr : r < cnt (V 254)) : Rd (fun W => f_X10_generationOf W (nI r)) V (Gg (V 254) r) := by
  have hc := ok_c24 ok
  intro h k
  unfold f_X10_generationOf
  obtain ⟨h', e, q⟩ := sm_gen_lp (jj := fun (V83 : Mem) => if ib (nI r) 24 = true then some ((V83 260 (nI r).toNatClampNeg), V83) else none) (hh := h) ok hr (r + 1) 0 k (by omega) (fun i hi => absurd hi (Nat.not_lt_zero _)) FU (by unfold FU; omega)
  refine ⟨h, h', ?_⟩
  show jn _ _ = _
  rw [jn_d]
  refine e.trans ?_
  simp (disch := omega) only [bd_s, bv_s, lt_d, jn_d, om_s, om_n, zl0, zl1, zl2, zl3, zl4, zl5, zl6, zl7, zl8, zl9, zl10, zl11, zl12, zl13, zl16, zl23, zl24, zl26, zl31, zl32, zl35, zl36, zl40, zl42, zl45, zl48, zl57, zl58, zl59, zl60, zl61, zl62, zl63, zl64, zl65, zl78, zl90, zl94, zl97, zl98, zl114, zl122, zl126, zl244, zl290, zl291, zl326, zl335, zl361, zl2527, zl2888, neg1, le_T, le_F, lt_T, lt_F, eq_T, eq_F, m1_ne, m1_ne', m1_lt, m1_le, lt_m1, le_m1, cl_n, ib_T, nI_add, pk_mul, sub_n, add_m1, sub_m1, m1_1, m1_1', pw_d, st_e, st_n, vu_e, vu_n, up_e, up_n, if_true, if_false, true_or, or_true, false_or, or_false, eq_self, reduceCtorEq, not_true_eq_false, not_false_eq_true, scr_260, q r (Nat.le_refl _)]
theorem sm_com {a b : Nat} (ok : OKg (V 254)) (ha : a < cnt (V 254)) (hb : b < cnt (V 254)) : Rd (fun W => f_X10_common W (nI a) (nI b)) V (nI (com (V 254) a b)) := by
  have hc := ok_c24 ok
  have hc1 := ok_c1 ok
  have e : com (V 254) a b = cmn (Ag (V 254) a &&& Ag (V 254) b) (cnt (V 254)) := by
    refine cmn_st (fun q h1 _ => ?_) 24 hc (Nat.le_refl _)
    rw [b_and]
    cases hq : bt (Ag (V 254) a) q
    · rfl
    · have := anc_le ok ha hq; omega
  unfold f_X10_common
  refine (sm_anc ok ha).bd ((sm_anc ok hb).bd ?_)
  rw [e]
  refine lp_rd (cnt (V 254)) (fun n k W => f_X10_common_L18 (Ag (V 254) a &&& Ag (V 254) b) n W (nI (cmn (Ag (V 254) a &&& Ag (V 254) b) k)) (nI k)) ?_ ?_ (n := FU) (k := 0) (by omega) (by unfold FU; omega)
  · intro n h k'
    show f_X10_common_L18 _ _ _ _ _ = _
    rw [f_X10_common_L18.eq_2]
    simp (disch := omega) only [bd_s, bv_s, lt_d, jn_d, om_s, om_n, zl0, zl1, zl2, zl3, zl4, zl5, zl6, zl7, zl8, zl9, zl10, zl11, zl12, zl13, zl16, zl23, zl24, zl26, zl31, zl32, zl35, zl36, zl40, zl42, zl45, zl48, zl57, zl58, zl59, zl60, zl61, zl62, zl63, zl64, zl65, zl78, zl90, zl94, zl97, zl98, zl114, zl122, zl126, zl244, zl290, zl291, zl326, zl335, zl361, zl2527, zl2888, neg1, le_T, le_F, lt_T, lt_F, eq_T, eq_F, m1_ne, m1_ne', m1_lt, m1_le, lt_m1, le_m1, cl_n, ib_T, nI_add, pk_mul, sub_n, add_m1, sub_m1, m1_1, m1_1', pw_d, st_e, st_n, vu_e, vu_n, up_e, up_n, if_true, if_false, true_or, or_true, false_or, or_false, eq_self, reduceCtorEq, not_true_eq_false, not_false_eq_true, scr_254, ok_cnt ok]
  · intro n k h k' hk
    refine ⟨h, k', ?_⟩
    show f_X10_common_L18 _ _ _ _ _ = _
    rw [f_X10_common_L18.eq_2]
    simp (disch := omega) only [bd_s, bv_s, lt_d, jn_d, om_s, om_n, zl0, zl1, zl2, zl3, zl4, zl5, zl6, zl7, zl8, zl9, zl10, zl11, zl12, zl13, zl16, zl23, zl24, zl26, zl31, zl32, zl35, zl36, zl40, zl42, zl45, zl48, zl57, zl58, zl59, zl60, zl61, zl62, zl63, zl64, zl65, zl78, zl90, zl94, zl97, zl98, zl114, zl122, zl126, zl244, zl290, zl291, zl326, zl335, zl361, zl2527, zl2888, neg1, le_T, le_F, lt_T, lt_F, eq_T, eq_F, m1_ne, m1_ne', m1_lt, m1_le, lt_m1, le_m1, cl_n, ib_T, nI_add, pk_mul, sub_n, add_m1, sub_m1, m1_1, m1_1', pw_d, st_e, st_n, vu_e, vu_n, up_e, up_n, if_true, if_false, true_or, or_true, false_or, or_false, eq_self, reduceCtorEq, not_true_eq_false, not_false_eq_true, scr_254, ok_cnt ok, sh_bt (show k < 32 by omega)]
    rw [cmn]
    cases bt (Ag (V 254) a &&& Ag (V 254) b) k
    · simp (disch := omega) only [bd_s, bv_s, lt_d, jn_d, om_s, om_n, zl0, zl1, zl2, zl3, zl4, zl5, zl6, zl7, zl8, zl9, zl10, zl11, zl12, zl13, zl16, zl23, zl24, zl26, zl31, zl32, zl35, zl36, zl40, zl42, zl45, zl48, zl57, zl58, zl59, zl60, zl61, zl62, zl63, zl64, zl65, zl78, zl90, zl94, zl97, zl98, zl114, zl122, zl126, zl244, zl290, zl291, zl326, zl335, zl361, zl2527, zl2888, neg1, le_T, le_F, lt_T, lt_F, eq_T, eq_F, m1_ne, m1_ne', m1_lt, m1_le, lt_m1, le_m1, cl_n, ib_T, nI_add, pk_mul, sub_n, add_m1, sub_m1, m1_1, m1_1', pw_d, st_e, st_n, vu_e, vu_n, up_e, up_n, if_true, if_false, true_or, or_true, false_or, or_false, eq_self, reduceCtorEq, not_true_eq_false, not_false_eq_true, Bool.false_eq_true] <;> rfl
    · simp (disch := omega) only [bd_s, bv_s, lt_d, jn_d, om_s, om_n, zl0, zl1, zl2, zl3, zl4, zl5, zl6, zl7, zl8, zl9, zl10, zl11, zl12, zl13, zl16, zl23, zl24, zl26, zl31, zl32, zl35, zl36, zl40, zl42, zl45, zl48, zl57, zl58, zl59, zl60, zl61, zl62, zl63, zl64, zl65, zl78, zl90, zl94, zl97, zl98, zl114, zl122, zl126, zl244, zl290, zl291, zl326, zl335, zl361, zl2527, zl2888, neg1, le_T, le_F, lt_T, lt_F, eq_T, eq_F, m1_ne, m1_ne', m1_lt, m1_le, lt_m1, le_m1, cl_n, ib_T, nI_add, pk_mul, sub_n, add_m1, sub_m1, m1_1, m1_1', pw_d, st_e, st_n, vu_e, vu_n, up_e, up_n, if_true, if_false, true_or, or_true, false_or, or_false, eq_self, reduceCtorEq, not_true_eq_false, not_false_eq_true] <;> rfl
theorem sm_merged {b o f : Nat} (ok : OKg (V 254)) (hb : b < bcn (V 254)) (ho : o < bcn (V 254)) (hf : f < 8) : Rd (fun W => f_X10_merged W (nI b) (nI o) (nI f)) V (mgl (V 254) b o f) := by
  have hc := ok_c24 ok
  have h5 := ok_b5 ok
  have h1 := ok_hc ok hb
  have h2 := ok_hc ok ho
  have h3 := com_lt ok h1 h2
  intro h k
  obtain ⟨h', k', e⟩ := sm_com ok h1 h2 h k
  refine ⟨h', k', ?_⟩
  show f_X10_merged _ _ _ _ = _
  unfold f_X10_merged
  have e : f_X10_common (scr V h k) (nI (hd (V 254) b)) (nI (hd (V 254) o)) = some (nI (com (V 254) (hd (V 254) b) (hd (V 254) o)), scr V h' k') := e
  simp (disch := omega) only [bd_s, bv_s, lt_d, jn_d, om_s, om_n, zl0, zl1, zl2, zl3, zl4, zl5, zl6, zl7, zl8, zl9, zl10, zl11, zl12, zl13, zl16, zl23, zl24, zl26, zl31, zl32, zl35, zl36, zl40, zl42, zl45, zl48, zl57, zl58, zl59, zl60, zl61, zl62, zl63, zl64, zl65, zl78, zl90, zl94, zl97, zl98, zl114, zl122, zl126, zl244, zl290, zl291, zl326, zl335, zl361, zl2527, zl2888, neg1, le_T, le_F, lt_T, lt_F, eq_T, eq_F, m1_ne, m1_ne', m1_lt, m1_le, lt_m1, le_m1, cl_n, ib_T, nI_add, pk_mul, sub_n, add_m1, sub_m1, m1_1, m1_1', pw_d, st_e, st_n, vu_e, vu_n, up_e, up_n, if_true, if_false, true_or, or_true, false_or, or_false, eq_self, reduceCtorEq, not_true_eq_false, not_false_eq_true, sm_headOf (V := scr V h k) (show b < 5 by omega), sm_headOf (V := scr V h k) (show o < 5 by omega), scr_254, ok_hd ok hb, ok_hd ok ho, sm_letter (V := scr V h k) (show hd (V 254) b < 24 by omega) hf, sm_letter (V := scr V h k) (show hd (V 254) o < 24 by omega) hf, e, sm_letter (V := scr V h' k') (show com (V 254) (hd (V 254) b) (hd (V 254) o) < 24 by omega) hf]
  unfold mgl
  split
  · rfl
  · split
    · rfl
    · split
      · rfl
      · rfl
theorem sm_conf {b o : Nat} (ok : OKg (V 254)) (hb : b < bcn (V 254)) (ho : o < bcn (V 254)) : Rd (fun W => f_X10_conflicts W (nI b) (nI o)) V (nI (fb_ct (cfl (V 254) b o) 8)) := by
  unfold f_X10_conflicts
  refine lp_rd 8 (fun n k W => f_X10_conflicts_L5 (nI b) (nI o) n W (nI (fb_ct (cfl (V 254) b o) k)) (nI k)) ?_ ?_ (n := FU) (k := 0) (by omega) (by unfold FU; omega)
  · intro n h k'
    show f_X10_conflicts_L5 _ _ _ _ _ _ = _
    rw [f_X10_conflicts_L5.eq_2]
    simp (disch := omega) only [bd_s, bv_s, lt_d, jn_d, om_s, om_n, zl0, zl1, zl2, zl3, zl4, zl5, zl6, zl7, zl8, zl9, zl10, zl11, zl12, zl13, zl16, zl23, zl24, zl26, zl31, zl32, zl35, zl36, zl40, zl42, zl45, zl48, zl57, zl58, zl59, zl60, zl61, zl62, zl63, zl64, zl65, zl78, zl90, zl94, zl97, zl98, zl114, zl122, zl126, zl244, zl290, zl291, zl326, zl335, zl361, zl2527, zl2888, neg1, le_T, le_F, lt_T, lt_F, eq_T, eq_F, m1_ne, m1_ne', m1_lt, m1_le, lt_m1, le_m1, cl_n, ib_T, nI_add, pk_mul, sub_n, add_m1, sub_m1, m1_1, m1_1', pw_d, st_e, st_n, vu_e, vu_n, up_e, up_n, if_true, if_false, true_or, or_true, false_or, or_false, eq_self, reduceCtorEq, not_true_eq_false, not_false_eq_true]
  · intro n k h k' hk
    obtain ⟨h2, k2, e⟩ := sm_merged ok hb ho hk h k'
    refine ⟨h2, k2, ?_⟩
    show f_X10_conflicts_L5 _ _ _ _ _ _ = _
    rw [f_X10_conflicts_L5.eq_2]
    have e : f_X10_merged (scr V h k') (nI b) (nI o) (nI k) = some (mgl (V 254) b o k, scr V h2 k2) := e
    simp (disch := omega) only [bd_s, bv_s, lt_d, jn_d, om_s, om_n, zl0, zl1, zl2, zl3, zl4, zl5, zl6, zl7, zl8, zl9, zl10, zl11, zl12, zl13, zl16, zl23, zl24, zl26, zl31, zl32, zl35, zl36, zl40, zl42, zl45, zl48, zl57, zl58, zl59, zl60, zl61, zl62, zl63, zl64, zl65, zl78, zl90, zl94, zl97, zl98, zl114, zl122, zl126, zl244, zl290, zl291, zl326, zl335, zl361, zl2527, zl2888, neg1, le_T, le_F, lt_T, lt_F, eq_T, eq_F, m1_ne, m1_ne', m1_lt, m1_le, lt_m1, le_m1, cl_n, ib_T, nI_add, pk_mul, sub_n, add_m1, sub_m1, m1_1, m1_1', pw_d, st_e, st_n, vu_e, vu_n, up_e, up_n, if_true, if_false, true_or, or_true, false_or, or_false, eq_self, reduceCtorEq, not_true_eq_false, not_false_eq_true, e]
    rw [← ct_if]
    unfold cfl
    by_cases q : mgl (V 254) b o k = nI 0
    · simp (disch := omega) only [bd_s, bv_s, lt_d, jn_d, om_s, om_n, zl0, zl1, zl2, zl3, zl4, zl5, zl6, zl7, zl8, zl9, zl10, zl11, zl12, zl13, zl16, zl23, zl24, zl26, zl31, zl32, zl35, zl36, zl40, zl42, zl45, zl48, zl57, zl58, zl59, zl60, zl61, zl62, zl63, zl64, zl65, zl78, zl90, zl94, zl97, zl98, zl114, zl122, zl126, zl244, zl290, zl291, zl326, zl335, zl361, zl2527, zl2888, neg1, le_T, le_F, lt_T, lt_F, eq_T, eq_F, m1_ne, m1_ne', m1_lt, m1_le, lt_m1, le_m1, cl_n, ib_T, nI_add, pk_mul, sub_n, add_m1, sub_m1, m1_1, m1_1', pw_d, st_e, st_n, vu_e, vu_n, up_e, up_n, if_true, if_false, true_or, or_true, false_or, or_false, eq_self, reduceCtorEq, not_true_eq_false, not_false_eq_true, q, decide_true] <;> rfl
    · simp (disch := omega) only [bd_s, bv_s, lt_d, jn_d, om_s, om_n, zl0, zl1, zl2, zl3, zl4, zl5, zl6, zl7, zl8, zl9, zl10, zl11, zl12, zl13, zl16, zl23, zl24, zl26, zl31, zl32, zl35, zl36, zl40, zl42, zl45, zl48, zl57, zl58, zl59, zl60, zl61, zl62, zl63, zl64, zl65, zl78, zl90, zl94, zl97, zl98, zl114, zl122, zl126, zl244, zl290, zl291, zl326, zl335, zl361, zl2527, zl2888, neg1, le_T, le_F, lt_T, lt_F, eq_T, eq_F, m1_ne, m1_ne', m1_lt, m1_le, lt_m1, le_m1, cl_n, ib_T, nI_add, pk_mul, sub_n, add_m1, sub_m1, m1_1, m1_1', pw_d, st_e, st_n, vu_e, vu_n, up_e, up_n, if_true, if_false, true_or, or_true, false_or, or_false, eq_self, reduceCtorEq, not_true_eq_false, not_false_eq_true, q, decide_false, Bool.false_eq_true] <;> rfl
end SC
