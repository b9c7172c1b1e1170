/-! PURE, 25: what changes do to g and to a store; what they keep -/
theorem st_v2 {V : Mem} {c j : Nat} {f : Nat → Int32} {x : Int32} : stv (va_up V c f) c j x = va_up V c (upd f j x) := by
  rw [st_vu, vu_e, vu_vu]
theorem st_s2 {V : Mem} {c i j : Nat} {x y : Int32} : stv (stv V c i x) c j y = va_up V c (upd (upd (V c) i x) j y) := by
  rw [st_vu (V := V), st_v2]
/-! raw reads and writes of the class -/
section RAW
variable {V : Mem}
theorem rx_le {r f : Nat} (hr : r < 24) (hf : f < 8) : f_X6_letterOf V (nI r) (nI f) = some (V 13 (r * 8 + f), V) := by
  unfold f_X6_letterOf
  simp (disch := omega) only [bd_s, bv_s, lt_d, jn_d, om_s, om_n, zl0, zl1, zl2, zl3, zl4, zl5, zl6, zl7, zl8, zl9, zl10, zl11, zl12, zl13, zl16, zl23, zl24, zl26, zl31, zl32, zl35, zl36, zl40, zl42, zl45, zl48, zl57, zl58, zl59, zl60, zl61, zl62, zl63, zl64, zl65, zl78, zl90, zl94, zl97, zl98, zl114, zl122, zl126, zl244, zl290, zl291, zl326, zl335, zl361, zl2527, zl2888, neg1, le_T, le_F, lt_T, lt_F, eq_T, eq_F, m1_ne, m1_ne', m1_lt, m1_le, lt_m1, le_m1, cl_n, ib_T, nI_add, pk_mul, sub_n, add_m1, sub_m1, m1_1, m1_1', pw_d, st_e, st_n, vu_e, vu_n, up_e, up_n, if_true, if_false, true_or, or_true, false_or, or_false, eq_self, reduceCtorEq, not_true_eq_false, not_false_eq_true, sx_get (V := V) (i := 12) (show r * 8 + f < 192 by omega) (by omega)]
theorem rx_pl {r f : Nat} {x : Int32} (hr : r < 24) (hf : f < 8) : f_X6_putLetter V (nI r) (nI f) x = some (stv V 13 (r * 8 + f) x) := by
  unfold f_X6_putLetter
  simp (disch := omega) only [bd_s, bv_s, lt_d, jn_d, om_s, om_n, zl0, zl1, zl2, zl3, zl4, zl5, zl6, zl7, zl8, zl9, zl10, zl11, zl12, zl13, zl16, zl23, zl24, zl26, zl31, zl32, zl35, zl36, zl40, zl42, zl45, zl48, zl57, zl58, zl59, zl60, zl61, zl62, zl63, zl64, zl65, zl78, zl90, zl94, zl97, zl98, zl114, zl122, zl126, zl244, zl290, zl291, zl326, zl335, zl361, zl2527, zl2888, neg1, le_T, le_F, lt_T, lt_F, eq_T, eq_F, m1_ne, m1_ne', m1_lt, m1_le, lt_m1, le_m1, cl_n, ib_T, nI_add, pk_mul, sub_n, add_m1, sub_m1, m1_1, m1_1', pw_d, st_e, st_n, vu_e, vu_n, up_e, up_n, if_true, if_false, true_or, or_true, false_or, or_false, eq_self, reduceCtorEq, not_true_eq_false, not_false_eq_true, sx_set (V := V) (i := 12) (x := x) (show r * 8 + f < 192 by omega) (by omega), bv_s]
theorem rx_wk {b f : Nat} (hb : b < 5) (hf : f < 8) : f_X8_workingLetter V (nI b) (nI f) = some (V 17 (b * 8 + f), V) := by
  unfold f_X8_workingLetter
  simp (disch := omega) only [bd_s, bv_s, lt_d, jn_d, om_s, om_n, zl0, zl1, zl2, zl3, zl4, zl5, zl6, zl7, zl8, zl9, zl10, zl11, zl12, zl13, zl16, zl23, zl24, zl26, zl31, zl32, zl35, zl36, zl40, zl42, zl45, zl48, zl57, zl58, zl59, zl60, zl61, zl62, zl63, zl64, zl65, zl78, zl90, zl94, zl97, zl98, zl114, zl122, zl126, zl244, zl290, zl291, zl326, zl335, zl361, zl2527, zl2888, neg1, le_T, le_F, lt_T, lt_F, eq_T, eq_F, m1_ne, m1_ne', m1_lt, m1_le, lt_m1, le_m1, cl_n, ib_T, nI_add, pk_mul, sub_n, add_m1, sub_m1, m1_1, m1_1', pw_d, st_e, st_n, vu_e, vu_n, up_e, up_n, if_true, if_false, true_or, or_true, false_or, or_false, eq_self, reduceCtorEq, not_true_eq_false, not_false_eq_true, sx_get (V := V) (i := 16) (show b * 8 + f < 40 by omega) (by omega)]
theorem rx_pw {b f : Nat} {x : Int32} (hb : b < 5) (hf : f < 8) : f_X8_putWorking V (nI b) (nI f) x = some (stv V 17 (b * 8 + f) x) := by
  unfold f_X8_putWorking
  simp (disch := omega) only [bd_s, bv_s, lt_d, jn_d, om_s, om_n, zl0, zl1, zl2, zl3, zl4, zl5, zl6, zl7, zl8, zl9, zl10, zl11, zl12, zl13, zl16, zl23, zl24, zl26, zl31, zl32, zl35, zl36, zl40, zl42, zl45, zl48, zl57, zl58, zl59, zl60, zl61, zl62, zl63, zl64, zl65, zl78, zl90, zl94, zl97, zl98, zl114, zl122, zl126, zl244, zl290, zl291, zl326, zl335, zl361, zl2527, zl2888, neg1, le_T, le_F, lt_T, lt_F, eq_T, eq_F, m1_ne, m1_ne', m1_lt, m1_le, lt_m1, le_m1, cl_n, ib_T, nI_add, pk_mul, sub_n, add_m1, sub_m1, m1_1, m1_1', pw_d, st_e, st_n, vu_e, vu_n, up_e, up_n, if_true, if_false, true_or, or_true, false_or, or_false, eq_self, reduceCtorEq, not_true_eq_false, not_false_eq_true, sx_set (V := V) (i := 16) (x := x) (show b * 8 + f < 40 by omega) (by omega), bv_s]
theorem rx_hd {b : Nat} (hb : b < 5) : f_X8_headOf V (nI b) = some (V 15 b, V) := by
  unfold f_X8_headOf
  rw [sx_get hb (by omega), bd_s]
theorem rx_gn {r : Nat} (hr : r < 24) : f_X6_generationOf V (nI r) = some (V 9 r, V) := by
  unfold f_X6_generationOf
  rw [sx_get hr (by omega), bd_s]
theorem rx_as {r : Nat} (hr : r < 24) : f_X6_ancestorSetOf V (nI r) = some (V 11 r, V) := by
  unfold f_X6_ancestorSetOf
  simp (disch := omega) only [bd_s, bv_s, lt_d, jn_d, om_s, om_n, zl0, zl1, zl2, zl3, zl4, zl5, zl6, zl7, zl8, zl9, zl10, zl11, zl12, zl13, zl16, zl23, zl24, zl26, zl31, zl32, zl35, zl36, zl40, zl42, zl45, zl48, zl57, zl58, zl59, zl60, zl61, zl62, zl63, zl64, zl65, zl78, zl90, zl94, zl97, zl98, zl114, zl122, zl126, zl244, zl290, zl291, zl326, zl335, zl361, zl2527, zl2888, neg1, le_T, le_F, lt_T, lt_F, eq_T, eq_F, m1_ne, m1_ne', m1_lt, m1_le, lt_m1, le_m1, cl_n, ib_T, nI_add, pk_mul, sub_n, add_m1, sub_m1, m1_1, m1_1', pw_d, st_e, st_n, vu_e, vu_n, up_e, up_n, if_true, if_false, true_or, or_true, false_or, or_false, eq_self, reduceCtorEq, not_true_eq_false, not_false_eq_true, sx_get (V := V) (i := 10) hr (by omega)]
theorem rx_co {b r : Nat} (hb : b < 5) (hr : r < 24) : f_X8_checkOut V (nI b) (nI r) = some (va_up (stv V 15 b (nI r)) 17 (fb_put (V 17) (fun f => V 13 (r * 8 + f)) (b * 8) 8)) := by
  unfold f_X8_checkOut
  rw [sx_set hb (by omega), bv_s]
  have e0 : stv V (14 + 1) b (nI r) = va_up (stv V 15 b (nI r)) 17 (fb_put (V 17) (fun f => V 13 (r * 8 + f)) (b * 8) 0) := by
    rw [fb_put_0, vu_id' (st_n (by omega)).symm]
  refine (congrArg (fun W => f_X8_checkOut_L11 (nI b) (nI r) FU W 0) e0).trans ?_
  refine lp_run 8 (fun n k => f_X8_checkOut_L11 (nI b) (nI r) n (va_up (stv V 15 b (nI r)) 17 (fb_put (V 17) (fun f => V 13 (r * 8 + f)) (b * 8) k)) (nI k)) _ ?_ ?_ (n := FU) (k := 0) (by omega) (by decide)
  · intro n
    rw [f_X8_checkOut_L11.eq_2]
    simp (disch := omega) only [bd_s, bv_s, lt_d, jn_d, om_s, om_n, zl0, zl1, zl2, zl3, zl4, zl5, zl6, zl7, zl8, zl9, zl10, zl11, zl12, zl13, zl16, zl23, zl24, zl26, zl31, zl32, zl35, zl36, zl40, zl42, zl45, zl48, zl57, zl58, zl59, zl60, zl61, zl62, zl63, zl64, zl65, zl78, zl90, zl94, zl97, zl98, zl114, zl122, zl126, zl244, zl290, zl291, zl326, zl335, zl361, zl2527, zl2888, neg1, le_T, le_F, lt_T, lt_F, eq_T, eq_F, m1_ne, m1_ne', m1_lt, m1_le, lt_m1, le_m1, cl_n, ib_T, nI_add, pk_mul, sub_n, add_m1, sub_m1, m1_1, m1_1', pw_d, st_e, st_n, vu_e, vu_n, up_e, up_n, if_true, if_false, true_or, or_true, false_or, or_false, eq_self, reduceCtorEq, not_true_eq_false, not_false_eq_true]
  · intro n k hk
    rw [f_X8_checkOut_L11.eq_2]
    simp (disch := omega) only [bd_s, bv_s, lt_d, jn_d, om_s, om_n, zl0, zl1, zl2, zl3, zl4, zl5, zl6, zl7, zl8, zl9, zl10, zl11, zl12, zl13, zl16, zl23, zl24, zl26, zl31, zl32, zl35, zl36, zl40, zl42, zl45, zl48, zl57, zl58, zl59, zl60, zl61, zl62, zl63, zl64, zl65, zl78, zl90, zl94, zl97, zl98, zl114, zl122, zl126, zl244, zl290, zl291, zl326, zl335, zl361, zl2527, zl2888, neg1, le_T, le_F, lt_T, lt_F, eq_T, eq_F, m1_ne, m1_ne', m1_lt, m1_le, lt_m1, le_m1, cl_n, ib_T, nI_add, pk_mul, sub_n, add_m1, sub_m1, m1_1, m1_1', pw_d, st_e, st_n, vu_e, vu_n, up_e, up_n, if_true, if_false, true_or, or_true, false_or, or_false, eq_self, reduceCtorEq, not_true_eq_false, not_false_eq_true, rx_le (V := va_up (stv V 15 b (nI r)) 17 (fb_put (V 17) (fun f => V 13 (r * 8 + f)) (b * 8) k)) hr hk, rx_pw (V := va_up (stv V 15 b (nI r)) 17 (fb_put (V 17) (fun f => V 13 (r * 8 + f)) (b * 8) k)) hb hk, bv_s, st_v2]
    rw [← fb_put_succ]
end RAW
/-! the branches' part changed -/
theorem arc_cong {g g' : Arr} {q N : Nat} (hq : q < N) (e : ∀ j, 2 ≤ j → j < 2 + 12 * N → g' j = g j) : arc g' q ↔ arc g q := by
  unfold arc
  rw [e (2 + 12 * q + 3) (by omega) (by omega)]
theorem RevOk_cong {g g' : Arr} {r N : Nat} (hr : r < N) (e : ∀ j, 2 ≤ j → j < 2 + 12 * N → g' j = g j) (h : RevOk g r) : RevOk g' r := by
  have a : ∀ q, q < N → (arc g' q ↔ arc g q) := fun q hq => arc_cong hq e
  have e0 := e (2 + 12 * r) (by omega) (by omega)
  have e1 := e (2 + 12 * r + 1) (by omega) (by omega)
  have e2 := e (2 + 12 * r + 2) (by omega) (by omega)
  have e3 := e (2 + 12 * r + 3) (by omega) (by omega)
  have q1 : p1 g' r = p1 g r := by unfold p1; rw [e0]
  have q2 : p2 g' r = p2 g r := by unfold p2; rw [e1]
  have q3 : aut g' r = aut g r := by unfold aut; rw [e2]
  obtain ⟨h1, h2, h3, h4, h5⟩ := h
  refine ⟨?_, ?_, ?_, ?_, ?_⟩
  · rw [e0, e1, q1]
    rcases h1 with ⟨z, z1, z2⟩ | ⟨z, z1, z2, z3⟩
    · exact .inl ⟨z, z1, z2⟩
    · exact .inr ⟨z, z1, z2, fun y => (a r hr).mpr (z3 ((a _ (by omega)).mp y))⟩
  · rw [e1, q2]
    rcases h2 with z | ⟨z1, z2, z3⟩
    · exact .inl z
    · exact .inr ⟨z1, z2, fun y => (a r hr).mpr (z3 ((a _ (by omega)).mp y))⟩
  · rw [e2, q3]; exact h3
  · rw [e3]; exact h4
  · intro f hf
    rw [e (2 + 12 * r + 4 + f) (by omega) (by omega)]
    exact h5 f hf
theorem Aq_cong {g g' : Arr} : ∀ {k : Nat}, (∀ i, i < k → g' (2 + 12 * i) = g (2 + 12 * i) ∧ g' (2 + 12 * i + 1) = g (2 + 12 * i + 1)) → Aq g' k = Aq g k
  | 0, _ => rfl
  | k + 1, h => by
    have hk := h k (by omega)
    have q1 : p1 g' k = p1 g k := by unfold p1; rw [hk.1]
    have q2 : p2 g' k = p2 g k := by unfold p2; rw [hk.2]
    rw [Aq, Aq, Aq_cong (fun i hi => h i (by omega)), hk.1, hk.2, q1, q2]
theorem Gq_cong {g g' : Arr} : ∀ {k : Nat}, (∀ i, i < k → g' (2 + 12 * i) = g (2 + 12 * i) ∧ g' (2 + 12 * i + 1) = g (2 + 12 * i + 1)) → Gq g' k = Gq g k
  | 0, _ => rfl
  | k + 1, h => by
    have hk := h k (by omega)
    have q1 : p1 g' k = p1 g k := by unfold p1; rw [hk.1]
    have q2 : p2 g' k = p2 g k := by unfold p2; rw [hk.2]
    rw [Gq, Gq, Gq_cong (fun i hi => h i (by omega)), hk.1, hk.2, q1, q2]
theorem Ag_cong {g g' : Arr} {r : Nat} (h : ∀ i, i < r + 1 → g' (2 + 12 * i) = g (2 + 12 * i) ∧ g' (2 + 12 * i + 1) = g (2 + 12 * i + 1)) : Ag g' r = Ag g r := by
  unfold Ag; rw [Aq_cong h]
theorem Gg_cong {g g' : Arr} {r : Nat} (h : ∀ i, i < r + 1 → g' (2 + 12 * i) = g (2 + 12 * i) ∧ g' (2 + 12 * i + 1) = g (2 + 12 * i + 1)) : Gg g' r = Gg g r := by
  unfold Gg; rw [Gq_cong h]
theorem RRev_cong {W W' : Nat → Arr} {g g' : Arr} {r N : Nat} (hr : r < N) (e : ∀ j, 2 ≤ j → j < 2 + 12 * N → g' j = g j) (hw : ∀ c, 1 ≤ c → c ≤ 13 → W' c = W c) (h : RRev W g r) : RRev W' g' r := by
  obtain ⟨⟨a1, a2, a3⟩, ⟨b1, b2⟩, c1, d1⟩ := h
  have E : ∀ i, i < r + 1 → g' (2 + 12 * i) = g (2 + 12 * i) ∧ g' (2 + 12 * i + 1) = g (2 + 12 * i + 1) := fun i hi => ⟨e _ (by omega) (by omega), e _ (by omega) (by omega)⟩
  refine ⟨⟨?_, ?_, ?_⟩, ⟨?_, ?_⟩, ?_, ?_⟩
  · rw [hw 3 (by omega) (by omega), e _ (by omega) (by omega)]; exact a1
  · rw [hw 5 (by omega) (by omega), e _ (by omega) (by omega)]; exact a2
  · rw [hw 7 (by omega) (by omega), e _ (by omega) (by omega)]; exact a3
  · rw [hw 9 (by omega) (by omega), Gg_cong E]; exact b1
  · rw [hw 11 (by omega) (by omega), Ag_cong E]; exact b2
  · rw [hw 1 (by omega) (by omega), arc_cong hr e]; exact c1
  · intro f hf
    rw [hw 13 (by omega) (by omega), e _ (by omega) (by omega)]; exact d1 f hf
