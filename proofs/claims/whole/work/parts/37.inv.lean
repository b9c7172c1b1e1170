/-! PURE, 37: what holds between two calls; a call that changes -/
def TxB (V : Mem) (t n M : Nat) : Prop := n ≤ M ∧ ∃ cap : Nat, (cap = 16 ∨ cap = 34 ∨ cap = 70) ∧ n ≤ cap ∧ V (t + 1) 0 = nI cap ∧ ∀ j, j < cap → ∃ c : Nat, c < 128 ∧ V (t + 1) (j + 1) = nI c
def LineI (V : Mem) : Prop := ∃ n : Nat, V 253 6 = nI n ∧ V 251 1 = nI n ∧ TxB V 251 n 40 ∧ ∀ j, j < n → V 252 (j + 1) = V 261 j
def InpI (V : Mem) : Prop := ∃ n : Nat, V 253 5 = nI n ∧ V 249 1 = nI n ∧ TxB V 249 n 60 ∧ ∀ j, j < n → V 250 (j + 1) = V 258 j
def ConsI (V : Mem) : Prop := (∀ j, j < 78 → V 262 j = V0let j) ∧ ∀ j, j < 14 → V 263 j = V0beg j
def ErrI (V : Mem) : Prop := V 253 2 = V 248 1 ∧ V 253 3 = V 248 2
def SavI (V : Mem) : Prop := (V 248 0 = nI 0 ∧ V 253 0 = nI 0) ∨ (V 248 0 = nI 1 ∧ V 253 0 = nI 1 ∧ OKg (V 256) ∧ RelS (fun j => V (20 * 1 + j)) (V 256))
def slt (V : Mem) : Nat → Nat → Arr := fun k j => if j < 20 then V (20 * (k + 2) + j) else fun _ => nI 0
theorem slt_lo {V : Mem} {k j : Nat} (h : j < 20) : slt V k j = V (20 * (k + 2) + j) := if_pos h
def HisI (V : Mem) : Prop := ∃ c s : Nat, V 220 0 = nI s ∧ V 220 1 = nI c ∧ V 253 1 = nI c ∧ HX c s (slt V) (V 257)
def Inv (V : Mem) : Prop := (OKg (V 254) ∧ RelS V (V 254)) ∧ HisI V ∧ SavI V ∧ ErrI V ∧ LineI V ∧ InpI V ∧ ConsI V
/-- what a read may change -/
def Sam (V V' : Mem) : Prop := (∀ c, c < 253 → V' c = V c) ∧ (∀ j, j ≠ 4 → j < 7 → V' 253 j = V 253 j) ∧ ∀ c, 254 ≤ c → c ≤ 263 → c ≠ 255 → c ≠ 259 → c ≠ 260 → V' c = V c
theorem Sam.rf {V : Mem} : Sam V V := ⟨fun _ _ => rfl, fun _ _ _ => rfl, fun _ _ _ _ _ _ => rfl⟩
theorem Sam.tr {V V1 V2 : Mem} (h : Sam V V1) (h2 : Sam V1 V2) : Sam V V2 := ⟨fun c hc => (h2.1 c hc).trans (h.1 c hc), fun j h3 h4 => (h2.2.1 j h3 h4).trans (h.2.1 j h3 h4), fun c a b d e f => (h2.2.2 c a b d e f).trans (h.2.2 c a b d e f)⟩
theorem Rel_lo {V V' : Nat → Arr} {g : Arr} (h : ∀ c, c < 20 → V' c = V c) (R : RelS V g) : RelS V' g := by
  obtain ⟨⟨r1, r2⟩, r3, r4, r5, r6⟩ := R
  refine ⟨⟨by rw [h 1 (by omega)]; exact r1, by rw [h 0 (by omega)]; exact r2⟩, fun r hr => ?_, fun r hr => by rw [h 1 (by omega)]; exact r4 r hr, fun b hb => ?_, fun t ht => by rw [h 19 (by omega)]; exact r6 t ht⟩
  · obtain ⟨⟨a1, a2, a3⟩, ⟨b1, b2⟩, c1, d1⟩ := r3 r hr
    exact ⟨⟨by rw [h 3 (by omega)]; exact a1, by rw [h 5 (by omega)]; exact a2, by rw [h 7 (by omega)]; exact a3⟩, ⟨by rw [h 9 (by omega)]; exact b1, by rw [h 11 (by omega)]; exact b2⟩, by rw [h 1 (by omega)]; exact c1, fun f hf => by rw [h 13 (by omega)]; exact d1 f hf⟩
  · exact ⟨by rw [h 15 (by omega)]; exact (r5 b hb).1, fun f hf => by rw [h 17 (by omega)]; exact (r5 b hb).2 f hf⟩
theorem HisI.of {V V' : Mem} (h : HisI V) (h1 : V' 220 = V 220) (h2 : V' 253 1 = V 253 1) (h3 : V' 257 = V 257) (h4 : ∀ c, 40 ≤ c → c < 220 → V' c = V c) : HisI V' := by
  obtain ⟨c, s, a1, a2, a3, a4⟩ := h
  refine ⟨c, s, by rw [h1]; exact a1, by rw [h1]; exact a2, by rw [h2]; exact a3, ?_⟩
  rw [h3]
  obtain ⟨b1, b2, b3⟩ := a4
  refine ⟨b1, b2, fun i hi => ⟨(b3 i hi).1, Rel_lo (fun c hc => ?_) (b3 i hi).2⟩⟩
  rw [slt_lo hc, slt_lo hc]
  exact h4 _ (by omega) (by omega)
theorem SavI.of {V V' : Mem} (h : SavI V) (h1 : V' 248 0 = V 248 0) (h2 : V' 253 0 = V 253 0) (h3 : V' 256 = V 256) (h4 : ∀ c, 20 ≤ c → c < 40 → V' c = V c) : SavI V' := by
  rcases h with ⟨a, b⟩ | ⟨a, b, c, d⟩
  · exact .inl ⟨by rw [h1]; exact a, by rw [h2]; exact b⟩
  · exact .inr ⟨by rw [h1]; exact a, by rw [h2]; exact b, by rw [h3]; exact c, by rw [h3]; exact Rel_lo (fun c hc => h4 _ (by omega) (by omega)) d⟩
theorem LineI.of {V V' : Mem} (h : LineI V) (h1 : V' 253 6 = V 253 6) (h2 : V' 251 = V 251) (h3 : V' 252 = V 252) (h4 : V' 261 = V 261) : LineI V' := by
  obtain ⟨n, a, b, ⟨c, cap, d1, d2, d3, d4⟩, e⟩ := h
  exact ⟨n, by rw [h1]; exact a, by rw [h2]; exact b, ⟨c, cap, d1, d2, by rw [h3]; exact d3, by rw [h3]; exact d4⟩, by rw [h3, h4]; exact e⟩
theorem InpI.of {V V' : Mem} (h : InpI V) (h1 : V' 253 5 = V 253 5) (h2 : V' 249 = V 249) (h3 : V' 250 = V 250) (h4 : V' 258 = V 258) : InpI V' := by
  obtain ⟨n, a, b, ⟨c, cap, d1, d2, d3, d4⟩, e⟩ := h
  exact ⟨n, by rw [h1]; exact a, by rw [h2]; exact b, ⟨c, cap, d1, d2, by rw [h3]; exact d3, by rw [h3]; exact d4⟩, by rw [h3, h4]; exact e⟩
theorem ConsI.of {V V' : Mem} (h : ConsI V) (h1 : V' 262 = V 262) (h2 : V' 263 = V 263) : ConsI V' := by
  unfold ConsI; rw [h1, h2]; exact h
theorem ErrI.of {V V' : Mem} (h : ErrI V) (h1 : V' 248 = V 248) (h2 : V' 253 2 = V 253 2) (h3 : V' 253 3 = V 253 3) : ErrI V' := by
  unfold ErrI; rw [h1, h2, h3]; exact h
theorem Inv.sam {V V' : Mem} (h : Inv V) (s : Sam V V') : Inv V' := by
  obtain ⟨⟨a1, a2⟩, b, c, d, e, f, g⟩ := h
  obtain ⟨s1, s2, s3⟩ := s
  have e254 := s3 254 (by omega) (by omega) (by omega) (by omega) (by omega)
  refine ⟨⟨by rw [e254]; exact a1, by rw [e254]; exact Rel_lo (fun c hc => s1 c (by omega)) a2⟩, b.of (s1 220 (by omega)) (s2 1 (by omega) (by omega)) (s3 257 (by omega) (by omega) (by omega) (by omega) (by omega)) (fun c _ h => s1 c (by omega)), c.of (by rw [s1 248 (by omega)]) (s2 0 (by omega) (by omega)) (s3 256 (by omega) (by omega) (by omega) (by omega) (by omega)) (fun c _ h => s1 c (by omega)), d.of (s1 248 (by omega)) (s2 2 (by omega) (by omega)) (s2 3 (by omega) (by omega)), e.of (s2 6 (by omega) (by omega)) (s1 251 (by omega)) (s1 252 (by omega)) (s3 261 (by omega) (by omega) (by omega) (by omega) (by omega)), f.of (s2 5 (by omega) (by omega)) (s1 249 (by omega)) (s1 250 (by omega)) (s3 258 (by omega) (by omega) (by omega) (by omega) (by omega)), g.of (s3 262 (by omega) (by omega) (by omega) (by omega) (by omega)) (s3 263 (by omega) (by omega) (by omega) (by omega) (by omega))⟩
/-- a call, both sides -/
def StepR (V : Mem) (cl : Option (Int32 × Mem)) (md : Mem → Option (Int32 × Mem)) : Prop := ∃ k V3 b V4, cl = some (k, V3) ∧ md V3 = some (b, V4) ∧ V4 253 4 = k ∧ (k = nI 0 → V4 265 0 = b) ∧ Inv V4
section RM
variable {V : Mem}
theorem spare_n {s : Nat} (hs : s ≤ 8) : (if (8 : Int32) ≤ nI s then (0 : Int32) else nI s + 1) = nI ((s + 1) % 9) := by
  rcases Nat.lt_or_ge s 8 with q | q
  · rw [if_neg (show ¬ (8 : Int32) ≤ nI s from nI_ge (a := s) (b := 8) q (by omega)), Nat.mod_eq_of_lt (by omega)]; exact nI_1 s
  · have : s = 8 := by omega
    subst this; decide
theorem count_n {c : Nat} (hc : c ≤ 8) : (if (8 : Int32) < nI c + 1 then (8 : Int32) else nI c + 1) = nI (min (c + 1) 8) := by
  rcases Nat.lt_or_ge c 8 with q | q
  · rw [show nI c + 1 = nI (c + 1) from nI_1 c, if_neg (show ¬ (8 : Int32) < nI (c + 1) from nI_nlt (a := 8) (by omega) (by omega)), Nat.min_eq_left (by omega)]
  · have : c = 8 := by omega
    subst this; decide
theorem cx_slot {s : Nat} (hs : s ≤ 8) : f_X2_slotAt V (nI s) = some (some (s + 2), V) := by
  unfold f_X2_slotAt
  rw [jn_d, if_neg (show ¬ nI s < 0 from nI_pos (by omega)), if_neg (nI_ge (by omega) (by omega)), if_pos (by rw [ib_T (by omega) (by omega)]; trivial), nI_clamp (by omega)]
theorem cx_note {s : Nat} {g : Arr} (h : V 220 0 = nI s) (hs : s ≤ 8) (ok : OKg g) (R : RelS V g) : ∃ V1, f_X2_note V = some V1 ∧ RelS (fun j => V1 (20 * (s + 2) + j)) g ∧ ∀ c, (c < 20 * (s + 2) ∨ 20 * (s + 2) + 20 ≤ c) → V1 c = V c := by
  obtain ⟨V', e, R', F⟩ := cx_copy (V := V) (k := s + 2) (k2 := 0) (by omega) ok (Rel_0.mpr R)
  refine ⟨V', ?_, R', F⟩
  unfold f_X2_note
  rw [h, cx_slot hs, bd_s, om_s, if_pos (by omega), e, bv_s]
theorem cx_kept {c s : Nat} (h : V 220 0 = nI s) (hs : s ≤ 8) (h2 : V 220 1 = nI c) (hc : c ≤ 8) : f_X2_keepNoted V = some (stv (stv V 220 0 (nI ((s + 1) % 9))) 220 1 (nI (min (c + 1) 8))) := by
  unfold f_X2_keepNoted
  rcases Nat.lt_or_ge s 8 with q | q <;> rcases Nat.lt_or_ge c 8 with q2 | q2
  · rw [Nat.mod_eq_of_lt (show s + 1 < 9 by omega), Nat.min_eq_left (show c + 1 ≤ 8 by omega)]
    simp (disch := omega) only [bd_s, bv_s, lt_d, jn_d, om_s, om_n, zl0, zl1, zl2, zl3, zl4, zl5, zl6, zl7, zl8, zl9, zl10, zl11, zl12, zl13, zl16, zl23, zl24, zl26, zl31, zl32, zl35, zl36, zl40, zl42, zl45, zl48, zl57, zl58, zl59, zl60, zl61, zl62, zl63, zl64, zl65, zl78, zl90, zl94, zl97, zl98, zl114, zl122, zl126, zl244, zl290, zl291, zl326, zl335, zl361, zl2527, zl2888, neg1, le_T, le_F, lt_T, lt_F, eq_T, eq_F, m1_ne, m1_ne', m1_lt, m1_le, lt_m1, le_m1, cl_n, ib_T, nI_add, pk_mul, sub_n, add_m1, sub_m1, m1_1, m1_1', pw_d, st_e, st_n, vu_e, vu_n, up_e, up_n, if_true, if_false, true_or, or_true, false_or, or_false, eq_self, reduceCtorEq, not_true_eq_false, not_false_eq_true, h, h2]
  · obtain rfl : c = 8 := by omega
    rw [Nat.mod_eq_of_lt (show s + 1 < 9 by omega)]
    simp (disch := omega) only [bd_s, bv_s, lt_d, jn_d, om_s, om_n, zl0, zl1, zl2, zl3, zl4, zl5, zl6, zl7, zl8, zl9, zl10, zl11, zl12, zl13, zl16, zl23, zl24, zl26, zl31, zl32, zl35, zl36, zl40, zl42, zl45, zl48, zl57, zl58, zl59, zl60, zl61, zl62, zl63, zl64, zl65, zl78, zl90, zl94, zl97, zl98, zl114, zl122, zl126, zl244, zl290, zl291, zl326, zl335, zl361, zl2527, zl2888, neg1, le_T, le_F, lt_T, lt_F, eq_T, eq_F, m1_ne, m1_ne', m1_lt, m1_le, lt_m1, le_m1, cl_n, ib_T, nI_add, pk_mul, sub_n, add_m1, sub_m1, m1_1, m1_1', pw_d, st_e, st_n, vu_e, vu_n, up_e, up_n, if_true, if_false, true_or, or_true, false_or, or_false, eq_self, reduceCtorEq, not_true_eq_false, not_false_eq_true, h, h2] <;> rfl
  · obtain rfl : s = 8 := by omega
    rw [Nat.min_eq_left (show c + 1 ≤ 8 by omega)]
    simp (disch := omega) only [bd_s, bv_s, lt_d, jn_d, om_s, om_n, zl0, zl1, zl2, zl3, zl4, zl5, zl6, zl7, zl8, zl9, zl10, zl11, zl12, zl13, zl16, zl23, zl24, zl26, zl31, zl32, zl35, zl36, zl40, zl42, zl45, zl48, zl57, zl58, zl59, zl60, zl61, zl62, zl63, zl64, zl65, zl78, zl90, zl94, zl97, zl98, zl114, zl122, zl126, zl244, zl290, zl291, zl326, zl335, zl361, zl2527, zl2888, neg1, le_T, le_F, lt_T, lt_F, eq_T, eq_F, m1_ne, m1_ne', m1_lt, m1_le, lt_m1, le_m1, cl_n, ib_T, nI_add, pk_mul, sub_n, add_m1, sub_m1, m1_1, m1_1', pw_d, st_e, st_n, vu_e, vu_n, up_e, up_n, if_true, if_false, true_or, or_true, false_or, or_false, eq_self, reduceCtorEq, not_true_eq_false, not_false_eq_true, h, h2] <;> rfl
  · obtain rfl : s = 8 := by omega
    obtain rfl : c = 8 := by omega
    simp (disch := omega) only [bd_s, bv_s, lt_d, jn_d, om_s, om_n, zl0, zl1, zl2, zl3, zl4, zl5, zl6, zl7, zl8, zl9, zl10, zl11, zl12, zl13, zl16, zl23, zl24, zl26, zl31, zl32, zl35, zl36, zl40, zl42, zl45, zl48, zl57, zl58, zl59, zl60, zl61, zl62, zl63, zl64, zl65, zl78, zl90, zl94, zl97, zl98, zl114, zl122, zl126, zl244, zl290, zl291, zl326, zl335, zl361, zl2527, zl2888, neg1, le_T, le_F, lt_T, lt_F, eq_T, eq_F, m1_ne, m1_ne', m1_lt, m1_le, lt_m1, le_m1, cl_n, ib_T, nI_add, pk_mul, sub_n, add_m1, sub_m1, m1_1, m1_1', pw_d, st_e, st_n, vu_e, vu_n, up_e, up_n, if_true, if_false, true_or, or_true, false_or, or_false, eq_self, reduceCtorEq, not_true_eq_false, not_false_eq_true, h, h2] <;> rfl
theorem cx_rem {c s : Nat} {g : Arr} (h : V 220 0 = nI s) (hs : s ≤ 8) (h2 : V 220 1 = nI c) (hc : c ≤ 8) (ok : OKg g) (R : RelS V g) : ∃ V1, f_X9_remember V = some V1 ∧ RelS V1 g ∧ RelS (fun j => V1 (20 * (s + 2) + j)) g ∧ V1 220 0 = nI ((s + 1) % 9) ∧ V1 220 1 = nI (min (c + 1) 8) ∧ ∀ c, c ≠ 220 → (c < 20 * (s + 2) ∨ 20 * (s + 2) + 20 ≤ c) → V1 c = V c := by
  obtain ⟨V1, e, R1, F⟩ := cx_note h hs ok R
  have f220 := F 220 (by omega)
  refine ⟨stv (stv V1 220 0 (nI ((s + 1) % 9))) 220 1 (nI (min (c + 1) 8)), ?_, ?_, ?_, ?_, ?_, fun c hc hc2 => ?_⟩
  · unfold f_X9_remember
    rw [e, bv_s, cx_kept (c := c) (s := s) (by rw [f220]; exact h) hs (by rw [f220]; exact h2) hc, bv_s]
  · refine Rel_lo (fun c hc => ?_) R
    rw [st_n (by omega), st_n (by omega)]; exact F c (by omega)
  · refine Rel_lo (V := fun j => V1 (20 * (s + 2) + j)) (fun c hc => ?_) R1
    show stv (stv V1 220 0 _) 220 1 _ (20 * (s + 2) + c) = V1 (20 * (s + 2) + c)
    rw [st_n (by omega), st_n (by omega)]
  · rw [st_e, up_n (by omega), st_e, up_e]
  · rw [st_e, up_e]
  · rw [st_n hc, st_n hc]; exact F c hc2
theorem mut_T {fx : Option (Nat × Int32 × Mem)} {per it : Mem → Option (Int32 × Mem)} {r : Int32} {g' : Arr} (I : Inv V) (ok' : OKg g')
    (hfx : ∀ V1, f_X9_remember V = some V1 → fx = bd (per V1) fun r V2 => some (0, r, V2))
    (hper : ∀ V1, RelS V1 (V 254) → COk (per V1) V1 r g')
    (hit : ∀ W, W 254 = V 254 → MOk (it W) W r g') :
    ∃ V2, fx = some (0, r, V2) ∧ ∀ V3 : Mem, (∀ d, d ≠ 265 → V3 d = V2 d) → ∃ V4, (bv (f_X10_starts V3) fun W => bd (it W) fun r9 V9 => bd (f_X10_changed V9 r9) fun r12 V12 => some (r12, V12)) = some (r, V4) ∧ V4 253 4 = nI 0 ∧ V4 265 = V3 265 ∧ Inv V4 := by
  obtain ⟨⟨ok, R⟩, ⟨c, s, h1, h2, h3, hx⟩, sv, er, li, ip, co⟩ := I
  obtain ⟨V1, e1, R1, R1s, p1, p2, F1⟩ := cx_rem h1 hx.2.1 h2 hx.1 ok R
  obtain ⟨V2, e2, R2, F2⟩ := hper V1 R1
  have G : ∀ c, 20 ≤ c → c ≠ 220 → (c < 20 * (s + 2) ∨ 20 * (s + 2) + 20 ≤ c) → V2 c = V c := fun c a b d => (F2 c a).trans (F1 c b d)
  have hs := hx.2.1
  have hc8 := hx.1
  have g1 := G 254 (by omega) (by omega) (by omega)
  have g3 := G 253 (by omega) (by omega) (by omega)
  have g5 := G 255 (by omega) (by omega) (by omega)
  have g7 := G 257 (by omega) (by omega) (by omega)
  refine ⟨V2, by rw [hfx V1 e1, e2, bd_s], fun V3 hV3 => ?_⟩
  rw [mm_starts, bv_s]
  generalize hW : va_up (stv V3 253 4 (nI 0)) 255 (fil (V3 254) (V3 255) 361) = W
  have w : ∀ d, d ≠ 265 → d ≠ 253 → d ≠ 255 → W d = V2 d := fun d a b e => by rw [← hW, vu_n e, st_n b, hV3 d a]
  have w253 : W 253 = upd (V 253) 4 (nI 0) := by rw [← hW, vu_n (by omega), st_e, hV3 253 (by omega), g3]
  have w255 : ∀ j, j < 361 → W 255 j = V 254 j := fun j hj => by rw [← hW, vu_e, fil_in hj, hV3 254 (by omega), g1]
  have w265 : W 265 = V3 265 := by rw [← hW, vu_n (by omega), st_n (by omega)]
  obtain ⟨h, k, e3⟩ := hit W ((w 254 (by omega) (by omega) (by omega)).trans g1)
  rw [e3, bd_s]
  have x253 : scr (va_up W 254 g') h k 253 = W 253 := by rw [scr_n (by omega) (by omega), vu_n (by omega)]
  have x257 : scr (va_up W 254 g') h k 257 = V 257 := by rw [scr_n (by omega) (by omega), vu_n (by omega), w 257 (by omega) (by omega) (by omega), g7]
  have x255 : scr (va_up W 254 g') h k 255 = W 255 := by rw [scr_n (by omega) (by omega), vu_n (by omega)]
  have ch := mm_chg (V := scr (va_up W 254 g') h k) (a := r) (c := c) (by rw [x253, w253, up_e]) (by rw [x253, w253, up_n (by omega)]; exact h3) hc8
  rw [ch, bd_s, x257, x255]
  generalize hV4 : stv (va_up (scr (va_up W 254 g') h k) 257 (pshd (V 257) (W 255) c)) 253 1 (nI (min (c + 1) 8)) = V4
  have y : ∀ d, d ≠ 253 → d ≠ 254 → d ≠ 255 → d ≠ 257 → d ≠ 259 → d ≠ 260 → d ≠ 265 → V4 d = V2 d := fun d a b e f i j k => by rw [← hV4, st_n a, vu_n f, scr_n i j, vu_n b, w d k a e]
  have y253 : V4 253 = upd (upd (V 253) 4 (nI 0)) 1 (nI (min (c + 1) 8)) := by rw [← hV4, st_e, vu_n (by omega), x253, w253]
  have y254 : V4 254 = g' := by rw [← hV4, st_n (by omega), vu_n (by omega), scr_254, vu_e]
  have y257 : V4 257 = pshd (V 257) (W 255) c := by rw [← hV4, st_n (by omega), vu_e]
  refine ⟨V4, rfl, by rw [y253, up_n (by omega), up_e], by rw [← hV4, st_n (by omega), vu_n (by omega), scr_n (by omega) (by omega), vu_n (by omega)]; exact w265, ⟨⟨by rw [y254]; exact ok', ?_⟩, ⟨min (c + 1) 8, (s + 1) % 9, ?_, ?_, ?_, ?_⟩, ?_, ?_, ?_, ?_, ?_⟩⟩
  · rw [y254]; exact Rel_lo (fun d hd => y d (by omega) (by omega) (by omega) (by omega) (by omega) (by omega) (by omega)) R2
  · rw [y 220 (by omega) (by omega) (by omega) (by omega) (by omega) (by omega) (by omega), F2 220 (by omega)]; exact p1
  · rw [y 220 (by omega) (by omega) (by omega) (by omega) (by omega) (by omega) (by omega), F2 220 (by omega)]; exact p2
  · rw [y253, up_e]
  · rw [y257]
    have z : ∀ d, 40 ≤ d → d < 220 → V4 d = V1 d := fun d a b => (y d (by omega) (by omega) (by omega) (by omega) (by omega) (by omega) (by omega)).trans (F2 d (by omega))
    refine HX_push hx ok w255 (fun k hk hne => ?_) (Rel_lo (V := fun j => V1 (20 * (s + 2) + j)) (fun d hd => by rw [slt_lo hd]; exact z _ (by omega) (by omega)) R1s)
    funext j
    by_cases q : j < 20
    · rw [slt_lo q, slt_lo q, z _ (by omega) (by omega)]
      exact F1 _ (by omega) (by omega)
    · unfold slt; rw [if_neg q, if_neg q]
  · exact sv.of (by rw [y 248 (by omega) (by omega) (by omega) (by omega) (by omega) (by omega) (by omega), G 248 (by omega) (by omega) (by omega)]) (by rw [y253, up_n (by omega), up_n (by omega)]) (by rw [y 256 (by omega) (by omega) (by omega) (by omega) (by omega) (by omega) (by omega), G 256 (by omega) (by omega) (by omega)]) (fun d a b => by rw [y d (by omega) (by omega) (by omega) (by omega) (by omega) (by omega) (by omega), G d (by omega) (by omega) (by omega)])
  · exact er.of (by rw [y 248 (by omega) (by omega) (by omega) (by omega) (by omega) (by omega) (by omega), G 248 (by omega) (by omega) (by omega)]) (by rw [y253, up_n (by omega), up_n (by omega)]) (by rw [y253, up_n (by omega), up_n (by omega)])
  · exact li.of (by rw [y253, up_n (by omega), up_n (by omega)]) (by rw [y 251 (by omega) (by omega) (by omega) (by omega) (by omega) (by omega) (by omega), G 251 (by omega) (by omega) (by omega)]) (by rw [y 252 (by omega) (by omega) (by omega) (by omega) (by omega) (by omega) (by omega), G 252 (by omega) (by omega) (by omega)]) (by rw [y 261 (by omega) (by omega) (by omega) (by omega) (by omega) (by omega) (by omega), G 261 (by omega) (by omega) (by omega)])
  · exact ip.of (by rw [y253, up_n (by omega), up_n (by omega)]) (by rw [y 249 (by omega) (by omega) (by omega) (by omega) (by omega) (by omega) (by omega), G 249 (by omega) (by omega) (by omega)]) (by rw [y 250 (by omega) (by omega) (by omega) (by omega) (by omega) (by omega) (by omega), G 250 (by omega) (by omega) (by omega)]) (by rw [y 258 (by omega) (by omega) (by omega) (by omega) (by omega) (by omega) (by omega), G 258 (by omega) (by omega) (by omega)])
  · exact co.of (by rw [y 262 (by omega) (by omega) (by omega) (by omega) (by omega) (by omega) (by omega), G 262 (by omega) (by omega) (by omega)]) (by rw [y 263 (by omega) (by omega) (by omega) (by omega) (by omega) (by omega) (by omega), G 263 (by omega) (by omega) (by omega)])
theorem mut_F {it : Mem → Option (Int32 × Mem)} {code : Nat} (I : Inv V) (h0 : 0 < code) (h9 : code < 9) (hit : ∀ W, W 254 = V 254 → MNo (it W) W code) : ∃ b V4, (bv (f_X10_starts V) fun W => bd (it W) fun r9 V9 => bd (f_X10_changed V9 r9) fun r12 V12 => some (r12, V12)) = some (b, V4) ∧ V4 253 4 = nI code ∧ Inv V4 := by
  rw [mm_starts, bv_s]
  generalize hW : va_up (stv V 253 4 (nI 0)) 255 (fil (V 254) (V 255) 361) = W
  have w : ∀ d, d ≠ 253 → d ≠ 255 → W d = V d := fun d b e => by rw [← hW, vu_n e, st_n b]
  have w253 : W 253 = upd (V 253) 4 (nI 0) := by rw [← hW, vu_n (by omega), st_e]
  obtain ⟨h, k, r, e⟩ := hit W (w 254 (by omega) (by omega))
  rw [e, bd_s, mm_chg_no (c := code) (by rw [scr_n (by omega) (by omega), st_e, up_e]) h0 h9, bd_s]
  refine ⟨r, _, rfl, by rw [scr_n (by omega) (by omega), st_e, up_e], I.sam ⟨fun c hc => ?_, fun j h4 h7 => ?_, fun c a b d e f => ?_⟩⟩
  · rw [scr_n (by omega) (by omega), st_n (by omega), w c (by omega) (by omega)]
  · rw [scr_n (by omega) (by omega), st_e, up_n h4, w253, up_n h4]
  · rw [scr_n e f, st_n (by omega), w c (by omega) d]
end RM
