/-! PURE, 60: a program run, both sides -/
def rJ184 : Mem → Option (Int32 × Mem) := fun V => bd (f_X10_changed V (V 253 7)) fun r V => some (r, V)
def rJ167 : Int32 → Mem → Option (Int32 × Mem) := fun x V => bd (f_X10_throwing (stv V 253 3 x) 2) fun r V => some (r, V)
def rJ140 : Mem → Int32 → Option (Int32 × Mem) := fun V x => f_X10_run_L142 x (rJ167 x) FU V 0
def rJ95 : Mem → Option (Int32 × Mem) := fun V => if V 253 10 = 0 then f_X10_run_L118 rJ140 rJ184 FU V 0 else bd (f_X10_throwing (stv V 253 2 (V 253 8)) 1) fun r V => some (r, V)
def cJ103 : Mem → Int32 → Option (Nat × Int32 × Mem) := fun V x => bv (f_X2_putNotedInto V) fun V => some (4, 0, stv V 248 2 x)
def cJ145 : Mem → Option (Nat × Int32 × Mem) := fun V => bv (f_X2_keepNoted V) fun V => some (0, V 222 0, V)
theorem PC.mv {V V' : Mem} {n : Nat} {ck : Nat → Nat} {ca : Nat → Nat → Int32} (h : PC V n ck ca) (hn : n ≤ 8) (f : ∀ d, 222 ≤ d → d < 248 → V' d = V d) : PC V' n ck ca := by
  refine ⟨by rw [f 222 (by omega) (by omega)]; exact h.1, fun i hi => ⟨by rw [f _ (by omega) (by omega)]; exact (h.2 i hi).1, fun j hj => by rw [f _ (by omega) (by omega)]; exact (h.2 i hi).2 j hj⟩⟩
section RN
variable {V : Mem}
theorem mm_runE {W : Mem} : f_X10_run W = f_X10_run_L34 rJ95 FU (stv (stv (stv (stv (stv (va_up (stv W 253 4 (nI 0)) 255 (fil (W 254) (W 255) 361)) 253 9 (va_up (stv W 253 4 (nI 0)) 255 (fil (W 254) (W 255) 361) 253 5)) 253 5 0) 253 8 0) 253 7 0) 253 10 0) 1 := by
  unfold f_X10_run
  rw [mm_starts, bv_s]
  simp only [lt_d, jn_d]
  delta rJ95 rJ140 rJ167 rJ184
  rfl
theorem cx_runE {V8 V16 : Mem} (h1 : f_X4_parse V = some V8) (h2 : f_J4_setLength_d00df V8 249 0 = some V16) : f_X9_run V = if V16 222 1 = -1 then bv (f_X2_note V16) fun V60 => f_X9_run_L65 cJ103 cJ145 FU V60 0 else some (2, 0, stv V16 248 1 (V16 222 1)) := by
  unfold f_X9_run
  rw [h1, bv_s, h2, bv_s]
  simp only [lt_d, jn_d]
  delta cJ103 cJ145
  rfl
theorem mm_back {x : Int32} {j : Mem → Option (Int32 × Mem)} : f_X10_run_L142 x j FU V 0 = j (va_up V 254 (fil (V 255) (V 254) 361)) := by
  refine Eq.trans (congrArg (fun X => f_X10_run_L142 x j FU X 0) (show V = va_up V 254 (fil (V 255) (V 254) 0) by rw [fil_0, vu_id])) ?_
  refine lp_run 361 (fun n k => f_X10_run_L142 x j n (va_up V 254 (fil (V 255) (V 254) k)) (nI k)) _ ?_ ?_ (n := FU) (k := 0) (by omega) (by decide)
  · intro n
    rw [f_X10_run_L142.eq_2]
    simp (disch := omega) only [bd_s, bv_s, lt_d, jn_d, om_s, om_n, zl0, zl1, zl2, zl3, zl4, zl5, zl6, zl7, zl8, zl9, zl10, zl11, zl12, zl13, zl16, zl23, zl24, zl26, zl31, zl32, zl35, zl36, zl40, zl42, zl45, zl48, zl57, zl58, zl59, zl60, zl61, zl62, zl63, zl64, zl65, zl78, zl90, zl94, zl97, zl98, zl114, zl122, zl126, zl244, zl290, zl291, zl326, zl335, zl361, zl2527, zl2888, neg1, le_T, le_F, lt_T, lt_F, eq_T, eq_F, m1_ne, m1_ne', m1_lt, m1_le, lt_m1, le_m1, cl_n, ib_T, nI_add, pk_mul, sub_n, add_m1, sub_m1, m1_1, m1_1', pw_d, st_e, st_n, vu_e, vu_n, up_e, up_n, if_true, if_false, true_or, or_true, false_or, or_false, eq_self, reduceCtorEq, not_true_eq_false, not_false_eq_true]
  · intro n k hk
    rw [f_X10_run_L142.eq_2]
    simp (disch := omega) only [bd_s, bv_s, lt_d, jn_d, om_s, om_n, zl0, zl1, zl2, zl3, zl4, zl5, zl6, zl7, zl8, zl9, zl10, zl11, zl12, zl13, zl16, zl23, zl24, zl26, zl31, zl32, zl35, zl36, zl40, zl42, zl45, zl48, zl57, zl58, zl59, zl60, zl61, zl62, zl63, zl64, zl65, zl78, zl90, zl94, zl97, zl98, zl114, zl122, zl126, zl244, zl290, zl291, zl326, zl335, zl361, zl2527, zl2888, neg1, le_T, le_F, lt_T, lt_F, eq_T, eq_F, m1_ne, m1_ne', m1_lt, m1_le, lt_m1, le_m1, cl_n, ib_T, nI_add, pk_mul, sub_n, add_m1, sub_m1, m1_1, m1_1', pw_d, st_e, st_n, vu_e, vu_n, up_e, up_n, if_true, if_false, true_or, or_true, false_or, or_false, eq_self, reduceCtorEq, not_true_eq_false, not_false_eq_true, st_v2]
    rw [fil_s rfl]
theorem cx_back {s : Nat} {g : Arr} (h : V 220 0 = nI s) (hs : s ≤ 8) (ok : OKg g) (R : RelS (fun j => V (20 * (s + 2) + j)) g) : ∃ V1, f_X2_putNotedInto V = some V1 ∧ RelS V1 g ∧ ∀ d, 20 ≤ d → V1 d = V d := by
  obtain ⟨V1, e1, R1, F1⟩ := cx_copy (V := V) (k := 0) (k2 := s + 2) (by omega) ok R
  refine ⟨V1, ?_, Rel_0.mp R1, fun d hd => F1 d (by omega)⟩
  unfold f_X2_putNotedInto
  rw [h, cx_slot hs, bd_s, om_s, if_pos (by omega), e1, bv_s]
theorem Inv_run {V4 V16 : Mem} (I : Inv V) (T16 : Txt V16 249 60 []) (h249 : V4 249 = V16 249) (h250 : V4 250 = V16 250) (h5 : V4 253 5 = nI 0) (y : ∀ d, 250 < d → d ≠ 253 → d ≠ 254 → d ≠ 255 → d ≠ 257 → d < 259 ∨ 260 < d → d < 264 → V4 d = V d) (y6 : V4 253 6 = V 253 6) (y0 : V4 253 0 = V 253 0) (y248 : V4 248 0 = V 248 0) (sv : ∀ c, 20 ≤ c → c < 40 → V4 c = V c) (er : ErrI V4) (rel : OKg (V4 254) ∧ RelS V4 (V4 254)) (his : HisI V4) : Inv V4 := by
  refine ⟨rel, his, I.2.2.1.of y248 y0 (y 256 (by omega) (by omega) (by omega) (by omega) (by omega) (by omega) (by omega)) sv, er, I.2.2.2.2.1.of y6 (y 251 (by omega) (by omega) (by omega) (by omega) (by omega) (by omega) (by omega)) (y 252 (by omega) (by omega) (by omega) (by omega) (by omega) (by omega) (by omega)) (y 261 (by omega) (by omega) (by omega) (by omega) (by omega) (by omega) (by omega)), ⟨0, h5, by rw [h249]; exact T16.1, ?_, fun j hj => absurd hj (Nat.not_lt_zero _)⟩, I.2.2.2.2.2.2.of (y 262 (by omega) (by omega) (by omega) (by omega) (by omega) (by omega) (by omega)) (y 263 (by omega) (by omega) (by omega) (by omega) (by omega) (by omega) (by omega))⟩
  obtain ⟨a, cap, d2, d3, d4, d5⟩ := (tx_B T16).1
  exact ⟨a, cap, d2, d3, by rw [h250]; exact d4, fun j hj => by rw [h250]; exact d5 j hj⟩
/-- the reference begins -/
theorem mm_run0 {W : Mem} {l : List Nat} {ck : Nat → Nat} {ca : Nat → Nat → Int32} (h5 : W 253 5 = nI l.length) (hl : l.length ≤ 60) (h258 : ∀ j, j < l.length → W 258 j = nI (lg l j)) (hlt : ∀ j, j < l.length → lg l j < 128) (co : ConsI W) : ∃ W9 : Mem, f_X10_run W = f_X10_run_L34 rJ95 FU W9 1 ∧ MTx W9 l ∧ W9 253 8 = nI 0 ∧ W9 253 10 = nI 0 ∧ PM W9 0 ck ca ∧ (∀ d, d ≠ 253 → d ≠ 255 → W9 d = W d) ∧ W9 255 = fil (W 254) (W 255) 361 ∧ W9 253 4 = nI 0 ∧ W9 253 5 = nI 0 ∧ ∀ j, (j < 4 ∨ j = 6) → W9 253 j = W 253 j := by
  have e := mm_runE (W := W)
  have q5 : va_up (stv W 253 4 (nI 0)) 255 (fil (W 254) (W 255) 361) 253 5 = nI l.length := by rw [vu_n (by omega), st_e, up_n (by omega), h5]
  rw [q5] at e
  generalize hX : stv (stv (stv (stv (stv (va_up (stv W 253 4 (nI 0)) 255 (fil (W 254) (W 255) 361)) 253 9 (nI l.length)) 253 5 0) 253 8 0) 253 7 0) 253 10 0 = X at e
  have x : ∀ d, d ≠ 253 → d ≠ 255 → X d = W d := fun d a b => by rw [← hX, st_n a, st_n a, st_n a, st_n a, st_n a, vu_n b, st_n a]
  have x3 : X 253 = upd (upd (upd (upd (upd (upd (W 253) 4 (nI 0)) 9 (nI l.length)) 5 0) 8 0) 7 0) 10 0 := by
    rw [← hX, st_e, st_e, st_e, st_e, st_e, vu_n (by omega), st_e]
  refine ⟨X, e, ⟨?_, hl, fun j hj => by rw [x 258 (by omega) (by omega)]; exact h258 j hj, hlt, co.of (x 262 (by omega) (by omega)) (x 263 (by omega) (by omega))⟩, ?_, ?_, ⟨?_, fun i hi => absurd hi (Nat.not_lt_zero _)⟩, x, ?_, ?_, ?_, fun j hj => ?_⟩
  · rw [x3, up_n (by omega), up_n (by omega), up_n (by omega), up_n (by omega), up_e]
  · rw [x3, up_n (by omega), up_n (by omega), up_e]; rfl
  · rw [x3, up_e]; rfl
  · rw [x3, up_n (by omega), up_e]; rfl
  · rw [← hX, st_n (by omega), st_n (by omega), st_n (by omega), st_n (by omega), st_n (by omega), vu_e]
  · rw [x3, up_n (by omega), up_n (by omega), up_n (by omega), up_n (by omega), up_n (by omega), up_e]
  · rw [x3, up_n (by omega), up_n (by omega), up_n (by omega), up_e]; rfl
  · rw [x3, up_n (by omega), up_n (by omega), up_n (by omega), up_n (by omega), up_n (by omega), up_n (by omega)]
theorem st_run (I : Inv V) : StepR V (f_L_run V) (fun W => f_X10_run W) := by
  have I0 := I
  obtain ⟨⟨ok, R⟩, ⟨c, s, h1, h2, h3, hx⟩, sv, er, li, ip, co⟩ := I
  obtain ⟨n0, p1, p2, p3, p4⟩ := ip
  obtain ⟨l, l1, T, L⟩ := tx_of p2 p3
  have n60 := p3.1
  have hl : l.length ≤ 60 := by omega
  have hc8 := hx.1
  have hs8 := hx.2.1
  have fu : 20 < FU := by decide
  have hlt : ∀ j, j < l.length → lg l j < 128 := tx_c T
  generalize hV12 : stv (stv (stv V 222 0 0) 222 1 (-1)) 222 2 0 = V12
  have v12 : ∀ d, d ≠ 222 → V12 d = V d := fun d a => by rw [← hV12, st_n a, st_n a, st_n a]
  have T12 : Txt V12 249 60 l := Txt_of T (v12 249 (by omega)) (v12 250 (by omega))
  have c12 : V12 222 2 = nI 0 := by rw [← hV12, st_e, up_e]; rfl
  have e12 : V12 222 1 = m1 := by rw [← hV12, st_e, up_n (by omega), st_e, up_e]; rfl
  have k12 : V12 222 0 = nI 0 := by rw [← hV12, st_e, up_n (by omega), st_e, up_n (by omega), st_e, up_e]; rfl
  have pE : f_X4_parse V = f_X4_parse_L19 FU V12 1 (nI 0) := by
    unfold f_X4_parse
    rw [lt_d, lt_d, lt_d, hV12, show (0 : Int32) = nI 0 from zl0]
  have M0 : ∀ (ck : Nat → Nat) (ca : Nat → Nat → Int32) (W : Mem), W 253 = V 253 → W 258 = V 258 → W 262 = V 262 → W 263 = V 263 → W 254 = V 254 → ∃ W9 : Mem, f_X10_run W = f_X10_run_L34 rJ95 FU W9 1 ∧ MTx W9 l ∧ W9 253 8 = nI 0 ∧ W9 253 10 = nI 0 ∧ PM W9 0 ck ca ∧ (∀ d, d ≠ 253 → d ≠ 255 → W9 d = W d) ∧ W9 255 = fil (V 254) (W 255) 361 ∧ W9 253 4 = nI 0 ∧ W9 253 5 = nI 0 ∧ ∀ j, (j < 4 ∨ j = 6) → W9 253 j = V 253 j := fun ck ca W a b d e f => by
    have := mm_run0 (W := W) (l := l) (ck := ck) (ca := ca) (by rw [a, l1]; exact p1) hl (fun j hj => by rw [b, ← p4 j (by omega)]; exact L j (by omega)) hlt (co.of d e)
    rw [f, a] at this
    exact this
  have lk : ∀ i, i < 0 → (fun _ => 0 : Nat → Nat) i < 13 := fun i hi => absurd hi (Nat.not_lt_zero _)
  rcases pr_run (j95 := rJ95) (l := l) hl 8 0 0 (fun _ => 0) (fun _ _ => 0) rfl (Nat.le_refl _) (Nat.zero_le _) lk with ⟨n, ck, ca, hn, hk, A, B⟩ | ⟨e, A, he, B⟩
  · obtain ⟨V8, e8, P8, r1, r2⟩ := A V12 T12 c12 ⟨k12, fun i hi => absurd hi (Nat.not_lt_zero _)⟩ FU (by omega)
    obtain ⟨V16, e16, T16, F16⟩ := tx_clr (Txt_of T12 (r2 249 (by omega)) (r2 250 (by omega)))
    have v16 : ∀ d, (d < 222 ∨ 248 ≤ d) → d ≠ 249 → d ≠ 250 → V16 d = V d := fun d a b e => by rw [F16 d b e, r2 d a, v12 d (by omega)]
    have R16 : RelS V16 (V 254) := Rel_lo (fun d hd => v16 d (by omega) (by omega) (by omega)) R
    obtain ⟨V60, e60, R60, F60⟩ := cx_note (V := V16) (s := s) (g := V 254) (by rw [v16 220 (by omega) (by omega) (by omega)]; exact h1) hs8 ok R16
    have P60 : PC V60 n ck ca := P8.mv hn (fun d a b => by rw [F60 d (by omega), F16 d (by omega) (by omega)])
    have R60' : RelS V60 (V 254) := Rel_lo (fun d hd => F60 d (by omega)) R16
    have v60 : ∀ d, (d < 222 ∨ 248 ≤ d) → d ≠ 249 → d ≠ 250 → (d < 20 * (s + 2) ∨ 20 * (s + 2) + 20 ≤ d) → V60 d = V d := fun d a b e f => by rw [F60 d f, v16 d a b e]
    have cE : f_X9_run V = f_X9_run_L65 cJ103 cJ145 FU V60 (nI 0) := by
      rw [cx_runE (pE.trans e8) e16, if_pos (show V16 222 1 = -1 by rw [F16 222 (by omega) (by omega), r1, e12]; rfl), e60, bv_s, show (0 : Int32) = nI 0 from zl0]
    rcases ex_run (j103 := cJ103) (j145 := cJ145) (j140 := rJ140) (j184 := rJ184) hn hk n 0 (V 254) (by omega) ok FU FU (by omega) (by omega) with ⟨g', ok', AC, AM⟩ | ⟨x, hxn, AC, AM⟩
    · obtain ⟨V5, e5, R5, F5⟩ := AC V60 R60' P60
      have ek := cx_kept (V := V5) (c := c) (s := s) (by rw [F5 220 (by omega), v60 220 (by omega) (by omega) (by omega) (by omega)]; exact h1) hs8 (by rw [F5 220 (by omega), v60 220 (by omega) (by omega) (by omega) (by omega)]; exact h2) hc8
      generalize hVk : stv (stv V5 220 0 (nI ((s + 1) % 9))) 220 1 (nI (min (c + 1) 8)) = Vk at ek
      have vk : ∀ d, d ≠ 220 → Vk d = V5 d := fun d a => by rw [← hVk, st_n a, st_n a]
      have k222 : Vk 222 0 = nI n := by rw [vk 222 (by omega)]; exact (P60.of F5).1
      have cR : f_X9_run V = some (0, nI n, Vk) := by
        rw [cE, e5]; unfold cJ145; rw [ek, bv_s, k222]
      generalize hV3 : stv Vk 265 0 (nI n) = V3
      have v3 : ∀ d, d ≠ 265 → V3 d = Vk d := fun d a => by rw [← hV3, st_n a]
      have w : ∀ d, 20 ≤ d → d ≠ 220 → d ≠ 265 → (d < 222 ∨ 248 ≤ d) → d ≠ 249 → d ≠ 250 → (d < 20 * (s + 2) ∨ 20 * (s + 2) + 20 ≤ d) → V3 d = V d := fun d a b e f g h i => by rw [v3 d e, vk d b, F5 d a, v60 d f g h i]
      have wB : ∀ d, 250 < d → d ≠ 265 → V3 d = V d := fun d a b => w d (by omega) (by omega) b (by omega) (by omega) (by omega) (by omega)
      obtain ⟨W9, E9, T9, a8, a10, aP, aF, a255, a4, a5, aj⟩ := M0 (fun _ => 0) (fun _ _ => 0) V3 (wB 253 (by omega) (by omega)) (wB 258 (by omega) (by omega)) (wB 262 (by omega) (by omega)) (wB 263 (by omega) (by omega)) (wB 254 (by omega) (by omega))
      obtain ⟨W1, E1, P1, b10, bF⟩ := B W9 T9 a8 a10 aP FU (by omega)
      obtain ⟨W2, E2, g2, f4, fM⟩ := AM W1 (by rw [bF.1 254 (by omega) (by omega), aF 254 (by omega) (by omega), wB 254 (by omega) (by omega)]) (by rw [bF.2.1 4 (by omega) (by omega) (by omega), a4]) P1
      have P2 := P1.of fM
      have z : ∀ d, d ≠ 253 → d ≠ 254 → d ≠ 255 → d ≠ 259 → d ≠ 260 → d ≠ 264 → W2 d = V3 d := fun d a b e f g h => by rw [fM.1 d a b f g, bF.1 d a h, aF d a e]
      have z255 : W2 255 = fil (V 254) (V3 255) 361 := by rw [fM.1 255 (by omega) (by omega) (by omega) (by omega), bF.1 255 (by omega) (by omega), a255]
      have z3 : ∀ j, (j < 4 ∨ j = 6) → W2 253 j = V 253 j := fun j hj => by rw [fM.2 j (by omega), bF.2.1 j (by omega) (by omega) (by omega), aj j hj]
      have z5 : W2 253 5 = nI 0 := by rw [fM.2 5 (by omega), bF.2.1 5 (by omega) (by omega) (by omega), a5]
      have ch := mm_chg (V := W2) (a := nI n) (c := c) f4 (by rw [z3 1 (by omega)]; exact h3) hc8
      generalize hV4 : stv (va_up W2 257 (pshd (W2 257) (W2 255) c)) 253 1 (nI (min (c + 1) 8)) = V4 at ch
      have mR : f_X10_run V3 = some (nI n, V4) := by
        rw [E9, E1]; unfold rJ95
        rw [if_pos (show W1 253 10 = 0 from b10), show (0 : Int32) = nI 0 from zl0, E2]; unfold rJ184
        rw [P2.1, ch, bd_s]
      have y : ∀ d, d ≠ 253 → d ≠ 254 → d ≠ 255 → d ≠ 257 → d ≠ 259 → d ≠ 260 → d ≠ 264 → V4 d = V3 d := fun d a b e f g h i => by rw [← hV4, st_n a, vu_n f, z d a b e g h i]
      have y253 : V4 253 = upd (W2 253) 1 (nI (min (c + 1) 8)) := by rw [← hV4, st_e, vu_n (by omega)]
      have y254 : V4 254 = g' := by rw [← hV4, st_n (by omega), vu_n (by omega), g2]
      have y257 : V4 257 = pshd (V 257) (W2 255) c := by rw [← hV4, st_n (by omega), vu_e, z 257 (by omega) (by omega) (by omega) (by omega) (by omega) (by omega), wB 257 (by omega) (by omega)]
      have yk : ∀ d, d < 249 → V4 d = Vk d := fun d hd => by rw [y d (by omega) (by omega) (by omega) (by omega) (by omega) (by omega) (by omega), v3 d (by omega)]
      have y248 : V4 248 = V 248 := by rw [y 248 (by omega) (by omega) (by omega) (by omega) (by omega) (by omega) (by omega), w 248 (by omega) (by omega) (by omega) (by omega) (by omega) (by omega) (by omega)]
      have yin : ∀ d, d = 249 ∨ d = 250 → V4 d = V16 d := fun d hd => by rw [y d (by omega) (by omega) (by omega) (by omega) (by omega) (by omega) (by omega), v3 d (by omega), vk d (by omega), F5 d (by omega), F60 d (by omega)]
      refine ⟨nI 0, V3, nI n, V4, ?_, mR, ?_, fun _ => ?_, ?_⟩
      · unfold f_L_run
        rw [cR, bh_0, hV3.symm]; rfl
      · rw [y253, up_n (by omega), f4]
      · rw [y 265 (by omega) (by omega) (by omega) (by omega) (by omega) (by omega) (by omega), ← hV3, st_e, up_e]
      · refine Inv_run I0 T16 (yin 249 (.inl rfl)) (yin 250 (.inr rfl)) (by rw [y253, up_n (by omega), z5]) (fun d a1 a2 a3 a4 a5 a6 a7 => by rw [y d a2 a3 a4 a5 (by omega) (by omega) (by omega), wB d a1 (by omega)]) (by rw [y253, up_n (by omega), z3 6 (by omega)]) (by rw [y253, up_n (by omega), z3 0 (by omega)]) (by rw [y248]) (fun d a b => ?_) (er.of y248 (by rw [y253, up_n (by omega), z3 2 (by omega)]) (by rw [y253, up_n (by omega), z3 3 (by omega)])) ⟨by rw [y254]; exact ok', ?_⟩ ⟨min (c + 1) 8, (s + 1) % 9, ?_, ?_, ?_, ?_⟩
        · rw [y d (by omega) (by omega) (by omega) (by omega) (by omega) (by omega) (by omega), w d a (by omega) (by omega) (by omega) (by omega) (by omega) (by omega)]
        · rw [y254]; exact Rel_lo (fun d hd => by rw [yk d (by omega), vk d (by omega)]) R5
        · rw [yk 220 (by omega), ← hVk, st_e, up_n (by omega), st_e, up_e]
        · rw [yk 220 (by omega), ← hVk, st_e, up_e]
        · rw [y253, up_e]
        · rw [y257]
          refine HX_push hx ok (fun j hj => by rw [z255, fil_in hj]) (fun k hk hne => ?_) (Rel_lo (V := fun j => V60 (20 * (s + 2) + j)) (fun d hd => by rw [slt_lo hd, yk _ (by omega), vk _ (by omega), F5 _ (by omega)]) R60)
          funext j
          by_cases q : j < 20
          · rw [slt_lo q, slt_lo q, yk _ (by omega), vk _ (by omega), F5 _ (by omega), v60 _ (by omega) (by omega) (by omega) (by omega)]
          · unfold slt; rw [if_neg q, if_neg q]
    · obtain ⟨V5, e5, F5⟩ := AC V60 R60' P60
      obtain ⟨V6, e6, R6, F6⟩ := cx_back (V := V5) (s := s) (g := V 254) (by rw [F5 220 (by omega), v60 220 (by omega) (by omega) (by omega) (by omega)]; exact h1) hs8 ok (Rel_lo (V := fun j => V60 (20 * (s + 2) + j)) (V' := fun j => V5 (20 * (s + 2) + j)) (fun d hd => F5 _ (by omega)) R60)
      generalize hV3 : stv V6 248 2 (nI x) = V3
      have cR : f_X9_run V = some (4, 0, V3) := by
        rw [cE, e5]; unfold cJ103; rw [e6, bv_s, hV3]
      have v3 : ∀ d, 20 ≤ d → d ≠ 248 → V3 d = V60 d := fun d a b => by rw [← hV3, st_n b, F6 d a, F5 d a]
      have w : ∀ d, 20 ≤ d → d ≠ 248 → (d < 222 ∨ 248 ≤ d) → d ≠ 249 → d ≠ 250 → (d < 20 * (s + 2) ∨ 20 * (s + 2) + 20 ≤ d) → V3 d = V d := fun d a b f g h i => by rw [v3 d a b, v60 d f g h i]
      have wB : ∀ d, 250 < d → V3 d = V d := fun d a => w d (by omega) (by omega) (by omega) (by omega) (by omega) (by omega)
      have w248 : V3 248 = upd (V 248) 2 (nI x) := by rw [← hV3, st_e, F6 248 (by omega), F5 248 (by omega), v60 248 (by omega) (by omega) (by omega) (by omega)]
      obtain ⟨W9, E9, T9, a8, a10, aP, aF, a255, a4, a5, aj⟩ := M0 (fun _ => 0) (fun _ _ => 0) V3 (wB 253 (by omega)) (wB 258 (by omega)) (wB 262 (by omega)) (wB 263 (by omega)) (wB 254 (by omega))
      obtain ⟨W1, E1, P1, b10, bF⟩ := B W9 T9 a8 a10 aP FU (by omega)
      obtain ⟨W2, E2, fM⟩ := AM W1 (by rw [bF.1 254 (by omega) (by omega), aF 254 (by omega) (by omega), wB 254 (by omega)]) (by rw [bF.2.1 4 (by omega) (by omega) (by omega), a4]) P1
      have z : ∀ d, d ≠ 253 → d ≠ 254 → d ≠ 255 → d ≠ 259 → d ≠ 260 → d ≠ 264 → W2 d = V3 d := fun d a b e f g h => by rw [fM.1 d a b f g, bF.1 d a h, aF d a e]
      have z255 : W2 255 = fil (V 254) (V3 255) 361 := by rw [fM.1 255 (by omega) (by omega) (by omega) (by omega), bF.1 255 (by omega) (by omega), a255]
      have z3 : ∀ j, (j < 4 ∨ j = 6) → W2 253 j = V 253 j := fun j hj => by rw [fM.2 j (by omega), bF.2.1 j (by omega) (by omega) (by omega), aj j hj]
      have z5 : W2 253 5 = nI 0 := by rw [fM.2 5 (by omega), bF.2.1 5 (by omega) (by omega) (by omega), a5]
      generalize hV4 : stv (stv (va_up W2 254 (fil (W2 255) (W2 254) 361)) 253 3 (nI x)) 253 4 2 = V4
      have mR : f_X10_run V3 = some (m1, V4) := by
        rw [E9, E1]; unfold rJ95
        rw [if_pos (show W1 253 10 = 0 from b10), show (0 : Int32) = nI 0 from zl0, E2]; unfold rJ140
        rw [mm_back]; unfold rJ167
        rw [sm_th, bd_s, hV4]
      have y : ∀ d, d ≠ 253 → d ≠ 254 → d ≠ 255 → d ≠ 259 → d ≠ 260 → d ≠ 264 → V4 d = V3 d := fun d a b e g h i => by rw [← hV4, st_n a, st_n a, vu_n b, z d a b e g h i]
      have y253 : V4 253 = upd (upd (W2 253) 3 (nI x)) 4 2 := by rw [← hV4, st_e, st_e, vu_n (by omega)]
      have y254 : V4 254 = fil (W2 255) (W2 254) 361 := by rw [← hV4, st_n (by omega), st_n (by omega), vu_e]
      have ag : Agr (V 254) (V4 254) := Agr.all (ok_c24 ok) (fun j hj => by rw [y254, fil_in hj, z255, fil_in hj])
      have y248 : V4 248 = upd (V 248) 2 (nI x) := by rw [y 248 (by omega) (by omega) (by omega) (by omega) (by omega) (by omega), w248]
      have yin : ∀ d, d = 249 ∨ d = 250 → V4 d = V16 d := fun d hd => by rw [y d (by omega) (by omega) (by omega) (by omega) (by omega) (by omega), v3 d (by omega) (by omega), F60 d (by omega)]
      have yw : ∀ d, 20 ≤ d → d < 222 → (d < 20 * (s + 2) ∨ 20 * (s + 2) + 20 ≤ d) → V4 d = V d := fun d a b e => by rw [y d (by omega) (by omega) (by omega) (by omega) (by omega) (by omega), w d a (by omega) (by omega) (by omega) (by omega) e]
      refine ⟨2, V3, m1, V4, ?_, mR, ?_, fun q => absurd q (by decide), ?_⟩
      · unfold f_L_run
        rw [cR, bh_n]; rfl
      · rw [y253, up_e]
      · refine Inv_run I0 T16 (yin 249 (.inl rfl)) (yin 250 (.inr rfl)) (by rw [y253, up_n (by omega), up_n (by omega), z5]) (fun d a1 a2 a3 a4 a5 a6 a7 => by rw [y d a2 a3 a4 (by omega) (by omega) (by omega), wB d a1]) (by rw [y253, up_n (by omega), up_n (by omega), z3 6 (by omega)]) (by rw [y253, up_n (by omega), up_n (by omega), z3 0 (by omega)]) (by rw [y248, up_n (by omega)]) (fun d a b => yw d a (by omega) (by omega)) ⟨?_, ?_⟩ ⟨(OK_agr ok ag).1, ?_⟩ ⟨c, s, ?_, ?_, ?_, ?_⟩
        · rw [y253, up_n (by omega), up_n (by omega), z3 2 (by omega), y248, up_n (by omega)]; exact er.1
        · rw [y253, up_n (by omega), up_e, y248, up_e]
        · exact Rel_agr ok ag (Rel_lo (fun d hd => by rw [y d (by omega) (by omega) (by omega) (by omega) (by omega) (by omega), ← hV3, st_n (by omega)]) R6)
        · rw [yw 220 (by omega) (by omega) (by omega)]; exact h1
        · rw [yw 220 (by omega) (by omega) (by omega)]; exact h2
        · rw [y253, up_n (by omega), up_n (by omega), z3 1 (by omega)]; exact h3
        · rw [y 257 (by omega) (by omega) (by omega) (by omega) (by omega) (by omega), wB 257 (by omega)]
          refine HX_cell hx (fun k hk hne => ?_)
          funext j
          by_cases q : j < 20
          · rw [slt_lo q, slt_lo q, yw _ (by omega) (by omega) (by omega)]
          · unfold slt; rw [if_neg q, if_neg q]
  · obtain ⟨V8, e8, r1, r2⟩ := A V12 T12 c12 ⟨k12, fun i hi => absurd hi (Nat.not_lt_zero _)⟩ FU (by omega)
    obtain ⟨V16, e16, T16, F16⟩ := tx_clr (Txt_of T12 (r2 249 (by omega)) (r2 250 (by omega)))
    have v16 : ∀ d, (d < 222 ∨ 248 ≤ d) → d ≠ 249 → d ≠ 250 → V16 d = V d := fun d a b e => by rw [F16 d b e, r2 d a, v12 d (by omega)]
    have x1 : V16 222 1 = nI e := by rw [F16 222 (by omega) (by omega), r1]
    generalize hV3 : stv V16 248 1 (nI e) = V3
    have cR : f_X9_run V = some (2, 0, V3) := by
      rw [cx_runE (pE.trans e8) e16, x1, if_neg (show ¬ nI e = -1 from nI_m1 (by omega)), hV3]
    have w : ∀ d, (d < 222 ∨ 248 ≤ d) → d ≠ 248 → d ≠ 249 → d ≠ 250 → V3 d = V d := fun d a f g h => by rw [← hV3, st_n f, v16 d a g h]
    have wB : ∀ d, 250 < d → V3 d = V d := fun d a => w d (by omega) (by omega) (by omega) (by omega)
    have w248 : V3 248 = upd (V 248) 1 (nI e) := by rw [← hV3, st_e, v16 248 (by omega) (by omega) (by omega)]
    obtain ⟨W9, E9, T9, a8, a10, aP, aF, a255, a4, a5, aj⟩ := M0 (fun _ => 0) (fun _ _ => 0) V3 (wB 253 (by omega)) (wB 258 (by omega)) (wB 262 (by omega)) (wB 263 (by omega)) (wB 254 (by omega))
    obtain ⟨W1, E1, b8, b10, bF⟩ := B W9 T9 a8 a10 aP FU (by omega)
    generalize hV4 : stv (stv W1 253 2 (nI e)) 253 4 1 = V4
    have mR : f_X10_run V3 = some (m1, V4) := by
      rw [E9, E1]; unfold rJ95
      rw [if_neg (show ¬ W1 253 10 = 0 by rw [b10]; decide), b8, sm_th, bd_s, hV4]
    have y : ∀ d, d ≠ 253 → d ≠ 255 → d ≠ 264 → V4 d = V3 d := fun d a b i => by rw [← hV4, st_n a, st_n a, bF.1 d a i, aF d a b]
    have y253 : V4 253 = upd (upd (W1 253) 2 (nI e)) 4 1 := by rw [← hV4, st_e, st_e]
    have z3 : ∀ j, (j < 4 ∨ j = 6) → W1 253 j = V 253 j := fun j hj => by rw [bF.2.1 j (by omega) (by omega) (by omega), aj j hj]
    have z5 : W1 253 5 = nI 0 := by rw [bF.2.1 5 (by omega) (by omega) (by omega), a5]
    have y254 : V4 254 = V 254 := by rw [y 254 (by omega) (by omega) (by omega), wB 254 (by omega)]
    have y248 : V4 248 = upd (V 248) 1 (nI e) := by rw [y 248 (by omega) (by omega) (by omega), w248]
    have yin : ∀ d, d = 249 ∨ d = 250 → V4 d = V16 d := fun d hd => by rw [y d (by omega) (by omega) (by omega), ← hV3, st_n (by omega)]
    have yw : ∀ d, d < 222 → V4 d = V d := fun d b => by rw [y d (by omega) (by omega) (by omega), w d (by omega) (by omega) (by omega) (by omega)]
    refine ⟨1, V3, m1, V4, ?_, mR, ?_, fun q => absurd q (by decide), ?_⟩
    · unfold f_L_run
      rw [cR, bh_n]; rfl
    · rw [y253, up_e]
    · refine Inv_run I0 T16 (yin 249 (.inl rfl)) (yin 250 (.inr rfl)) (by rw [y253, up_n (by omega), up_n (by omega), z5]) (fun d a1 a2 a3 a4 a5 a6 a7 => by rw [y d a2 a4 (by omega), wB d a1]) (by rw [y253, up_n (by omega), up_n (by omega), z3 6 (by omega)]) (by rw [y253, up_n (by omega), up_n (by omega), z3 0 (by omega)]) (by rw [y248, up_n (by omega)]) (fun d a b => yw d (by omega)) ⟨?_, ?_⟩ ⟨by rw [y254]; exact ok, by rw [y254]; exact Rel_lo (fun d hd => yw d (by omega)) R⟩ ?_
      · rw [y253, up_n (by omega), up_e, y248, up_e]
      · rw [y253, up_n (by omega), up_n (by omega), z3 3 (by omega), y248, up_n (by omega)]; exact er.2
      · exact HisI.of ⟨c, s, h1, h2, h3, hx⟩ (yw 220 (by omega)) (by rw [y253, up_n (by omega), up_n (by omega), z3 1 (by omega)]) (by rw [y 257 (by omega) (by omega) (by omega), wB 257 (by omega)]) (fun d a b => yw d (by omega))
end RN
