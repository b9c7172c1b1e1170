/-! PURE, 52: the commands of a program carried out -/
theorem bd_eta {α : Type} (o : Option (α × Mem)) : (bd o fun r V => some (r, V)) = o := by
  cases o with
  | none => rfl
  | some y => rfl
def naK (k : Nat) : Nat := ([3, 1, 2, 1, 1, 2, 2, 2, 2, 2, 2, 1, 0] : List Nat).getD k 0
theorem k13 {k : Nat} (hk : k < 13) : k = 0 ∨ k = 1 ∨ k = 2 ∨ k = 3 ∨ k = 4 ∨ k = 5 ∨ k = 6 ∨ k = 7 ∨ k = 8 ∨ k = 9 ∨ k = 10 ∨ k = 11 ∨ k = 12 := by omega
theorem cgK {k : Nat} (hk : k < 13) {x y : Nat → Int32} (h : ∀ j, j < naK k → x j = y j) : rfK k (x 0) (x 1) (x 2) = rfK k (y 0) (y 1) (y 2) ∧ perK k (x 0) (x 1) (x 2) = perK k (y 0) (y 1) (y 2) ∧ itK k (x 0) (x 1) (x 2) = itK k (y 0) (y 1) (y 2) := by
  rcases k13 hk with e | e | e | e | e | e | e | e | e | e | e | e | e <;> subst e
  · rw [h 0 (by decide), h 1 (by decide), h 2 (by decide)]; exact ⟨rfl, rfl, rfl⟩
  · have h0 := h 0 (by decide)
    refine ⟨?_, ?_, ?_⟩ <;> (funext V; simp [rfK, perK, itK, h0])
  · have h0 := h 0 (by decide); have h1 := h 1 (by decide)
    refine ⟨?_, ?_, ?_⟩ <;> (funext V; simp [rfK, perK, itK, h0, h1])
  · have h0 := h 0 (by decide)
    refine ⟨?_, ?_, ?_⟩ <;> (funext V; simp [rfK, perK, itK, h0])
  · have h0 := h 0 (by decide)
    refine ⟨?_, ?_, ?_⟩ <;> (funext V; simp [rfK, perK, itK, h0])
  · have h0 := h 0 (by decide); have h1 := h 1 (by decide)
    refine ⟨?_, ?_, ?_⟩ <;> (funext V; simp [rfK, perK, itK, h0, h1])
  · have h0 := h 0 (by decide); have h1 := h 1 (by decide)
    refine ⟨?_, ?_, ?_⟩ <;> (funext V; simp [rfK, perK, itK, h0, h1])
  · have h0 := h 0 (by decide); have h1 := h 1 (by decide)
    refine ⟨?_, ?_, ?_⟩ <;> (funext V; simp [rfK, perK, itK, h0, h1])
  · have h0 := h 0 (by decide); have h1 := h 1 (by decide)
    refine ⟨?_, ?_, ?_⟩ <;> (funext V; simp [rfK, perK, itK, h0, h1])
  · have h0 := h 0 (by decide); have h1 := h 1 (by decide)
    refine ⟨?_, ?_, ?_⟩ <;> (funext V; simp [rfK, perK, itK, h0, h1])
  · have h0 := h 0 (by decide); have h1 := h 1 (by decide)
    refine ⟨?_, ?_, ?_⟩ <;> (funext V; simp [rfK, perK, itK, h0, h1])
  · have h0 := h 0 (by decide)
    refine ⟨?_, ?_, ?_⟩ <;> (funext V; simp [rfK, perK, itK, h0])
  · refine ⟨?_, ?_, ?_⟩ <;> (funext V; simp [rfK, perK, itK])
section EX
variable {V : Mem} {g : Arr}
theorem cx_arg {q j : Nat} (hj : j < 3) : f_X1_argument V q (nI j) = some (V (224 + 3 * q + 2) j, V) := by
  unfold f_X1_argument
  rw [sx_get (V := V) (i := 224 + 3 * q + 1) (N := 3) hj (by omega), bd_s]
theorem swk {k : Nat} (hk : k < 13) : swOf (nI k).toNatClampNeg = if k < 12 then nI (k + 1) else 0 := by
  rw [cl_n (by omega)]; rfl
theorem cx_rfK {q k : Nat} (hk : k < 13) (h : V (224 + 3 * q) 1 = nI k) : f_X8_refusalOf V q = rfK k (V (224 + 3 * q + 2) 0) (V (224 + 3 * q + 2) 1) (V (224 + 3 * q + 2) 2) V := by
  have a0 : f_X1_argument V q 0 = _ := cx_arg (j := 0) (by omega)
  have a1 : f_X1_argument V q 1 = _ := cx_arg (j := 1) (by omega)
  have a2 : f_X1_argument V q 2 = _ := cx_arg (j := 2) (by omega)
  unfold f_X8_refusalOf
  rw [a0, bd_s, a1, bd_s, h, cl_n (by omega), if_pos hk, if_pos (by rw [ib_T hk (by omega)]; trivial), swk hk, a2]
  rcases k13 hk with e | e | e | e | e | e | e | e | e | e | e | e | e <;> subst e <;> simp only [bd_s, bd_eta] <;> rfl
theorem cx_perK {q k : Nat} (hk : k < 13) (h : V (224 + 3 * q) 1 = nI k) : f_X8_perform V q = perK k (V (224 + 3 * q + 2) 0) (V (224 + 3 * q + 2) 1) (V (224 + 3 * q + 2) 2) V := by
  have a0 : f_X1_argument V q 0 = _ := cx_arg (j := 0) (by omega)
  have a1 : f_X1_argument V q 1 = _ := cx_arg (j := 1) (by omega)
  have a2 : f_X1_argument V q 2 = _ := cx_arg (j := 2) (by omega)
  unfold f_X8_perform
  rw [a0, bd_s, a1, bd_s, h, cl_n (by omega), if_pos hk, if_pos (by rw [ib_T hk (by omega)]; trivial), swk hk, a2]
  rcases k13 hk with e | e | e | e | e | e | e | e | e | e | e | e | e <;> subst e <;> simp only [bd_s, bd_eta] <;> rfl
theorem mm_itK {i k : Nat} (hi : i < 60) (hk : k < 13) (h : V 264 (4 * i) = nI k) : f_X10_does V (nI (4 * i)) = bd (itK k (V 264 (4 * i + 1)) (V 264 (4 * i + 1 + 1)) (V 264 (4 * i + 1 + 2)) V) fun _ W => some W := by
  have e1 : nI (4 * i) + 1 = nI (4 * i + 1) := nI_add _ 1
  have e2 : nI (4 * i) + 2 = nI (4 * i + 1 + 1) := nI_add _ 2
  have e3 : nI (4 * i) + 3 = nI (4 * i + 1 + 2) := nI_add _ 3
  unfold f_X10_does
  rw [e1, e2, e3, if_pos (by rw [ib_T (by omega) (by omega)]; trivial), if_pos (by rw [ib_T (by omega) (by omega)]; trivial), if_pos (by rw [ib_T (by omega) (by omega)]; trivial), if_pos (show ib (nI (4 * i + 1 + 2)) 244 = true by rw [ib_T (by omega) (by omega)]; trivial), cl_n (by omega), cl_n (by omega), cl_n (by omega), cl_n (by omega), h]
  rcases k13 hk with e | e | e | e | e | e | e | e | e | e | e | e | e <;> subst e <;> rfl
/-! a program, both ways of keeping it -/
def PC (V : Mem) (n : Nat) (ck : Nat → Nat) (ca : Nat → Nat → Int32) : Prop := V 222 0 = nI n ∧ ∀ i, i < n → V (224 + 3 * i) 1 = nI (ck i) ∧ ∀ j, j < naK (ck i) → V (224 + 3 * i + 2) j = ca i j
def PM (W : Mem) (n : Nat) (ck : Nat → Nat) (ca : Nat → Nat → Int32) : Prop := W 253 7 = nI n ∧ ∀ i, i < n → W 264 (4 * i) = nI (ck i) ∧ ∀ j, j < naK (ck i) → W 264 (4 * i + 1 + j) = ca i j
def FrC (V V' : Mem) : Prop := ∀ c, 20 ≤ c → V' c = V c
def FrM (W W' : Mem) : Prop := (∀ d, d ≠ 253 → d ≠ 254 → d ≠ 259 → d ≠ 260 → W' d = W d) ∧ ∀ j, j ≠ 4 → W' 253 j = W 253 j
theorem FrC.tr {V V1 V2 : Mem} (h : FrC V V1) (h2 : FrC V1 V2) : FrC V V2 := fun c hc => (h2 c hc).trans (h c hc)
theorem FrM.tr {V V1 V2 : Mem} (h : FrM V V1) (h2 : FrM V1 V2) : FrM V V2 := ⟨fun d a b c e => (h2.1 d a b c e).trans (h.1 d a b c e), fun j hj => (h2.2 j hj).trans (h.2 j hj)⟩
theorem PC.of {V V' : Mem} {n : Nat} {ck : Nat → Nat} {ca : Nat → Nat → Int32} (h : PC V n ck ca) (f : FrC V V') : PC V' n ck ca := by
  refine ⟨by rw [f 222 (by omega)]; exact h.1, fun i hi => ⟨by rw [f _ (by omega)]; exact (h.2 i hi).1, fun j hj => by rw [f _ (by omega)]; exact (h.2 i hi).2 j hj⟩⟩
theorem PM.of {V V' : Mem} {n : Nat} {ck : Nat → Nat} {ca : Nat → Nat → Int32} (h : PM V n ck ca) (f : FrM V V') : PM V' n ck ca := by
  refine ⟨by rw [f.2 7 (by omega)]; exact h.1, fun i hi => ⟨by rw [f.1 264 (by omega) (by omega) (by omega) (by omega)]; exact (h.2 i hi).1, fun j hj => by rw [f.1 264 (by omega) (by omega) (by omega) (by omega)]; exact (h.2 i hi).2 j hj⟩⟩
theorem cx_cAt {i : Nat} (hi : i < 8) : f_X4_commandAt V (nI i) = some (some i, V) := by
  unfold f_X4_commandAt
  rw [jn_d, if_neg (show ¬ nI i < 0 from nI_pos (by omega)), if_neg (nI_ge (by omega) (by omega)), if_pos (by rw [ib_T (by omega) (by omega)]; trivial), cl_n (by omega)]
theorem ex_run {n : Nat} {ck : Nat → Nat} {ca : Nat → Nat → Int32} (hn : n ≤ 8) (hk : ∀ i, i < n → ck i < 13) {j103 : Mem → Int32 → Option (Nat × Int32 × Mem)} {j145 : Mem → Option (Nat × Int32 × Mem)} {j140 : Mem → Int32 → Option (Int32 × Mem)} {j184 : Mem → Option (Int32 × Mem)} :
    ∀ (m i : Nat) (g : Arr), i + m = n → OKg g → ∀ f1 f2, m < f1 → m < f2 →
    (∃ g', OKg g' ∧ (∀ V, RelS V g → PC V n ck ca → ∃ V', f_X9_run_L65 j103 j145 f1 V (nI i) = j145 V' ∧ RelS V' g' ∧ FrC V V') ∧ (∀ W : Mem, W 254 = g → W 253 4 = nI 0 → PM W n ck ca → ∃ W' : Mem, f_X10_run_L118 j140 j184 f2 W (nI i) = j184 W' ∧ W' 254 = g' ∧ W' 253 4 = nI 0 ∧ FrM W W')) ∨
    (∃ x, x < n ∧ (∀ V, RelS V g → PC V n ck ca → ∃ V', f_X9_run_L65 j103 j145 f1 V (nI i) = j103 V' (nI x) ∧ FrC V V') ∧ (∀ W : Mem, W 254 = g → W 253 4 = nI 0 → PM W n ck ca → ∃ W' : Mem, f_X10_run_L118 j140 j184 f2 W (nI i) = j140 W' (nI x) ∧ FrM W W')) := by
  intro m
  induction m with
  | zero =>
    intro i g hi ok f1 f2 h1 h2
    obtain ⟨f1, rfl⟩ : ∃ n', f1 = n' + 1 := ⟨f1 - 1, by omega⟩
    obtain ⟨f2, rfl⟩ : ∃ n', f2 = n' + 1 := ⟨f2 - 1, by omega⟩
    obtain rfl : i = n := by omega
    refine .inl ⟨g, ok, fun V R P => ⟨V, ?_, R, fun c hc => rfl⟩, fun W hW h4 P => ⟨W, ?_, hW, h4, fun d _ _ _ _ => rfl, fun j _ => rfl⟩⟩
    · rw [f_X9_run_L65.eq_2, P.1, if_pos (Int32.le_refl _)]
    · rw [f_X10_run_L118.eq_2, P.1, if_pos (Int32.le_refl _)]
  | succ m ih =>
    intro i g hi ok f1 f2 h1 h2
    obtain ⟨f1, rfl⟩ : ∃ n', f1 = n' + 1 := ⟨f1 - 1, by omega⟩
    obtain ⟨f2, rfl⟩ : ∃ n', f2 = n' + 1 := ⟨f2 - 1, by omega⟩
    have hin : i < n := by omega
    have hki := hk i hin
    have np : ¬ nI n ≤ nI i := nI_ge hin (by omega)
    have en : nI i + 1 = nI (i + 1) := nI_1 i
    have cC : ∀ V, PC V n ck ca → rfK (ck i) (V (224 + 3 * i + 2) 0) (V (224 + 3 * i + 2) 1) (V (224 + 3 * i + 2) 2) = rfK (ck i) (ca i 0) (ca i 1) (ca i 2) ∧ perK (ck i) (V (224 + 3 * i + 2) 0) (V (224 + 3 * i + 2) 1) (V (224 + 3 * i + 2) 2) = perK (ck i) (ca i 0) (ca i 1) (ca i 2) := fun V P => by
      have := cgK hki (x := V (224 + 3 * i + 2)) (y := ca i) (fun j hj => (P.2 i hin).2 j hj)
      exact ⟨this.1, this.2.1⟩
    have cM : ∀ W : Mem, PM W n ck ca → itK (ck i) (W 264 (4 * i + 1)) (W 264 (4 * i + 1 + 1)) (W 264 (4 * i + 1 + 2)) = itK (ck i) (ca i 0) (ca i 1) (ca i 2) := fun W P => by
      have := cgK hki (x := fun j => W 264 (4 * i + 1 + j)) (y := ca i) (fun j hj => (P.2 i hin).2 j hj)
      exact this.2.2
    have e4 : ∀ f V, f_X10_run_L118 j140 j184 (f + 1) V (nI i) = if (V 253 7) ≤ nI i then j184 V else bv (f_X10_does V (nI (4 * i))) fun V130 => if (V130 253 4) ≤ 0 then (f_X10_run_L118 j140 j184 f) V130 (nI (i + 1)) else j140 V130 (nI i) := fun f V => by
      rw [f_X10_run_L118.eq_2, show (4 : Int32) * nI i = nI (4 * i) from pk_mul 4 i, en]
    rcases kd_all ok (ck i) hki (ca i 0) (ca i 1) (ca i 2) with ⟨q, code, q1, q2, c1, c2, a, b⟩ | ⟨r, g', ok', a, b, c⟩
    · refine .inr ⟨i, hin, fun V R P => ⟨V, ?_, fun c hc => rfl⟩, fun W hW h4 P => ?_⟩
      · rw [f_X9_run_L65.eq_2, P.1, if_neg np, cx_cAt (by omega), bd_s, om_s, if_pos (by omega), cx_rfK hki (P.2 i hin).1, (cC V P).1, a V R, bd_s, if_pos q2, if_neg (by omega)]
      · obtain ⟨h, k, r, e⟩ := b W hW
        refine ⟨scr (stv W 253 4 (nI code)) h k, ?_, fun d d1 d2 d3 d4 => by rw [scr_n d3 d4, st_n d1], fun j hj => by rw [scr_n (by omega) (by omega), st_e, up_n hj]⟩
        rw [e4, P.1, if_neg np, mm_itK (by omega) hki (P.2 i hin).1, cM W P, e, bd_s, bv_s, if_neg (show ¬ scr (stv W 253 4 (nI code)) h k 253 4 ≤ 0 by rw [scr_n (by omega) (by omega), st_e, up_e]; exact nI_ge (a := 0) c1 (by omega))]
    · have CC : ∀ V, RelS V g → PC V n ck ca → ∃ V1, f_X9_run_L65 j103 j145 (f1 + 1) V (nI i) = f_X9_run_L65 j103 j145 f1 V1 (nI (i + 1)) ∧ RelS V1 g' ∧ FrC V V1 := fun V R P => by
        obtain ⟨V1, e1, R1, F1⟩ := b V R
        refine ⟨V1, ?_, R1, F1⟩
        rw [f_X9_run_L65.eq_2, P.1, if_neg np, cx_cAt (by omega), bd_s, om_s, if_pos (by omega), cx_rfK hki (P.2 i hin).1, (cC V P).1, a V R, bd_s, if_pos (by omega), if_pos rfl, cx_perK hki (P.2 i hin).1, (cC V P).2, e1, bd_s, en]
      have MM : ∀ W : Mem, W 254 = g → W 253 4 = nI 0 → PM W n ck ca → ∃ W1 : Mem, f_X10_run_L118 j140 j184 (f2 + 1) W (nI i) = f_X10_run_L118 j140 j184 f2 W1 (nI (i + 1)) ∧ W1 254 = g' ∧ W1 253 4 = nI 0 ∧ FrM W W1 := fun W hW h4 P => by
        obtain ⟨h, k, e⟩ := c W hW
        have w4 : scr (va_up W 254 g') h k 253 4 = nI 0 := by rw [scr_n (by omega) (by omega), vu_n (by omega)]; exact h4
        refine ⟨scr (va_up W 254 g') h k, ?_, by rw [scr_254, vu_e], w4, fun d d1 d2 d3 d4 => by rw [scr_n d3 d4, vu_n d2], fun j hj => by rw [scr_n (by omega) (by omega), vu_n (by omega)]⟩
        rw [e4, P.1, if_neg np, mm_itK (by omega) hki (P.2 i hin).1, cM W P, e, bd_s, bv_s, if_pos (by rw [w4]; decide)]
      rcases ih (i + 1) g' (by omega) ok' f1 f2 (by omega) (by omega) with ⟨g2, ok2, A, B⟩ | ⟨x, hx, A, B⟩
      · refine .inl ⟨g2, ok2, fun V R P => ?_, fun W hW h4 P => ?_⟩
        · obtain ⟨V1, e1, R1, F1⟩ := CC V R P
          obtain ⟨V2, e2, R2, F2⟩ := A V1 R1 (P.of F1)
          exact ⟨V2, e1.trans e2, R2, F1.tr F2⟩
        · obtain ⟨W1, e1, x1, x2, F1⟩ := MM W hW h4 P
          obtain ⟨W2, e2, y1, y2, F2⟩ := B W1 x1 x2 (P.of F1)
          exact ⟨W2, e1.trans e2, y1, y2, F1.tr F2⟩
      · refine .inr ⟨x, hx, fun V R P => ?_, fun W hW h4 P => ?_⟩
        · obtain ⟨V1, e1, R1, F1⟩ := CC V R P
          obtain ⟨V2, e2, F2⟩ := A V1 R1 (P.of F1)
          exact ⟨V2, e1.trans e2, F1.tr F2⟩
        · obtain ⟨W1, e1, x1, x2, F1⟩ := MM W hW h4 P
          obtain ⟨W2, e2, F2⟩ := B W1 x1 x2 (P.of F1)
          exact ⟨W2, e1.trans e2, F1.tr F2⟩
end EX
