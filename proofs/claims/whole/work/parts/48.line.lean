/-! PURE, 48: the line, both sides -/
def apl (f : Nat → Nat) (l : List Nat) : Nat → List Nat
  | 0 => l
  | k + 1 => apl f l k ++ [f k]
def TxR (V0 V : Mem) (l : List Nat) (k : Nat) : Prop := Txt V 251 40 l ∧ l.length ≤ k ∧ ∀ d, d ≠ 251 → d ≠ 252 → V d = V0 d
def LnR (W0 W : Mem) (l : List Nat) (k : Nat) : Prop := W 253 6 = nI l.length ∧ l.length ≤ k ∧ (∀ j, j < l.length → W 261 j = nI (lg l j)) ∧ (∀ d, d ≠ 253 → d ≠ 261 → d ≠ 259 → d ≠ 260 → W d = W0 d) ∧ ∀ j, j ≠ 6 → W 253 j = W0 253 j
def lv (g : Arr) (r f : Nat) : Nat := (g (2 + 12 * r + 4 + f)).toNatClampNeg
theorem lv_eq {g : Arr} (ok : OKg g) {r f : Nat} (hr : r < cnt g) (hf : f < 8) : g (2 + 12 * r + 4 + f) = nI (lv g r f) ∧ 97 ≤ lv g r f ∧ lv g r f < 128 := by
  obtain ⟨c, c1, c2, c3⟩ := ok_le ok hr hf
  unfold lv
  rw [c3, cl_n (by omega)]; exact ⟨rfl, c1, by omega⟩
def bv8 (g : Arr) (b f : Nat) : Nat := if edt g b f then (g (290 + 9 * b + 1 + f)).toNatClampNeg - 32 else (g (290 + 9 * b + 1 + f)).toNatClampNeg
def ms8 (g : Arr) (b o f : Nat) : Nat := if mgl g b o f = nI 0 then 63 else (mgl g b o f).toNatClampNeg
theorem ms8_lt {g : Arr} (ok : OKg g) {b o f : Nat} (hb : b < bcn g) (ho : o < bcn g) (hf : f < 8) : ms8 g b o f < 128 ∧ (if mgl g b o f = nI 0 then nI 63 else mgl g b o f) = nI (ms8 g b o f) := by
  unfold ms8
  rcases mgl_let ok hb ho hf with q | ⟨c, c1, c2, q⟩
  · rw [if_pos q, if_pos q]; exact ⟨by omega, rfl⟩
  · have n0 : ¬ mgl g b o f = nI 0 := by rw [q]; exact nI_ne0 (by omega) (by omega)
    rw [if_neg n0, if_neg n0, q, cl_n (by omega)]; exact ⟨by omega, rfl⟩
section LN
variable {V0 V : Mem} {g : Arr} {l : List Nat} {k : Nat}
theorem TxR.up {k2 : Nat} (T : TxR V0 V l k) (h : k ≤ k2) : TxR V0 V l k2 := ⟨T.1, Nat.le_trans T.2.1 h, T.2.2⟩
theorem TxR.rel (T : TxR V0 V l k) (R : RelS V0 g) : RelS V g := Rel_lo (fun c hc => T.2.2 c (by omega) (by omega)) R
theorem tr_ch {x : Int32} {c : Nat} (T : TxR V0 V l k) (hk : k < 40) (hc : c < 128) (hx : x = nI c) : ∃ V1, (∀ {β : Type} (K : Mem → Option β), bv (f_J4_append_cf468 V 251 x) K = K V1) ∧ TxR V0 V1 (l ++ [c]) (k + 1) := by
  subst hx
  obtain ⟨t1, t2, t3⟩ := T
  obtain ⟨V1, e, T1, F⟩ := tx_ch t1 (by omega) (by omega) hc
  refine ⟨V1, fun K => by rw [e, bv_s], T1, by rw [len1]; omega, fun d a b => by rw [F d a b, t3 d a b]⟩
theorem dgs_len (n : Nat) : (dgs n).length ≤ 2 := by unfold dgs; split <;> simp
theorem tr_in {n : Nat} (T : TxR V0 V l k) (hk : k + 2 ≤ 40) (hn : n < 100) : ∃ V1, (∀ {β : Type} (K : Mem → Option β), bv (f_J4_append_bf812 V 251 (nI n)) K = K V1) ∧ TxR V0 V1 (l ++ dgs n) (k + 2) := by
  obtain ⟨t1, t2, t3⟩ := T
  obtain ⟨V1, e, T1, F⟩ := tx_in t1 (by omega) (by omega) hn
  have := dgs_len n
  refine ⟨V1, fun K => by rw [e, bv_s], T1, by rw [List.length_append]; omega, fun d a b => by rw [F d a b, t3 d a b]⟩
theorem tr_st {w : Nat} (T : TxR V0 V l k) (hk : k + 2 ≤ 40) (hw : w < 17) (hw2 : 12 < w) : ∃ V1, (∀ {β : Type} (K : Mem → Option β), bv (f_J4_append_15ec4 V 251 w) K = K V1) ∧ TxR V0 V1 (l ++ tws w) (k + 2) := by
  obtain ⟨t1, t2, t3⟩ := T
  obtain ⟨V1, e, T1, F⟩ := tx_st t1 (by omega) (by omega) hw hw2
  have := (tws_ok w hw hw2).1
  refine ⟨V1, fun K => by rw [e, bv_s], T1, by rw [List.length_append]; omega, fun d a b => by rw [F d a b, t3 d a b]⟩
theorem tr_0 (hL : LineI V) : ∃ V1, (∀ {β : Type} (K : Mem → Option β), bv (f_J4_setLength_d00df V 251 0) K = K V1) ∧ TxR V V1 [] 0 := by
  obtain ⟨n, a, b, c, d⟩ := hL
  obtain ⟨l, l1, T, _⟩ := tx_of b c
  obtain ⟨V1, e, T1, F⟩ := tx_clr T
  exact ⟨V1, fun K => by rw [e, bv_s], T1, Nat.le_refl _, F⟩
theorem tr_le {x : Int32} {r f : Nat} (ok : OKg g) (R : RelS V0 g) (T : TxR V0 V l k) (hk : k < 40) (hr : r < cnt g) (hf : f < 8) (hx : x = nI f) : ∃ V1, (∀ {β : Type} (K : Mem → Option β), (bd (f_X6_letterOf V (nI r) x) fun r55 V55 => bv (f_J4_append_cf468 V55 251 ((r55.toUInt32 % 65536).toInt32)) K) = K V1) ∧ TxR V0 V1 (l ++ [lv g r f]) (k + 1) := by
  subst hx
  obtain ⟨z1, z2, z3⟩ := lv_eq ok hr hf
  obtain ⟨V1, e, T1⟩ := tr_ch (x := nI (lv g r f)) T hk z3 rfl
  exact ⟨V1, fun K => by rw [cx_le ok (T.rel R) hr hf, bd_s, z1, cw_n z3, e], T1⟩
theorem bv8_eq {b f : Nat} (ok : OKg g) (hb : b < bcn g) (hf : f < 8) : bv8 g b f < 128 ∧ (if edt g b f then ((g (290 + 9 * b + 1 + f) - 97) + 65) else g (290 + 9 * b + 1 + f)) = nI (bv8 g b f) ∧ g (290 + 9 * b + 1 + f) - (if edt g b f then nI 32 else nI 0) = nI (bv8 g b f) := by
  obtain ⟨c, c1, c2, c3⟩ := ok_wk ok hb hf
  unfold bv8
  rw [c3, cl_n (by omega)]
  cases edt g b f
  · exact ⟨by simp only [Bool.false_eq_true, if_false]; omega, rfl, sub_n (a := c) (b := 0) (by omega)⟩
  · refine ⟨by simp only [if_true]; omega, ?_, sub_n (a := c) (b := 32) (by omega)⟩
    show nI c - nI 97 + nI 65 = nI (c - 32)
    rw [sub_n (by omega), nI_add]
    congr 1; omega
theorem tr_br {x : Int32} {b f : Nat} (ok : OKg g) (R : RelS V0 g) (T : TxR V0 V l k) (hk : k < 40) (hb : b < bcn g) (hf : f < 8) (hx : x = nI f) : ∃ V1, (∀ {β : Type} (K : Mem → Option β), (bd (f_X8_workingLetter V (nI b) x) fun r62 V62 => bd (f_X8_differsFromHead V62 (nI b) x) fun r76 V76 => jn (α := Mem → Int32 → Option β) (fun j93 => if r76 = 0 then j93 V76 r62 else j93 V76 ((r62 - 97) + 65)) (fun (V93 : Mem) (s0_93 : Int32) => bv (f_J4_append_cf468 V93 251 (((s0_93 : Int32).toUInt32 % 65536).toInt32)) K)) = K V1) ∧ TxR V0 V1 (l ++ [bv8 g b f]) (k + 1) := by
  subst hx
  obtain ⟨z1, z2, _⟩ := bv8_eq ok hb hf
  obtain ⟨V1, e, T1⟩ := tr_ch (x := nI (bv8 g b f)) T hk z1 rfl
  refine ⟨V1, fun K => ?_, T1⟩
  rw [cx_wk ok (T.rel R) hb hf, bd_s, cx_df ok (T.rel R) hb hf, bd_s, jn_d]
  cases q : edt g b f
  · rw [q, if_neg (by decide)] at z2
    rw [if_pos (show (if false = true then nI 1 else nI 0) = 0 by decide), z2]
    show bv (f_J4_append_cf468 V 251 (((nI (bv8 g b f)).toUInt32 % 65536).toInt32)) K = _
    rw [cw_n z1, e]
  · rw [q, if_pos rfl] at z2
    rw [if_pos rfl, if_neg (by decide), z2]
    show bv (f_J4_append_cf468 V 251 (((nI (bv8 g b f)).toUInt32 % 65536).toInt32)) K = _
    rw [cw_n z1, e]
theorem tr_me {x : Int32} {b o f : Nat} (ok : OKg g) (R : RelS V0 g) (T : TxR V0 V l k) (hk : k < 40) (hb : b < bcn g) (ho : o < bcn g) (hf : f < 8) (hx : x = nI f) : ∃ V1, (∀ {β : Type} (K : Mem → Option β), (bd (f_X8_mergedSign V (nI b) (nI o) x) fun r33 V33 => bv (f_J4_append_cf468 V33 251 (((r33 : Int32).toUInt32 % 65536).toInt32)) K) = K V1) ∧ TxR V0 V1 (l ++ [ms8 g b o f]) (k + 1) := by
  subst hx
  obtain ⟨z1, z2⟩ := ms8_lt ok hb ho hf
  obtain ⟨V1, e, T1⟩ := tr_ch (x := nI (ms8 g b o f)) T hk z1 rfl
  exact ⟨V1, fun K => by rw [cx_ms ok (T.rel R) hb ho hf, bd_s, z2, cw_n z1, e], T1⟩
/-! the reference's line -/
variable {W0 W : Mem}
theorem LnR.up {k2 : Nat} (T : LnR W0 W l k) (h : k ≤ k2) : LnR W0 W l k2 := ⟨T.1, Nat.le_trans T.2.1 h, T.2.2⟩
theorem LnR.g4 (T : LnR W0 W l k) : W 254 = W0 254 := T.2.2.2.1 254 (by omega) (by omega) (by omega) (by omega)
theorem LnR.scr {h h2 : Arr} (T : LnR W0 W l k) : LnR W0 (scr W h h2) l k := by
  obtain ⟨a, b, c, d, e⟩ := T
  refine ⟨by rw [scr_n (by omega) (by omega)]; exact a, b, fun j hj => by rw [scr_n (by omega) (by omega)]; exact c j hj, fun x x1 x2 x3 x4 => by rw [scr_n x3 x4]; exact d x x1 x2 x3 x4, fun j hj => by rw [scr_n (by omega) (by omega)]; exact e j hj⟩
theorem mr_0 : LnR W0 (stv W0 253 6 0) [] 0 := ⟨by rw [st_e, up_e]; rfl, Nat.le_refl _, fun j hj => absurd hj (Nat.not_lt_zero _), fun d a b c e => st_n a, fun j hj => by rw [st_e, up_n hj]⟩
theorem mr_ch {x : Int32} {c : Nat} (T : LnR W0 W l k) (hk : k < 40) (hx : x = nI c) : ∃ W1, (∀ {β : Type} (K : Mem → Option β), bv (f_X10_sign W x) K = K W1) ∧ LnR W0 W1 (l ++ [c]) (k + 1) := by
  subst hx
  obtain ⟨t1, t2, t3, t4, t5⟩ := T
  refine ⟨stv (stv W 261 l.length (nI c)) 253 6 (nI (l.length + 1)), fun K => ?_, ?_, by rw [len1]; omega, fun j hj => ?_, fun d a b x y => by rw [st_n a, st_n b]; exact t4 d a b x y, fun j hj => by rw [st_e, up_n hj, st_n (by omega)]; exact t5 j hj⟩
  · unfold f_X10_sign
    rw [t1, if_pos (by rw [ib_T (by omega) (by omega)]; trivial), cl_n (by omega), lt_d, st_n (by omega), t1, show nI l.length + 1 = nI (l.length + 1) from nI_1 _, lt_d, bv_s]
  · rw [st_e, up_e, len1]
  · rw [len1] at hj
    rw [st_n (by omega), st_e]
    by_cases q : j = l.length
    · subst q; rw [up_e, lg_r (Nat.le_refl _), Nat.sub_self]; rfl
    · rw [up_n q, t3 j (by omega), lg_l (by omega)]
theorem mr_2 {x y : Int32} {c d : Nat} (T : LnR W0 W l k) (hk : k + 2 ≤ 40) (hx : x = nI c) (hy : y = nI d) : ∃ W1, (∀ {β : Type} (K : Mem → Option β), (bv (f_X10_sign W x) fun V1 => bv (f_X10_sign V1 y) K) = K W1) ∧ LnR W0 W1 (l ++ [c, d]) (k + 2) := by
  obtain ⟨W1, e1, T1⟩ := mr_ch T (by omega) hx
  obtain ⟨W2, e2, T2⟩ := mr_ch T1 (by omega) hy
  refine ⟨W2, fun K => by rw [e1, e2], ?_⟩
  rw [show l ++ [c, d] = (l ++ [c]) ++ [d] by simp]; exact T2
theorem wn_n : ∀ {n : Nat}, n < 100 → (nI n ≤ 9 ↔ n < 10) ∧ 48 + (nI n / 10) = nI (48 + n / 10) ∧ 48 + (nI n - nI n / 10 * 10) = nI (48 + n % 10) := fun {n} h => (by decide +kernel : ∀ n, n < 100 → (nI n ≤ 9 ↔ n < 10) ∧ 48 + (nI n / 10) = nI (48 + n / 10) ∧ 48 + (nI n - nI n / 10 * 10) = nI (48 + n % 10)) n h
theorem mr_in {n : Nat} (T : LnR W0 W l k) (hk : k + 2 ≤ 40) (hn : n < 100) : ∃ W1, (∀ {β : Type} (K : Mem → Option β), bv (f_X10_writesNumber W (nI n)) K = K W1) ∧ LnR W0 W1 (l ++ dgs n) (k + 2) := by
  obtain ⟨z1, z2, z3⟩ := wn_n hn
  rcases Nat.lt_or_ge n 10 with q | q
  · obtain ⟨W1, e1, T1⟩ := mr_ch (x := nI (48 + n % 10)) (c := 48 + n) T (by omega) (by rw [Nat.mod_eq_of_lt q])
    refine ⟨W1, fun K => ?_, by rw [dgs_lo q]; exact T1.up (by omega)⟩
    unfold f_X10_writesNumber
    rw [jn_d, if_pos (z1.mpr q)]
    show bv (bv (f_X10_sign W (48 + (nI n - nI n / 10 * 10))) _) K = _
    rw [z3, e1, bv_s]
  · obtain ⟨W1, e1, T1⟩ := mr_ch (x := nI (48 + n / 10)) (c := 48 + n / 10) T (by omega) rfl
    obtain ⟨W2, e2, T2⟩ := mr_ch (x := nI (48 + n % 10)) (c := 48 + n % 10) T1 (by omega) rfl
    refine ⟨W2, fun K => ?_, by rw [dgs_hi q, show l ++ [48 + n / 10, 48 + n % 10] = (l ++ [48 + n / 10]) ++ [48 + n % 10] by simp]; exact T2⟩
    unfold f_X10_writesNumber
    rw [jn_d, if_neg (by rw [z1]; omega), z2, e1]
    show bv (bv (f_X10_sign W1 (48 + (nI n - nI n / 10 * 10))) _) K = _
    rw [z3, e2, bv_s]
theorem mr_lp {β : Type} {f : Nat → Nat} {kk : Nat} (L : Nat → Mem → Int32 → Option β) (j : Mem → Option β) (h0 : ∀ n W, L (n + 1) W (nI 8) = j W) (h1 : ∀ n W k, k < 8 → LnR W0 W (apl f l k) (kk + k) → ∃ W1, L (n + 1) W (nI k) = L n W1 (nI (k + 1)) ∧ LnR W0 W1 (apl f l (k + 1)) (kk + (k + 1))) (T : LnR W0 W l kk) : ∃ W1, L FU W 0 = j W1 ∧ LnR W0 W1 (apl f l 8) (kk + 8) := by
  have key : ∀ m k n W, k + m = 8 → m < n → LnR W0 W (apl f l k) (kk + k) → ∃ W1, L n W (nI k) = j W1 ∧ LnR W0 W1 (apl f l 8) (kk + 8) := by
    intro m
    induction m with
    | zero =>
      intro k n W hk hn T
      obtain ⟨n, rfl⟩ : ∃ n', n = n' + 1 := ⟨n - 1, by omega⟩
      obtain rfl : k = 8 := by omega
      exact ⟨W, h0 n W, T⟩
    | succ m ih =>
      intro k n W hk hn T
      obtain ⟨n, rfl⟩ : ∃ n', n = n' + 1 := ⟨n - 1, by omega⟩
      obtain ⟨W1, e1, T1⟩ := h1 n W k (by omega) T
      obtain ⟨W2, e2, T2⟩ := ih (k + 1) n W1 (by omega) (by omega) T1
      exact ⟨W2, e1.trans e2, T2⟩
  exact key 8 0 FU W rfl (by decide) T
end LN
section QN
variable {V : Mem}
theorem q_L {cl : Option (Int32 × Mem)} {md : Mem → Option (Int32 × Mem)} {l : List Nat} {V2 : Mem} (I : Inv V) (hcl : cl = some (nI 0, stv V2 265 0 (nI l.length))) (T : TxR V V2 l 40) (hmd : ∀ W, W 254 = V 254 → ∃ W', md W = some (nI l.length, W') ∧ LnR (U0 W) W' l 40) : StepR V cl md := by
  obtain ⟨⟨ok, R⟩, hi, sv, er, li, ip, co⟩ := I
  obtain ⟨X, e, t1, t2, t3, t4, t5⟩ := hmd (stv V2 265 0 (nI l.length)) (by rw [st_n (by omega)]; exact T.2.2 254 (by omega) (by omega))
  obtain ⟨T1, _, F⟩ := T
  have y : ∀ d, d ≠ 253 → d ≠ 261 → d ≠ 259 → d ≠ 260 → d ≠ 265 → X d = V2 d := fun d a b c e f => by rw [t4 d a b c e, U0_n a, st_n f]
  have z : ∀ d, d ≠ 253 → d ≠ 261 → d ≠ 259 → d ≠ 260 → d ≠ 265 → d ≠ 251 → d ≠ 252 → X d = V d := fun d a b c e f g h => by rw [y d a b c e f, F d g h]
  have y253 : ∀ j, j ≠ 6 → j ≠ 4 → X 253 j = V 253 j := fun j a b => by rw [t5 j a]; unfold U0; rw [st_e, up_n b, st_n (by omega), F 253 (by omega) (by omega)]
  refine ⟨nI 0, _, nI l.length, X, hcl, e, by rw [t5 4 (by omega), U0_4], fun _ => by rw [t4 265 (by omega) (by omega) (by omega) (by omega), U0_n (by omega), st_e, up_e], ⟨?_, ?_⟩, ?_, ?_, ?_, ?_, ?_, ?_⟩
  · rw [z 254 (by omega) (by omega) (by omega) (by omega) (by omega) (by omega) (by omega)]; exact ok
  · rw [z 254 (by omega) (by omega) (by omega) (by omega) (by omega) (by omega) (by omega)]
    exact Rel_lo (fun c hc => z c (by omega) (by omega) (by omega) (by omega) (by omega) (by omega) (by omega)) R
  · exact hi.of (z 220 (by omega) (by omega) (by omega) (by omega) (by omega) (by omega) (by omega)) (y253 1 (by omega) (by omega)) (z 257 (by omega) (by omega) (by omega) (by omega) (by omega) (by omega) (by omega)) (fun c a b => z c (by omega) (by omega) (by omega) (by omega) (by omega) (by omega) (by omega))
  · exact sv.of (by rw [z 248 (by omega) (by omega) (by omega) (by omega) (by omega) (by omega) (by omega)]) (y253 0 (by omega) (by omega)) (z 256 (by omega) (by omega) (by omega) (by omega) (by omega) (by omega) (by omega)) (fun c a b => z c (by omega) (by omega) (by omega) (by omega) (by omega) (by omega) (by omega))
  · exact er.of (z 248 (by omega) (by omega) (by omega) (by omega) (by omega) (by omega) (by omega)) (y253 2 (by omega) (by omega)) (y253 3 (by omega) (by omega))
  · obtain ⟨b1, b2⟩ := tx_B T1
    have x1 := y 251 (by omega) (by omega) (by omega) (by omega) (by omega)
    have x2 := y 252 (by omega) (by omega) (by omega) (by omega) (by omega)
    refine ⟨l.length, t1, by rw [x1]; exact T1.1, ?_, fun j hj => by rw [x2, t3 j hj]; exact b2 j hj⟩
    obtain ⟨c1, cap, c2, c3, c4, c5⟩ := b1
    exact ⟨c1, cap, c2, c3, by rw [x2]; exact c4, fun j hj => by rw [x2]; exact c5 j hj⟩
  · exact ip.of (y253 5 (by omega) (by omega)) (z 249 (by omega) (by omega) (by omega) (by omega) (by omega) (by omega) (by omega)) (z 250 (by omega) (by omega) (by omega) (by omega) (by omega) (by omega) (by omega)) (z 258 (by omega) (by omega) (by omega) (by omega) (by omega) (by omega) (by omega))
  · exact co.of (z 262 (by omega) (by omega) (by omega) (by omega) (by omega) (by omega) (by omega)) (z 263 (by omega) (by omega) (by omega) (by omega) (by omega) (by omega) (by omega))
end QN
