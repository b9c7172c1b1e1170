/-! PURE, 58: the reference chooses a keyword -/
theorem bg_ok : ∀ k, k < 13 → V0beg (k + 1) - V0beg k = nI (kwK k).length ∧ ∀ t, t < 8 → t < (kwK k).length → ib (V0beg k + nI t) 78 = true ∧ V0let (V0beg k + nI t).toNatClampNeg = nI (lg (kwK k) t) ∧ (V0beg k + nI t).toNatClampNeg < 78 ∧ lg (kwK k) t < 128 := by decide +kernel
section MR
variable {W0 W : Mem} {l : List Nat} {o : Nat}
theorem ml_like {k p : Nat} (T : MTx W l) (hk : k < 13) (h : W 253 8 = nI p) (hp : p ≤ l.length) : f_X10_likeness W (nI k) = some (nI (lkK l p k), W) := by
  obtain ⟨a, b, c, d, ⟨e1, e2⟩⟩ := T
  obtain ⟨g1, g2⟩ := bg_ok k hk
  have gl := kw_len k hk
  have hle := lkl_le l (kwK k) p
  have b1 : ib (nI k) 14 = true := by rw [ib_T (by omega) (by omega)]; trivial
  unfold f_X10_likeness
  rw [show nI k + 1 = nI (k + 1) from nI_1 _, if_pos (by rw [ib_T (by omega) (by omega)]; trivial), if_pos b1, cl_n (by omega), cl_n (by omega), e2 k (by omega), e2 (k + 1) (by omega), g1]
  have key : ∀ (m t n : Nat), t + m = lkK l p k → m < n → f_X10_likeness_L18 (nI k) (nI (kwK k).length) n W (nI t) = some (nI (lkK l p k), W) := by
    intro m
    induction m with
    | zero =>
      intro t n ht hn
      obtain ⟨n, rfl⟩ : ∃ n', n = n' + 1 := ⟨n - 1, by omega⟩
      rw [f_X10_likeness_L18.eq_2]
      unfold lkK at ht ⊢
      by_cases q : (kwK k).length ≤ t
      · rw [if_pos (nI_le q (by omega)), show t = lkl l (kwK k) p by omega]
      · have no := lkl_no l (kwK k) p (by omega)
        obtain ⟨z1, z2, z3, z4⟩ := g2 t (by omega) (by omega)
        rw [if_neg (nI_ge (by omega) (by omega)), h, nI_add, a]
        by_cases q2 : l.length ≤ p + t
        · rw [if_pos (nI_le q2 (by omega)), show t = lkl l (kwK k) p by omega]
        · have hd := d (p + t) (by omega)
          rw [if_neg (nI_ge (by omega) (by omega)), if_pos (by rw [ib_T (by omega) (by omega)]; trivial), if_pos b1, cl_n (by omega), cl_n (by omega), e2 k (by omega), if_pos z1, e1 _ z3, z2, c (p + t) (by omega), if_neg (fun y => by
            have y := (nI_eq (by omega) (by omega)).mp y
            rw [show lkl l (kwK k) p = t by omega] at no
            exact rng_F no ⟨by omega, by omega, by omega⟩), show t = lkl l (kwK k) p by omega]
    | succ m ih =>
      intro t n ht hn
      obtain ⟨n, rfl⟩ : ∃ n', n = n' + 1 := ⟨n - 1, by omega⟩
      have := ih (t + 1) n (by omega) (by omega)
      unfold lkK at ht
      obtain ⟨y1, y2⟩ := lkl_at l (kwK k) p t (by omega)
      obtain ⟨z1, z2, z3, z4⟩ := g2 t (by omega) (by omega)
      rw [f_X10_likeness_L18.eq_2, if_neg (nI_ge (by omega) (by omega)), h, nI_add, a, if_neg (nI_ge (by omega) (by omega)), if_pos (by rw [ib_T (by omega) (by omega)]; trivial), if_pos b1, cl_n (by omega), cl_n (by omega), e2 k (by omega), if_pos z1, e1 _ z3, z2, c (p + t) y1, y2, if_pos rfl, show nI t + 1 = nI (t + 1) from nI_1 _]
      exact this
  exact key (lkK l p k) 0 FU (by omega) (by unfold FU lkK; omega)
theorem ml_bst {p : Nat} {x1 : Int32} {j : Mem → Int32 → Int32 → Option Mem} (T : MTx W l) (h : W 253 8 = nI p) (hp : p ≤ l.length) : f_X10_readCommand_L11 x1 j FU W 0 1 = j W x1 (nI (kbK l p)) := by
  have ll : ∀ k, k < 13 → lkK l p k ≤ 7 := fun k hk => Nat.le_trans (lkl_le l (kwK k) p) (kw_len k hk).2.1
  refine lp_run 12 (fun n i => f_X10_readCommand_L11 x1 j n W (nI (bst l p i)) (nI (i + 1))) _ ?_ ?_ (n := FU) (k := 0) (by omega) (by decide)
  · intro n
    rw [f_X10_readCommand_L11.eq_2, if_pos (show (13 : Int32) ≤ nI (12 + 1) by decide)]; rfl
  · intro n i hi
    have hb := (bst_le l p i).1
    have l1 := ll (i + 1) (by omega)
    have l2 := ll (bst l p i) (by omega)
    rw [f_X10_readCommand_L11.eq_2, if_neg (show ¬ (13 : Int32) ≤ nI (i + 1) from nI_ge (a := i + 1) (b := 13) (by omega) (by omega)), ml_like T (show i + 1 < 13 by omega) h hp, bd_s, ml_like T (show bst l p i < 13 by omega) h hp, bd_s, jn_d, show nI (i + 1) + 1 = nI (i + 1 + 1) from nI_1 _]
    show (if nI (lkK l p (i + 1)) ≤ nI (lkK l p (bst l p i)) then f_X10_readCommand_L11 x1 j n W (nI (bst l p i)) (nI (i + 1 + 1)) else f_X10_readCommand_L11 x1 j n W (nI (i + 1)) (nI (i + 1 + 1))) = f_X10_readCommand_L11 x1 j n W (nI (if lkK l p (i + 1) ≤ lkK l p (bst l p i) then bst l p i else i + 1)) (nI (i + 1 + 1))
    by_cases q : lkK l p (i + 1) ≤ lkK l p (bst l p i)
    · rw [if_pos q, if_pos (nI_le q (by omega))]
    · rw [if_neg q, if_neg (nI_ge (by omega) (by omega))]
theorem ml_cmd {p c : Nat} (T : MTx W l) (h : W 253 8 = nI p) (h10 : W 253 10 = nI 0) (h7 : W 253 7 = nI c) (hp : p ≤ l.length) (hc : c < 8) : ∃ W1, f_X10_readCommand W = some W1 ∧ FrP (4 * c) W W1 ∧ W1 253 8 = nI (cmd l p).2.1 ∧ W1 253 10 = (if (cmd l p).1 = true then nI 0 else nI 1) ∧ ((cmd l p).1 = true → W1 253 7 = nI (c + 1) ∧ W1 264 (4 * c) = nI (kbK l p) ∧ ∀ j, j < (cmd l p).2.2.length → W1 264 (4 * c + 1 + j) = nI (lg (cmd l p).2.2 j)) := by
  have hkb := kb_lt l p
  have hb14 : ib (nI (kbK l p)) 14 = true := by rw [ib_T (by omega) (by omega)]; trivial
  obtain ⟨g1, _⟩ := bg_ok (kbK l p) hkb
  have gl := kw_len (kbK l p) hkb
  have hle := lkl_le l (kwK (kbK l p)) p
  have hle : lkK l p (kbK l p) ≤ (kwK (kbK l p)).length := hle
  have hM := T.2.1
  have hpl : p + lkK l p (kbK l p) ≤ l.length := by
    rcases Nat.eq_zero_or_pos (lkK l p (kbK l p)) with z | z
    · omega
    · have := (lkl_at l (kwK (kbK l p)) p (lkK l p (kbK l p) - 1) (by unfold lkK at z ⊢; omega)).1; omega
  unfold f_X10_readCommand
  rw [jn_d, h7, show (4 : Int32) * nI c = nI (4 * c) from pk_mul 4 c]
  rw [ml_bst T h hp]
  show ∃ W1, (bd (f_X10_likeness W (nI (kbK l p))) _) = some W1 ∧ _
  rw [ml_like T hkb h hp, bd_s, h, nI_add, lt_d, show nI (kbK l p) + 1 = nI (kbK l p + 1) from nI_1 _, if_pos (by rw [ib_T (by omega) (by omega)]; trivial), if_pos hb14, jn_d, cl_n (by omega), cl_n (by omega), st_n (by omega), T.2.2.2.2.2 (kbK l p) (by omega), T.2.2.2.2.2 (kbK l p + 1) (by omega), g1]
  have ec : cmd l p = if lkK l p (kbK l p) = (kwK (kbK l p)).length then rdf l (arK (kbK l p)) (true, p + (kwK (kbK l p)).length, []) else (false, p + lkK l p (kbK l p), []) := rdf_fr hkb
  rw [ec]
  by_cases q : lkK l p (kbK l p) = (kwK (kbK l p)).length
  · rw [if_pos q, q, if_pos (nI_le (Nat.le_refl _) (by omega))]
    show ∃ W1, (if (0 : Int32) = 0 ∨ (0 : Int32) = 1 then _ else _) = some W1 ∧ _
    generalize hX : stv (stv (stv (stv W 253 8 (nI (p + (kwK (kbK l p)).length))) 253 10 (nI 0)) 264 (4 * c) (nI (kbK l p))) 253 7 (nI (c + 1)) = X
    have x8 : X 253 8 = nI (p + (kwK (kbK l p)).length) := by rw [← hX, st_e, up_n (by omega), st_n (by omega), st_e, up_n (by omega), st_e, up_e]
    have x10 : X 253 10 = nI 0 := by rw [← hX, st_e, up_n (by omega), st_n (by omega), st_e, up_e]
    have x7 : X 253 7 = nI (c + 1) := by rw [← hX, st_e, up_e]
    have x264 : X 264 (4 * c) = nI (kbK l p) := by rw [← hX, st_n (by omega), st_e, up_e]
    have fX : FrP (4 * c) W X := ⟨fun d d1 d2 => by rw [← hX, st_n d1, st_n d2, st_n d1, st_n d1], fun j j1 j2 j3 => by rw [← hX, st_e, up_n j1, st_n (by omega), st_e, up_n j3, st_e, up_n j2], fun i hi => by rw [← hX, st_n (by omega), st_e, up_n (by omega), st_n (by omega), st_n (by omega)]⟩
    have M0 : MS X X (4 * c + 1) (true, p + (kwK (kbK l p)).length, []) := ⟨x8, by rw [x10]; rfl, fun _ j hj => absurd hj (Nat.not_lt_zero _), FrP.rf, rfl⟩
    obtain ⟨W1, e1, M1⟩ := ml_args (T.of fX) hkb M0 (by show p + (kwK (kbK l p)).length ≤ l.length; omega) rfl (by omega)
    refine ⟨W1, ?_, fX.tr (M1.2.2.2.1.dn (by omega)), M1.1, M1.2.1, fun z => ⟨by rw [M1.2.2.2.2, x7], by rw [M1.2.2.2.1.2.2 (4 * c) (by omega), x264], fun j hj => M1.2.2.1 z j hj⟩⟩
    rw [if_pos (.inl rfl), show (0 : Int32) = nI 0 from rfl, lt_d, if_pos (show stv (stv W 253 8 (nI (p + (kwK (kbK l p)).length))) 253 10 (nI 0) 253 10 = nI 0 by rw [st_e, up_e]), if_pos (by rw [ib_T (by omega) (by omega)]; trivial), cl_n (by omega), lt_d, show (stv (stv (stv W 253 8 (nI (p + (kwK (kbK l p)).length))) 253 10 (nI 0)) 264 (4 * c) (nI (kbK l p)) 253 7) + 1 = nI (c + 1) by rw [st_n (by omega), st_e, up_n (by omega), st_e, up_n (by omega), h7]; exact nI_1 _, lt_d, hX, show nI (4 * c) + 1 = nI (4 * c + 1) from nI_1 _, e1, bv_s]
  · rw [if_neg q, if_neg (nI_ge (by omega) (by omega))]
    show ∃ W1, (if (1 : Int32) = 0 ∨ (1 : Int32) = 1 then _ else _) = some W1 ∧ _
    refine ⟨stv (stv W 253 8 (nI (p + lkK l p (kbK l p)))) 253 10 (nI 1), ?_, ⟨fun d d1 d2 => by rw [st_n d1, st_n d1], fun j j1 j2 j3 => by rw [st_e, up_n j3, st_e, up_n j2], fun i hi => by rw [st_n (by omega), st_n (by omega)]⟩, by rw [st_e, up_n (by omega), st_e, up_e], by rw [st_e, up_e]; rfl, fun z => Bool.noConfusion z⟩
    rw [if_pos (.inr rfl), show (1 : Int32) = nI 1 from rfl, lt_d, if_neg (show ¬ stv (stv W 253 8 (nI (p + lkK l p (kbK l p)))) 253 10 (nI 1) 253 10 = 0 by rw [st_e, up_e]; decide)]
end MR
