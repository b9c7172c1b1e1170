/-! PURE, 56: the reference reads a command -/
def MTx (W : Mem) (l : List Nat) : Prop := W 253 9 = nI l.length ∧ l.length ≤ 60 ∧ (∀ j, j < l.length → W 258 j = nI (lg l j)) ∧ (∀ j, j < l.length → lg l j < 128) ∧ ConsI W
def FrP (o : Nat) (W W' : Mem) : Prop := (∀ d, d ≠ 253 → d ≠ 264 → W' d = W d) ∧ (∀ j, j ≠ 7 → j ≠ 8 → j ≠ 10 → W' 253 j = W 253 j) ∧ ∀ i, i < o → W' 264 i = W 264 i
theorem FrP.rf {o : Nat} {W : Mem} : FrP o W W := ⟨fun _ _ _ => rfl, fun _ _ _ _ => rfl, fun _ _ => rfl⟩
theorem FrP.tr {o : Nat} {W W1 W2 : Mem} (h : FrP o W W1) (h2 : FrP o W1 W2) : FrP o W W2 := ⟨fun d a b => (h2.1 d a b).trans (h.1 d a b), fun j a b c => (h2.2.1 j a b c).trans (h.2.1 j a b c), fun i hi => (h2.2.2 i hi).trans (h.2.2 i hi)⟩
theorem FrP.dn {o o2 : Nat} {W W1 : Mem} (h : FrP o W W1) (ho : o2 ≤ o) : FrP o2 W W1 := ⟨h.1, h.2.1, fun i hi => h.2.2 i (by omega)⟩
theorem MTx.of {o : Nat} {W W' : Mem} {l : List Nat} (h : MTx W l) (f : FrP o W W') : MTx W' l := by
  obtain ⟨a, b, c, d, e⟩ := h
  refine ⟨by rw [f.2.1 9 (by omega) (by omega) (by omega)]; exact a, b, fun j hj => by rw [f.1 258 (by omega) (by omega)]; exact c j hj, d, e.of (f.1 262 (by omega) (by omega)) (f.1 263 (by omega) (by omega))⟩
/-- while the arguments are read -/
def MS (W0 W : Mem) (o : Nat) (s : PSt) : Prop := W 253 8 = nI s.2.1 ∧ W 253 10 = (if s.1 = true then nI 0 else nI 1) ∧ (s.1 = true → ∀ j, j < s.2.2.length → W 264 (o + j) = nI (lg s.2.2 j)) ∧ FrP o W0 W ∧ W 253 7 = W0 253 7
def ons (l : List Nat) (a b : Nat) (s : PSt) : PSt := if s.1 = false then s else if rng l s.2.1 a b = true then (true, s.2.1 + 1, s.2.2) else (false, s.2)
section MP
variable {W0 W : Mem} {l : List Nat} {o : Nat} {s : PSt}
theorem MS.tx (h : MS W0 W o s) (T : MTx W0 l) : MTx W l := T.of h.2.2.2.1
theorem ml_here {p : Nat} (T : MTx W l) (h : W 253 8 = nI p) (hp : p ≤ l.length) : f_X10_here W = some (sg l p, W) := by
  obtain ⟨a, b, c, d, e⟩ := T
  unfold f_X10_here
  rw [a, h]
  rcases Nat.lt_or_ge p l.length with q | q
  · rw [if_neg (nI_ge q (by omega)), if_pos (by rw [ib_T (by omega) (by omega)]; trivial), cl_n (by omega), c p q, sg_T q]
  · rw [if_pos (nI_le q (by omega)), sg_N q]; rfl
theorem ml_in {p a b : Nat} (hl : ∀ j, j < l.length → lg l j < 128) (ha : a < 128) (hb : b < 128) : f_X10_in W (sg l p).toInt64 (nI a).toInt64 (nI b).toInt64 = some (if rng l p a b = true then nI 1 else nI 0, W) := by
  by_cases q : rng l p a b = true
  · obtain ⟨z1, z2, z3⟩ := rng_T q
    have := hl p z1
    rw [if_pos q, sg_T z1]
    exact sm_in_T W (a := nI (lg l p)) (b := nI a) (c := nI b) rfl rfl rfl (nI_le z2 (by omega)) (nI_le z3 (by omega))
  · rw [if_neg q]
    refine sm_in_F W (a := sg l p) (b := nI a) (c := nI b) rfl rfl rfl ?_
    by_cases q1 : sg l p < nI a
    · exact .inl q1
    · by_cases q2 : nI b < sg l p
      · exact .inr q2
      · exact absurd (rg_in hl hb ha q1 q2) q
theorem ml_one {a b : Nat} {x y : Int32} (T : MTx W0 l) (h : MS W0 W o s) (hp : s.2.1 ≤ l.length) (ha : a < 128) (hb : b < 128) (hx : x = nI a) (hy : y = nI b) : ∃ v W1, f_X10_one W x y = some (v, W1) ∧ MS W0 W1 o (ons l a b s) ∧ ((ons l a b s).1 = true → v = nI (lg l s.2.1)) := by
  subst hx hy
  have T1 := h.tx T
  obtain ⟨h8, h10, h264, f, h7⟩ := h
  have hl := T.2.2.2.1
  have fr : ∀ (z : Int32) (q : Nat), FrP o W0 (stv (stv W 253 10 z) 253 8 (nI q)) := fun z q => f.tr ⟨fun d d1 d2 => by rw [st_n d1, st_n d1], fun j j1 j2 j3 => by rw [st_e, up_n j2, st_e, up_n j3], fun i hi => by rw [st_n (by omega), st_n (by omega)]⟩
  have no : ∀ {V1 : Mem}, V1 253 8 = nI s.2.1 → V1 253 10 = nI 1 → (jn (α := Mem → Int32 → Option (Int32 × Mem)) (fun j46 => if (V1 253 10) = 0 then bd (f_X10_here V1) fun r43 V43 => j46 V43 r43 else j46 V1 0) (fun (V46 : Mem) (s0_46 : Int32) => jn (α := Mem → Int32 → Option (Int32 × Mem)) (fun j64 => if (V46 253 10) = 0 then j64 V46 1 else j64 V46 0) (fun (V64 : Mem) (s0_64 : Int32) => lt (stv V64 253 8 ((V46 253 8) + s0_64)) fun V65 => some (s0_46, V65)))) = some (0, stv V1 253 8 (nI s.2.1)) := fun {V1} e8 e10 => by
    rw [jn_d, e10, if_neg (by decide)]
    show jn _ _ = _
    rw [jn_d, e10, if_neg (by decide)]
    show lt (stv V1 253 8 (V1 253 8 + 0)) _ = _
    rw [e8, show nI s.2.1 + (0 : Int32) = nI (s.2.1 + 0) from nI_add _ 0, lt_d]; rfl
  by_cases h1 : s.1 = true
  · rw [if_pos h1] at h10
    by_cases q : rng l s.2.1 a b = true
    · have ep : ons l a b s = (true, s.2.1 + 1, s.2.2) := by unfold ons; rw [if_neg (by rw [h1]; decide), if_pos q]
      have q1 := (rng_T q).1
      refine ⟨nI (lg l s.2.1), stv (stv W 253 10 (nI 0)) 253 8 (nI (s.2.1 + 1)), ?_, ?_, fun _ => rfl⟩
      · unfold f_X10_one
        rw [jn_d, jn_d, if_pos (show W 253 10 = 0 from h10), ml_here T1 h8 hp, bd_s, ml_in hl ha hb, bd_s, if_pos q, if_neg (show ¬ nI 1 = (0 : Int32) by decide)]
        show (if (0 : Int32) = 0 ∨ (0 : Int32) = 1 then _ else _) = _
        have T2 : MTx (stv W 253 10 (nI 0)) l := T1.of (o := 0) ⟨fun d d1 d2 => st_n d1, fun j j1 j2 j3 => by rw [st_e, up_n j3], fun i hi => absurd hi (Nat.not_lt_zero _)⟩
        rw [if_pos (.inl rfl), show (0 : Int32) = nI 0 from rfl, lt_d, jn_d, if_pos (show stv W 253 10 (nI 0) 253 10 = nI 0 by rw [st_e, up_e]), ml_here T2 (by rw [st_e, up_n (by omega)]; exact h8) hp, bd_s]
        show jn _ _ = _
        rw [jn_d, if_pos (show stv W 253 10 (nI 0) 253 10 = nI 0 by rw [st_e, up_e])]
        show lt (stv (stv W 253 10 (nI 0)) 253 8 (stv W 253 10 (nI 0) 253 8 + 1)) _ = _
        rw [show stv W 253 10 (nI 0) 253 8 = nI s.2.1 by rw [st_e, up_n (by omega)]; exact h8, show nI s.2.1 + 1 = nI (s.2.1 + 1) from nI_1 _, lt_d, sg_T q1]
      · rw [ep]
        exact ⟨by rw [st_e, up_e], by rw [st_e, up_n (by omega), st_e, up_e]; rfl, fun _ j hj => by rw [st_n (by omega), st_n (by omega)]; exact h264 h1 j hj, fr _ _, by rw [st_e, up_n (by omega), st_e, up_n (by omega)]; exact h7⟩
    · have ep : ons l a b s = (false, s.2) := by unfold ons; rw [if_neg (by rw [h1]; decide), if_neg q]
      refine ⟨0, stv (stv W 253 10 (nI 1)) 253 8 (nI s.2.1), ?_, ?_, fun z => by rw [ep] at z; exact Bool.noConfusion z⟩
      · unfold f_X10_one
        rw [jn_d, jn_d, if_pos (show W 253 10 = 0 from h10), ml_here T1 h8 hp, bd_s, ml_in hl ha hb, bd_s, if_neg q, if_pos (show nI 0 = (0 : Int32) from rfl)]
        show (if (1 : Int32) = 0 ∨ (1 : Int32) = 1 then _ else _) = _
        rw [if_pos (.inr rfl), show (1 : Int32) = nI 1 from rfl, lt_d]
        exact no (by rw [st_e, up_n (by omega)]; exact h8) (by rw [st_e, up_e])
      · rw [ep]
        exact ⟨by rw [st_e, up_e], by rw [st_e, up_n (by omega), st_e, up_e]; rfl, fun z => Bool.noConfusion z, fr _ _, by rw [st_e, up_n (by omega), st_e, up_n (by omega)]; exact h7⟩
  · rw [if_neg h1] at h10
    have ep : ons l a b s = s := if_pos (bf h1)
    refine ⟨0, stv (stv W 253 10 (nI 1)) 253 8 (nI s.2.1), ?_, ?_, fun z => by rw [ep] at z; exact absurd z h1⟩
    · unfold f_X10_one
      rw [jn_d, jn_d, if_neg (show ¬ W 253 10 = 0 by rw [h10]; decide)]
      show (if (1 : Int32) = 0 ∨ (1 : Int32) = 1 then _ else _) = _
      rw [if_pos (.inr rfl), show (1 : Int32) = nI 1 from rfl, lt_d]
      exact no (by rw [st_e, up_n (by omega)]; exact h8) (by rw [st_e, up_e])
    · rw [ep]
      exact ⟨by rw [st_e, up_e], by rw [if_neg h1, st_e, up_n (by omega), st_e, up_e], fun z => absurd z h1, fr _ _, by rw [st_e, up_n (by omega), st_e, up_n (by omega)]; exact h7⟩
/-- a value kept -/
theorem ml_put {v : Int32} {x j : Nat} (h : MS W0 W o s) (hj : s.1 = true → s.2.2.length = j) (hv : s.1 = true → v = nI x) : MS W0 (stv W 264 (o + j) v) o (s.1, s.2.1, s.2.2 ++ [x]) := by
  obtain ⟨h8, h10, h264, f, h7⟩ := h
  refine ⟨by rw [st_n (by omega)]; exact h8, by rw [st_n (by omega)]; exact h10, fun z i hi => ?_, f.tr ⟨fun d d1 d2 => st_n d2, fun j j1 j2 j3 => by rw [st_n (by omega)], fun i hi => by rw [st_e, up_n (by omega)]⟩, by rw [st_n (by omega)]; exact h7⟩
  have hi : i < (s.2.2 ++ [x]).length := hi
  have ej := hj z
  rw [len1] at hi
  show stv W 264 (o + j) v 264 (o + i) = nI (lg (s.2.2 ++ [x]) i)
  rw [st_e]
  by_cases q : i = j
  · subst q; rw [up_e, hv z, lg_r (by omega), show i - s.2.2.length = 0 by omega]; rfl
  · rw [up_n (by omega), lg_l (by omega)]; exact h264 z i (by omega)
theorem ml_fail {p : Nat} {as as2 : List Nat} (h : MS W0 W o (false, p, as)) : MS W0 W o (false, p, as2) := ⟨h.1, h.2.1, fun z => Bool.noConfusion z, h.2.2.2⟩
/-- one sign kept: small, capital -/
theorem ml_sgn {a b j x : Nat} {ia y1 y2 : Int32} (T : MTx W0 l) (h : MS W0 W o s) (hp : s.2.1 ≤ l.length) (ha : a < 128) (hb : b < 128) (h1 : y1 = nI a) (h2 : y2 = nI b) (hj : s.1 = true → s.2.2.length = j) (hia : ia = nI (o + j)) (ho : o + j < 244) (hr : rstep l x s = if s.1 = false then s else (if rng l s.2.1 a b = true then (true, s.2.1 + 1, s.2.2 ++ [lg l s.2.1]) else (false, s.2))) : ∃ W1, (∀ K : Mem → Option Mem, (bd (f_X10_one W y1 y2) fun r V => if ib ia 244 = true then lt (stv V 264 ia.toNatClampNeg r) K else none) = K W1) ∧ MS W0 W1 o (rstep l x s) := by
  subst hia
  obtain ⟨v, W1, e, M, hv⟩ := ml_one T h hp ha hb h1 h2
  refine ⟨stv W1 264 (o + j) v, fun K => by rw [e, bd_s, if_pos (by rw [ib_T ho (by omega)]; trivial), cl_n (by omega), lt_d], ?_⟩
  rw [hr]
  unfold ons at M hv
  by_cases z : s.1 = false
  · rw [if_pos z] at M hv ⊢
    have := ml_put (x := 0) (v := v) M (j := j) hj (fun y => by rw [z] at y; exact Bool.noConfusion y)
    rw [z] at this
    have es : s = (false, s.2.1, s.2.2) := by rw [← z]
    rw [es]; exact ml_fail this
  · rw [if_neg z] at M hv ⊢
    have z1 : s.1 = true := by cases y : s.1; exact absurd y z; rfl
    by_cases q : rng l s.2.1 a b = true
    · rw [if_pos q] at M hv ⊢
      exact ml_put (x := lg l s.2.1) M (fun _ => hj z1) (fun _ => hv rfl)
    · rw [if_neg q] at M hv ⊢
      exact ml_fail (ml_put (x := 0) M (j := j) (fun y => Bool.noConfusion y) (fun y => Bool.noConfusion y))
theorem ml_digit (T : MTx W0 l) (h : MS W0 W o s) (hp : s.2.1 ≤ l.length) : ∃ v W1, f_X10_digit W = some (v, W1) ∧ MS W0 W1 o (ons l 48 57 s) ∧ ((ons l 48 57 s).1 = true → v = nI (lg l s.2.1 - 48)) := by
  obtain ⟨v, W1, e, M, hv⟩ := ml_one (x := 48) (y := 57) T h hp (show 48 < 128 by omega) (show 57 < 128 by omega) rfl rfl
  refine ⟨v - 48, W1, by unfold f_X10_digit; rw [e, bd_s], M, fun z => ?_⟩
  rw [hv z]
  unfold ons at z
  by_cases y : s.1 = false
  · rw [if_pos y] at z; rw [y] at z; exact Bool.noConfusion z
  · rw [if_neg y] at z
    by_cases q : rng l s.2.1 48 57 = true
    · exact sub_n (b := 48) (rng_T q).2.1
    · rw [if_neg q] at z; exact Bool.noConfusion z
theorem ml_dig {j : Nat} {ia : Int32} (T : MTx W0 l) (h : MS W0 W o s) (hp : s.2.1 ≤ l.length) (hj : s.1 = true → s.2.2.length = j) (hia : ia = nI (o + j)) (ho : o + j < 244) : ∃ W1, (∀ K : Mem → Option Mem, (bd (f_X10_digit W) fun r V => if ib ia 244 = true then lt (stv V 264 ia.toNatClampNeg r) K else none) = K W1) ∧ MS W0 W1 o (rstep l 35 s) := by
  subst hia
  obtain ⟨v, W1, e, M, hv⟩ := ml_digit T h hp
  refine ⟨stv W1 264 (o + j) v, fun K => by rw [e, bd_s, if_pos (by rw [ib_T ho (by omega)]; trivial), cl_n (by omega), lt_d], ?_⟩
  rw [rs35]
  unfold ons at M hv
  by_cases z : s.1 = false
  · rw [if_pos z] at M hv ⊢
    have := ml_put (x := 0) (v := v) M (j := j) hj (fun y => by rw [z] at y; exact Bool.noConfusion y)
    rw [z] at this
    have es : s = (false, s.2.1, s.2.2) := by rw [← z]
    rw [es]; exact ml_fail this
  · rw [if_neg z] at M hv ⊢
    have z1 : s.1 = true := by cases y : s.1; exact absurd y z; rfl
    by_cases q : rng l s.2.1 48 57 = true
    · rw [if_pos q] at M hv ⊢
      exact ml_put (x := lg l s.2.1 - 48) M (fun _ => hj z1) (fun _ => hv rfl)
    · rw [if_neg q] at M hv ⊢
      exact ml_fail (ml_put (x := 0) M (j := j) (fun y => Bool.noConfusion y) (fun y => Bool.noConfusion y))
end MP
