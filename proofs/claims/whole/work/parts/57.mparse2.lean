/-! PURE, 57: the reference reads a command's arguments, and a command -/
section MQ
variable {W0 W : Mem} {l : List Nat} {o : Nat} {s : PSt}
theorem ml_number (T : MTx W0 l) (h : MS W0 W o s) (hp : s.2.1 ≤ l.length) : ∃ v W1 t, f_X10_number W = some (v, W1) ∧ MS W0 W1 o t ∧ t.2.2 = s.2.2 ∧ t.1 = (rstep l 42 s).1 ∧ t.2.1 = (rstep l 42 s).2.1 ∧ ∃ x, (t.1 = true → v = nI x ∧ (rstep l 42 s).2.2 = s.2.2 ++ [x] ∧ s.1 = true) := by
  have hl := T.2.2.2.1
  obtain ⟨v, W1, e, M, hv⟩ := ml_digit T h hp
  unfold f_X10_number
  rw [e, bd_s]
  by_cases z : s.1 = false
  · have eo : ons l 48 57 s = s := if_pos z
    rw [eo] at M hv
    refine ⟨v, W1, s, ?_, M, rfl, by rw [rs_F z], by rw [rs_F z], 0, fun y => by rw [z] at y; exact Bool.noConfusion y⟩
    rw [M.2.1, if_neg (show ¬ s.1 = true by rw [z]; decide), if_neg (show ¬ nI 1 = (0 : Int32) by decide)]
  · have z1 : s.1 = true := by cases y : s.1; exact absurd y z; rfl
    have er := rs42 (l := l) (s := s)
    rw [if_neg z] at er
    by_cases q : rng l s.2.1 48 57 = true
    · have eo : ons l 48 57 s = (true, s.2.1 + 1, s.2.2) := by unfold ons; rw [if_neg z, if_pos q]
      rw [eo] at M hv
      obtain ⟨q0, q1, q2⟩ := rng_T q
      have hv := hv rfl
      rw [if_pos q] at er
      have T1 := M.tx T
      rw [show W1 253 10 = nI 0 from M.2.1, if_pos (show nI 0 = (0 : Int32) from rfl), ml_here T1 M.1 (show s.2.1 + 1 ≤ l.length by omega), bd_s, show ((48 : Int64)) = (nI 48).toInt64 by decide, show ((57 : Int64)) = (nI 57).toInt64 by decide, ml_in hl (by omega) (by omega), bd_s]
      by_cases q3 : rng l (s.2.1 + 1) 48 57 = true
      · rw [if_pos q3] at er
        rw [if_pos (show rng l (true, s.2.1 + 1, s.2.2).2.1 48 57 = true from q3), if_neg (show ¬ nI 1 = (0 : Int32) by decide)]
        obtain ⟨v2, W2, e2, M2, hv2⟩ := ml_digit T M (show s.2.1 + 1 ≤ l.length by omega)
        have eo2 : ons l 48 57 (true, s.2.1 + 1, s.2.2) = (true, s.2.1 + 1 + 1, s.2.2) := by
          unfold ons; rw [if_neg (show ¬ ((true, s.2.1 + 1, s.2.2) : PSt).1 = false from fun z => Bool.noConfusion z), if_pos (show rng l (true, s.2.1 + 1, s.2.2).2.1 48 57 = true from q3)]
        rw [eo2] at M2 hv2
        have hv2 : v2 = nI (lg l (s.2.1 + 1) - 48) := hv2 rfl
        refine ⟨10 * v + v2, W2, (true, s.2.1 + 1 + 1, s.2.2), ?_, M2, rfl, by rw [er], by rw [er], 10 * (lg l s.2.1 - 48) + (lg l (s.2.1 + 1) - 48), fun _ => ⟨?_, by rw [er], z1⟩⟩
        · rw [e2, bd_s]
        · rw [hv, hv2]
          show nI 10 * nI _ + nI _ = _
          rw [pk_mul, nI_add]
      · rw [if_neg q3] at er
        rw [if_neg (show ¬ rng l (true, s.2.1 + 1, s.2.2).2.1 48 57 = true from q3), if_pos (show nI 0 = (0 : Int32) from rfl)]
        exact ⟨v, W1, (true, s.2.1 + 1, s.2.2), rfl, M, rfl, by rw [er], by rw [er], lg l s.2.1 - 48, fun _ => ⟨hv, by rw [er], z1⟩⟩
    · have eo : ons l 48 57 s = (false, s.2) := by unfold ons; rw [if_neg z, if_neg q]
      rw [eo] at M
      rw [if_neg q] at er
      refine ⟨v, W1, (false, s.2), ?_, M, rfl, by rw [er], by rw [er], 0, fun y => Bool.noConfusion y⟩
      rw [show W1 253 10 = nI 1 from M.2.1, if_neg (show ¬ nI 1 = (0 : Int32) by decide)]
theorem ml_num {j : Nat} {ia : Int32} (T : MTx W0 l) (h : MS W0 W o s) (hp : s.2.1 ≤ l.length) (hj : s.1 = true → s.2.2.length = j) (hia : ia = nI (o + j)) (ho : o + j < 244) : ∃ W1, (∀ K : Mem → Option Mem, (bd (f_X10_number W) fun r V => if ib ia 244 = true then lt (stv V 264 ia.toNatClampNeg r) K else none) = K W1) ∧ MS W0 W1 o (rstep l 42 s) := by
  subst hia
  obtain ⟨v, W1, t, e, M, t1, t2, t3, x, hx⟩ := ml_number T h hp
  refine ⟨stv W1 264 (o + j) v, fun K => by rw [e, bd_s, if_pos (by rw [ib_T ho (by omega)]; trivial), cl_n (by omega), lt_d], ?_⟩
  have := ml_put (x := x) (v := v) M (j := j) (fun y => by rw [t1]; exact hj (hx y).2.2) (fun y => (hx y).1)
  rw [t1, t2, t3] at this
  by_cases y : (rstep l 42 s).1 = true
  · have ex := (hx (by rw [t2]; exact y)).2.1
    rw [← ex] at this
    exact this
  · have ef := bf y
    have es : rstep l 42 s = (false, (rstep l 42 s).2.1, (rstep l 42 s).2.2) := by rw [← ef]
    rw [ef] at this
    rw [es]
    exact ml_fail this
theorem ml_32 (T : MTx W0 l) (h : MS W0 W o s) (hp : s.2.1 ≤ l.length) : ∃ v W1, f_X10_one W 32 32 = some (v, W1) ∧ MS W0 W1 o (rstep l 32 s) := by
  obtain ⟨v, W1, e, M, _⟩ := ml_one (x := 32) (y := 32) T h hp (show 32 < 128 by omega) (show 32 < 128 by omega) rfl rfl
  exact ⟨v, W1, e, M⟩
theorem ml_nb {j : Nat} {ia : Int32} (T : MTx W0 l) (h : MS W0 W o s) (hp : s.2.1 ≤ l.length) (hj : s.1 = true → s.2.2.length = j) (hia : ia = nI (o + j)) (ho : o + j < 244) : ∃ W1, (∀ K : Mem → Option Mem, (bd (f_X10_numberBehind W) fun r V => if ib ia 244 = true then lt (stv V 264 ia.toNatClampNeg r) K else none) = K W1) ∧ MS W0 W1 o (rstep l 42 (rstep l 32 s)) := by
  obtain ⟨v, W1, e, M⟩ := ml_32 T h hp
  obtain ⟨_, a2, a3, _⟩ := rs_all l 32 s hp
  have h32 : spc 32 = 0 := by decide
  obtain ⟨W2, e2, M2⟩ := ml_num (j := j) (ia := ia) T M a2 (fun z => by have := a3 z; rw [this.2.2, h32]; exact hj this.1) hia ho
  refine ⟨W2, fun K => ?_, M2⟩
  refine Eq.trans ?_ (e2 K)
  unfold f_X10_numberBehind
  rw [e, bd_s, bd_eta]
theorem ml_db {j : Nat} {ia : Int32} (T : MTx W0 l) (h : MS W0 W o s) (hp : s.2.1 ≤ l.length) (hj : s.1 = true → s.2.2.length = j) (hia : ia = nI (o + j)) (ho : o + j < 244) : ∃ W1, (∀ K : Mem → Option Mem, (bd (f_X10_digitBehind W) fun r V => if ib ia 244 = true then lt (stv V 264 ia.toNatClampNeg r) K else none) = K W1) ∧ MS W0 W1 o (rstep l 35 (rstep l 32 s)) := by
  obtain ⟨v, W1, e, M⟩ := ml_32 T h hp
  obtain ⟨_, a2, a3, _⟩ := rs_all l 32 s hp
  have h32 : spc 32 = 0 := by decide
  obtain ⟨W2, e2, M2⟩ := ml_dig (j := j) (ia := ia) T M a2 (fun z => by have := a3 z; rw [this.2.2, h32]; exact hj this.1) hia ho
  refine ⟨W2, fun K => ?_, M2⟩
  refine Eq.trans ?_ (e2 K)
  unfold f_X10_digitBehind
  rw [e, bd_s, bd_eta]
theorem rs_b {x : Nat} (hp : s.2.1 ≤ l.length) : (rstep l x s).2.1 ≤ l.length := (rs_all l x s hp).2.1
theorem rs_j {x j : Nat} (hp : s.2.1 ≤ l.length) (hj : s.1 = true → s.2.2.length = j) (hx : spc x = 1) : (rstep l x s).1 = true → (rstep l x s).2.2.length = j + 1 := fun z => by
  have := (rs_all l x s hp).2.2.1 z
  rw [this.2.2, hx, hj this.1]
theorem rs_j0 {x j : Nat} (hp : s.2.1 ≤ l.length) (hj : s.1 = true → s.2.2.length = j) (hx : spc x = 0) : (rstep l x s).1 = true → (rstep l x s).2.2.length = j := fun z => by
  have := (rs_all l x s hp).2.2.1 z
  rw [this.2.2, hx]; exact hj this.1
theorem ml_args {k : Nat} (T : MTx W0 l) (hk : k < 13) (h : MS W0 W o s) (hp : s.2.1 ≤ l.length) (hs : s.2.2.length = 0) (ho : o + 3 < 244) : ∃ W1, f_X10_readArguments W (nI k) (nI o) = some W1 ∧ MS W0 W1 o (rdf l (arK k) s) := by
  have j0 : s.1 = true → s.2.2.length = 0 := fun _ => hs
  have i0 : nI o = nI (o + 0) := rfl
  have i1 : nI o + 1 = nI (o + 1) := nI_add _ 1
  have i2 : nI o + 2 = nI (o + 2) := nI_add _ 2
  rcases k13 hk with e | e | e | e | e | e | e | e | e | e | e | e | e <;> subst e
  · obtain ⟨V0, e0, M0⟩ := ml_dig (j := 0) T h hp j0 i0 (by omega)
    obtain ⟨V1, e1, M1⟩ := ml_dig (j := 1) T M0 (rs_b hp) (rs_j hp j0 (by decide)) i1 (by omega)
    obtain ⟨V2, e2, M2⟩ := ml_sgn (j := 2) (x := 36) (a := 97) (b := 122) (y1 := 97) (y2 := 122) T M1 (rs_b (rs_b hp)) (by omega) (by omega) rfl rfl (rs_j (rs_b hp) (rs_j hp j0 (by decide)) (by decide)) i2 (by omega) rs36
    refine ⟨V2, ?_, M2⟩
    unfold f_X10_readArguments
    rw [if_pos (show nI 0 = (0 : Int32) from rfl), e0, e1, e2]
  · obtain ⟨V0, e0, M0⟩ := ml_dig (j := 0) T h hp j0 i0 (by omega)
    refine ⟨V0, ?_, M0⟩
    unfold f_X10_readArguments
    rw [if_neg (show ¬ nI 1 = (0 : Int32) by decide), if_pos (show nI 1 = (1 : Int32) from rfl), e0]
  · obtain ⟨V0, e0, M0⟩ := ml_dig (j := 0) T h hp j0 i0 (by omega)
    obtain ⟨V1, e1, M1⟩ := ml_db (j := 1) T M0 (rs_b hp) (rs_j hp j0 (by decide)) i1 (by omega)
    refine ⟨V1, ?_, M1⟩
    unfold f_X10_readArguments
    rw [if_neg (show ¬ nI 2 = (0 : Int32) by decide), if_neg (show ¬ nI 2 = (1 : Int32) by decide), if_pos (show nI 2 = (2 : Int32) from rfl), e0, e1]
  · obtain ⟨V0, e0, M0⟩ := ml_num (j := 0) T h hp j0 i0 (by omega)
    refine ⟨V0, ?_, M0⟩
    unfold f_X10_readArguments
    rw [if_neg (show ¬ nI 3 = (0 : Int32) by decide), if_neg (show ¬ nI 3 = (1 : Int32) by decide), if_neg (show ¬ nI 3 = (2 : Int32) by decide), if_pos (show nI 3 = (3 : Int32) from rfl), e0]
  · obtain ⟨V0, e0, M0⟩ := ml_dig (j := 0) T h hp j0 i0 (by omega)
    refine ⟨V0, ?_, M0⟩
    unfold f_X10_readArguments
    rw [if_neg (show ¬ nI 4 = (0 : Int32) by decide), if_neg (show ¬ nI 4 = (1 : Int32) by decide), if_neg (show ¬ nI 4 = (2 : Int32) by decide), if_neg (show ¬ nI 4 = (3 : Int32) by decide), if_pos (show nI 4 = (4 : Int32) from rfl), e0]
  · obtain ⟨V0, e0, M0⟩ := ml_dig (j := 0) T h hp j0 i0 (by omega)
    obtain ⟨V1, e1, M1⟩ := ml_dig (j := 1) T M0 (rs_b hp) (rs_j hp j0 (by decide)) i1 (by omega)
    refine ⟨V1, ?_, M1⟩
    unfold f_X10_readArguments
    rw [if_neg (show ¬ nI 5 = (0 : Int32) by decide), if_neg (show ¬ nI 5 = (1 : Int32) by decide), if_neg (show ¬ nI 5 = (2 : Int32) by decide), if_neg (show ¬ nI 5 = (3 : Int32) by decide), if_neg (show ¬ nI 5 = (4 : Int32) by decide), if_pos (show nI 5 = (5 : Int32) from rfl), e0, e1]
  · obtain ⟨V0, e0, M0⟩ := ml_dig (j := 0) T h hp j0 i0 (by omega)
    obtain ⟨V1, e1, M1⟩ := ml_dig (j := 1) T M0 (rs_b hp) (rs_j hp j0 (by decide)) i1 (by omega)
    refine ⟨V1, ?_, M1⟩
    unfold f_X10_readArguments
    rw [if_neg (show ¬ nI 6 = (0 : Int32) by decide), if_neg (show ¬ nI 6 = (1 : Int32) by decide), if_neg (show ¬ nI 6 = (2 : Int32) by decide), if_neg (show ¬ nI 6 = (3 : Int32) by decide), if_neg (show ¬ nI 6 = (4 : Int32) by decide), if_neg (show ¬ nI 6 = (5 : Int32) by decide), if_pos (show nI 6 = (6 : Int32) from rfl), e0, e1]
  · obtain ⟨V0, e0, M0⟩ := ml_dig (j := 0) T h hp j0 i0 (by omega)
    obtain ⟨V1, e1, M1⟩ := ml_dig (j := 1) T M0 (rs_b hp) (rs_j hp j0 (by decide)) i1 (by omega)
    refine ⟨V1, ?_, M1⟩
    unfold f_X10_readArguments
    rw [if_neg (show ¬ nI 7 = (0 : Int32) by decide), if_neg (show ¬ nI 7 = (1 : Int32) by decide), if_neg (show ¬ nI 7 = (2 : Int32) by decide), if_neg (show ¬ nI 7 = (3 : Int32) by decide), if_neg (show ¬ nI 7 = (4 : Int32) by decide), if_neg (show ¬ nI 7 = (5 : Int32) by decide), if_neg (show ¬ nI 7 = (6 : Int32) by decide), if_pos (show nI 7 = (7 : Int32) from rfl), e0, e1]
  · obtain ⟨V0, e0, M0⟩ := ml_dig (j := 0) T h hp j0 i0 (by omega)
    obtain ⟨V1, e1, M1⟩ := ml_nb (j := 1) T M0 (rs_b hp) (rs_j hp j0 (by decide)) i1 (by omega)
    refine ⟨V1, ?_, M1⟩
    unfold f_X10_readArguments
    rw [if_neg (show ¬ nI 8 = (0 : Int32) by decide), if_neg (show ¬ nI 8 = (1 : Int32) by decide), if_neg (show ¬ nI 8 = (2 : Int32) by decide), if_neg (show ¬ nI 8 = (3 : Int32) by decide), if_neg (show ¬ nI 8 = (4 : Int32) by decide), if_neg (show ¬ nI 8 = (5 : Int32) by decide), if_neg (show ¬ nI 8 = (6 : Int32) by decide), if_neg (show ¬ nI 8 = (7 : Int32) by decide), if_pos (show nI 8 = (8 : Int32) from rfl), e0, e1]
  · obtain ⟨V0, e0, M0⟩ := ml_dig (j := 0) T h hp j0 i0 (by omega)
    obtain ⟨V1, e1, M1⟩ := ml_nb (j := 1) T M0 (rs_b hp) (rs_j hp j0 (by decide)) i1 (by omega)
    refine ⟨V1, ?_, M1⟩
    unfold f_X10_readArguments
    rw [if_neg (show ¬ nI 9 = (0 : Int32) by decide), if_neg (show ¬ nI 9 = (1 : Int32) by decide), if_neg (show ¬ nI 9 = (2 : Int32) by decide), if_neg (show ¬ nI 9 = (3 : Int32) by decide), if_neg (show ¬ nI 9 = (4 : Int32) by decide), if_neg (show ¬ nI 9 = (5 : Int32) by decide), if_neg (show ¬ nI 9 = (6 : Int32) by decide), if_neg (show ¬ nI 9 = (7 : Int32) by decide), if_neg (show ¬ nI 9 = (8 : Int32) by decide), if_pos (show nI 9 = (9 : Int32) from rfl), e0, e1]
  · obtain ⟨V0, e0, M0⟩ := ml_sgn (j := 0) (x := 94) (a := 65) (b := 90) (y1 := 65) (y2 := 90) T h hp (by omega) (by omega) rfl rfl j0 i0 (by omega) rs94
    obtain ⟨V1, e1, M1⟩ := ml_nb (j := 1) T M0 (rs_b hp) (rs_j hp j0 (by decide)) i1 (by omega)
    refine ⟨V1, ?_, M1⟩
    unfold f_X10_readArguments
    rw [if_neg (show ¬ nI 10 = (0 : Int32) by decide), if_neg (show ¬ nI 10 = (1 : Int32) by decide), if_neg (show ¬ nI 10 = (2 : Int32) by decide), if_neg (show ¬ nI 10 = (3 : Int32) by decide), if_neg (show ¬ nI 10 = (4 : Int32) by decide), if_neg (show ¬ nI 10 = (5 : Int32) by decide), if_neg (show ¬ nI 10 = (6 : Int32) by decide), if_neg (show ¬ nI 10 = (7 : Int32) by decide), if_neg (show ¬ nI 10 = (8 : Int32) by decide), if_neg (show ¬ nI 10 = (9 : Int32) by decide), if_pos (show nI 10 = (10 : Int32) from rfl), e0, e1]
  · obtain ⟨V0, e0, M0⟩ := ml_sgn (j := 0) (x := 94) (a := 65) (b := 90) (y1 := 65) (y2 := 90) T h hp (by omega) (by omega) rfl rfl j0 i0 (by omega) rs94
    refine ⟨V0, ?_, M0⟩
    unfold f_X10_readArguments
    rw [if_neg (show ¬ nI 11 = (0 : Int32) by decide), if_neg (show ¬ nI 11 = (1 : Int32) by decide), if_neg (show ¬ nI 11 = (2 : Int32) by decide), if_neg (show ¬ nI 11 = (3 : Int32) by decide), if_neg (show ¬ nI 11 = (4 : Int32) by decide), if_neg (show ¬ nI 11 = (5 : Int32) by decide), if_neg (show ¬ nI 11 = (6 : Int32) by decide), if_neg (show ¬ nI 11 = (7 : Int32) by decide), if_neg (show ¬ nI 11 = (8 : Int32) by decide), if_neg (show ¬ nI 11 = (9 : Int32) by decide), if_neg (show ¬ nI 11 = (10 : Int32) by decide), if_pos (show nI 11 = (11 : Int32) from rfl), e0]
  · refine ⟨W, ?_, h⟩
    unfold f_X10_readArguments
    rw [if_neg (show ¬ nI 12 = (0 : Int32) by decide), if_neg (show ¬ nI 12 = (1 : Int32) by decide), if_neg (show ¬ nI 12 = (2 : Int32) by decide), if_neg (show ¬ nI 12 = (3 : Int32) by decide), if_neg (show ¬ nI 12 = (4 : Int32) by decide), if_neg (show ¬ nI 12 = (5 : Int32) by decide), if_neg (show ¬ nI 12 = (6 : Int32) by decide), if_neg (show ¬ nI 12 = (7 : Int32) by decide), if_neg (show ¬ nI 12 = (8 : Int32) by decide), if_neg (show ¬ nI 12 = (9 : Int32) by decide), if_neg (show ¬ nI 12 = (10 : Int32) by decide), if_neg (show ¬ nI 12 = (11 : Int32) by decide)]
end MQ
