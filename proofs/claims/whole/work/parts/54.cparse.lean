/-! PURE, 54: the class reads a command -/
def sps : List Nat → Nat
  | [] => 0
  | x :: r => spc x + sps r
theorem kw_sps : ∀ k, k < 13 → sps (frm k) = naK k ∧ naK k ≤ 3 := by decide +kernel
theorem rdf_len (l : List Nat) : ∀ (fm : List Nat) (s : PSt), s.2.1 ≤ l.length → (rdf l fm s).1 = true → (rdf l fm s).2.2.length = s.2.2.length + sps fm
  | [], s, h, _ => rfl
  | x :: fm, s, h, z => by
    obtain ⟨a1, a2, a3, _⟩ := rs_all l x s h
    rw [rdf_c] at z ⊢
    have c1 := ((rdf_all l fm (rstep l x s) a2).2.2 z).1
    rw [rdf_len l fm _ a2 z, (a3 c1).2.2]
    show _ = s.2.2.length + (spc x + sps fm)
    omega
def sg (l : List Nat) (p : Nat) : Int32 := if p < l.length then nI (lg l p) else m1
def CS (V0 V : Mem) (c k : Nat) (s : PSt) : Prop :=
  (V 222 2 = nI s.2.1 ∧ V 222 0 = nI c ∧ V 222 1 = V0 222 1) ∧
  (V (224 + 3 * c) 1 = nI k ∧ V (224 + 3 * c) 0 = nI s.2.2.length ∧ ∀ j, j < s.2.2.length → V (224 + 3 * c + 2) j = nI (lg s.2.2 j)) ∧
  ∀ d, d ≠ 222 → d ≠ 224 + 3 * c → d ≠ 224 + 3 * c + 2 → V d = V0 d
theorem Txt_of {V V' : Mem} {t M : Nat} {l : List Nat} (T : Txt V t M l) (h1 : V' t = V t) (h2 : V' (t + 1) = V (t + 1)) : Txt V' t M l := by
  unfold Txt Buf; rw [h1, h2]; exact T
section CP
variable {V0 V : Mem} {l : List Nat} {c k : Nat} {s : PSt}
theorem CS.txt (h : CS V0 V c k s) (hc : c < 8) (T : Txt V0 249 60 l) : Txt V 249 60 l := Txt_of T (h.2.2 249 (by omega) (by omega) (by omega)) (h.2.2 250 (by omega) (by omega) (by omega))
theorem sg_T {p : Nat} (h : p < l.length) : sg l p = nI (lg l p) := if_pos h
theorem sg_N {p : Nat} (h : l.length ≤ p) : sg l p = m1 := if_neg (by omega)
theorem cx_sg {p : Nat} (T : Txt V 249 60 l) (h : V 222 2 = nI p) (hp : p < 1000) : f_X4_signAt V = some (sg l p, V) := by
  have hM := T.2.1
  unfold f_X4_signAt
  rw [h, if_neg (show ¬ nI p < 0 from nI_pos (by omega)), tx_ln T, bd_s]
  rcases Nat.lt_or_ge p l.length with q | q
  · rw [if_neg (nI_ge q (by omega)), h, (tx_at T q).1, bd_s, sg_T q]
  · rw [if_pos (nI_le q (by omega)), sg_N q]; rfl
theorem ltn {a b : Nat} (ha : a < 2 ^ 31) (hb : b < 2 ^ 31) : nI a < nI b ↔ a < b := by
  rw [Int32.lt_iff_toInt_lt, nI_toInt ha, nI_toInt hb]; omega
theorem tx_c {M t : Nat} (T : Txt V t M l) : ∀ j, j < l.length → lg l j < 128 := fun j hj => (tx_at T hj).2
theorem rg_lo {p a b : Nat} (hl : ∀ j, j < l.length → lg l j < 128) (ha : a < 128) (h : sg l p < nI a) : rng l p a b = false := by
  unfold rng
  refine decide_eq_false (fun z => ?_)
  have := hl p z.1
  rw [sg_T z.1, ltn (by omega) (by omega)] at h
  omega
theorem rg_hi {p a b : Nat} (hl : ∀ j, j < l.length → lg l j < 128) (hb : b < 128) (h : nI b < sg l p) : rng l p a b = false := by
  unfold rng
  refine decide_eq_false (fun z => ?_)
  have := hl p z.1
  rw [sg_T z.1, ltn (by omega) (by omega)] at h
  omega
theorem rg_in {p a b : Nat} (hl : ∀ j, j < l.length → lg l j < 128) (hb : b < 128) (ha : a < 128) (h1 : ¬ sg l p < nI a) (h2 : ¬ nI b < sg l p) : rng l p a b = true := by
  unfold rng
  refine decide_eq_true ?_
  rcases Nat.lt_or_ge p l.length with q | q
  · have := hl p q
    rw [sg_T q, ltn (by omega) (by omega)] at h1
    rw [sg_T q, ltn (by omega) (by omega)] at h2
    exact ⟨q, by omega, by omega⟩
  · rw [sg_N q] at h1
    rw [m1_lt (by omega)] at h1
    exact absurd trivial h1
theorem cx_rg {p a b : Nat} {F : Mem → Int32 → Option (Int32 × Mem)} (hF : ∀ x, F V x = if x < nI a then some (0, V) else if nI b < x then some (0, V) else some (1, V)) (hl : ∀ j, j < l.length → lg l j < 128) (hb : b < 128) (ha : a < 128) : F V (sg l p) = some (if rng l p a b = true then nI 1 else nI 0, V) := by
  rw [hF]
  by_cases q1 : sg l p < nI a
  · rw [if_pos q1, rg_lo hl ha q1]; rfl
  · rw [if_neg q1]
    by_cases q2 : nI b < sg l p
    · rw [if_pos q2, rg_hi hl hb q2]; rfl
    · rw [if_neg q2, rg_in hl hb ha q1 q2]; rfl
theorem cx_dg {p : Nat} (hl : ∀ j, j < l.length → lg l j < 128) : f_X9_isDigit V (sg l p) = some (if rng l p 48 57 = true then nI 1 else nI 0, V) := cx_rg (fun x => rfl) hl (by omega) (by omega)
theorem cx_sm {p : Nat} (hl : ∀ j, j < l.length → lg l j < 128) : f_X9_isSmall V (sg l p) = some (if rng l p 97 122 = true then nI 1 else nI 0, V) := cx_rg (fun x => rfl) hl (by omega) (by omega)
theorem cx_cp {p : Nat} (hl : ∀ j, j < l.length → lg l j < 128) : f_X9_isCapital V (sg l p) = some (if rng l p 65 90 = true then nI 1 else nI 0, V) := cx_rg (fun x => rfl) hl (by omega) (by omega)
theorem or01 (b : Bool) : ((if b = true then nI 1 else nI 0) = 0 ∨ (if b = true then nI 1 else nI 0) = 1) := by cases b; exact .inl rfl; exact .inr rfl
def ftl (l : List Nat) (p x : Nat) : Bool := if x = 42 then rng l p 48 57 else if x = 35 then rng l p 48 57 else if x = 36 then rng l p 97 122 else if x = 94 then rng l p 65 90 else rng l p x x
theorem cx_fit {p x : Nat} (hl : ∀ j, j < l.length → lg l j < 128) (hx : x < 128) : f_X4_fits V (sg l p) (nI x) = some (if ftl l p x = true then nI 1 else nI 0, V) := by
  unfold f_X4_fits
  by_cases a : x = 35
  · subst a
    rw [if_pos (show nI 35 = (35 : Int32) from rfl), cx_dg hl, bd_s, if_pos (or01 _)]; rfl
  · rw [if_neg (show ¬ nI x = (35 : Int32) from fun z => a ((nI_eq (by omega) (by omega)).mp z))]
    by_cases b : x = 36
    · subst b
      rw [if_pos (show nI 36 = (36 : Int32) from rfl), cx_sm hl, bd_s, if_pos (or01 _)]; rfl
    · rw [if_neg (show ¬ nI x = (36 : Int32) from fun z => b ((nI_eq (by omega) (by omega)).mp z))]
      by_cases c : x = 42
      · subst c
        rw [if_pos (show nI 42 = (42 : Int32) from rfl), cx_dg hl, bd_s, if_pos (or01 _)]; rfl
      · rw [if_neg (show ¬ nI x = (42 : Int32) from fun z => c ((nI_eq (by omega) (by omega)).mp z))]
        by_cases d : x = 94
        · subst d
          rw [if_pos (show nI 94 = (94 : Int32) from rfl), cx_cp hl, bd_s, if_pos (or01 _)]; rfl
        · rw [if_neg (show ¬ nI x = (94 : Int32) from fun z => d ((nI_eq (by omega) (by omega)).mp z)), show ftl l p x = rng l p x x by unfold ftl; rw [if_neg c, if_neg a, if_neg b, if_neg d]]
          by_cases q : rng l p x x = true
          · obtain ⟨z1, z2, z3⟩ := rng_T q
            rw [if_pos (show sg l p = nI x by rw [sg_T z1]; congr 1; omega), q]; rfl
          · rw [if_neg (show ¬ sg l p = nI x from fun z => q (rg_in hl (by omega) (by omega) (by rw [z, ltn (by omega) (by omega)]; omega) (by rw [z, ltn (by omega) (by omega)]; omega))), bf q]; rfl
theorem rs42 : rstep l 42 s = if s.1 = false then s else (if rng l s.2.1 48 57 = true then (if rng l (s.2.1 + 1) 48 57 = true then (true, s.2.1 + 2, s.2.2 ++ [10 * (lg l s.2.1 - 48) + (lg l (s.2.1 + 1) - 48)]) else (true, s.2.1 + 1, s.2.2 ++ [lg l s.2.1 - 48])) else (false, s.2)) := rfl
theorem rs35 : rstep l 35 s = if s.1 = false then s else (if rng l s.2.1 48 57 = true then (true, s.2.1 + 1, s.2.2 ++ [lg l s.2.1 - 48]) else (false, s.2)) := rfl
theorem rs36 : rstep l 36 s = if s.1 = false then s else (if rng l s.2.1 97 122 = true then (true, s.2.1 + 1, s.2.2 ++ [lg l s.2.1]) else (false, s.2)) := rfl
theorem rs94 : rstep l 94 s = if s.1 = false then s else (if rng l s.2.1 65 90 = true then (true, s.2.1 + 1, s.2.2 ++ [lg l s.2.1]) else (false, s.2)) := rfl
theorem rs32 : rstep l 32 s = if s.1 = false then s else (if rng l s.2.1 32 32 = true then (true, s.2.1 + 1, s.2.2) else (false, s.2)) := rfl
theorem CS.mv {p : Nat} (h : CS V0 V c k s) (hc : c < 8) : CS V0 (stv V 222 2 (nI p)) c k (s.1, p, s.2.2) := by
  obtain ⟨⟨a1, a2, a3⟩, ⟨b1, b2, b3⟩, f⟩ := h
  refine ⟨⟨by rw [st_e, up_e], by rw [st_e, up_n (by omega)]; exact a2, by rw [st_e, up_n (by omega)]; exact a3⟩, ⟨by rw [st_n (by omega)]; exact b1, by rw [st_n (by omega)]; exact b2, fun j hj => by rw [st_n (by omega)]; exact b3 j hj⟩, fun d x y z => by rw [st_n x]; exact f d x y z⟩
theorem cx_add {v : Nat} (h : CS V0 V c k s) (hc : c < 8) (hs : s.2.2.length < 3) : ∃ V1, f_X1_addArgument V c (nI v) = some V1 ∧ CS V0 V1 c k (s.1, s.2.1, s.2.2 ++ [v]) := by
  obtain ⟨⟨a1, a2, a3⟩, ⟨b1, b2, b3⟩, f⟩ := h
  refine ⟨stv (stv V (224 + 3 * c + 1 + 1) s.2.2.length (nI v)) (224 + 3 * c) 0 (nI (s.2.2.length + 1)), ?_, ⟨?_, ?_, ?_⟩, ⟨?_, ?_, fun j hj => ?_⟩, fun d x y z => ?_⟩
  · unfold f_X1_addArgument
    rw [b2, sx_set hs (by omega), bv_s, st_n (by omega), b2, show nI s.2.2.length + 1 = nI (s.2.2.length + 1) from nI_1 _, lt_d]
  · rw [st_n (by omega), st_n (by omega)]; exact a1
  · rw [st_n (by omega), st_n (by omega)]; exact a2
  · rw [st_n (by omega), st_n (by omega)]; exact a3
  · rw [st_e, up_n (by omega), st_n (by omega)]; exact b1
  · rw [st_e, up_e]; exact congrArg nI len1.symm
  · have hj : j < (s.2.2 ++ [v]).length := hj
    rw [len1] at hj
    show stv _ (224 + 3 * c) 0 _ (224 + 3 * c + 2) j = nI (lg (s.2.2 ++ [v]) j)
    rw [st_n (by omega), show 224 + 3 * c + 2 = 224 + 3 * c + 1 + 1 by omega, st_e]
    by_cases q : j = s.2.2.length
    · subst q; rw [up_e, lg_r (Nat.le_refl _), Nat.sub_self]; rfl
    · rw [up_n q, lg_l (by omega)]; exact b3 j (by omega)
  · rw [st_n y, st_n (by omega)]; exact f d x y z
/-- one sign of a form -/
theorem cx_rs {x : Nat} (T : Txt V0 249 60 l) (h : CS V0 V c k s) (h1 : s.1 = true) (hp : s.2.1 ≤ l.length) (hc : c < 8) (hx : x < 128) (hs : s.2.2.length + spc x ≤ 3) : ∃ V1, f_X4_readSign V c (nI x) = some (if (rstep l x s).1 = true then nI 1 else nI 0, V1) ∧ CS V0 V1 c k (rstep l x s) := by
  have hl := tx_c T
  have T1 := h.txt hc T
  have hM := T.2.1
  have ht : ¬ s.1 = false := by rw [h1]; decide
  have sT : ∀ y : Bool × Nat × List Nat, y.1 = true → (if y.1 = true then nI 1 else nI 0) = (1 : Int32) := fun y hy => by rw [if_pos hy]; rfl
  unfold f_X4_readSign
  rw [cx_sg T1 h.1.1 (by omega), bd_s, cx_fit hl hx, bd_s]
  by_cases q : ftl l s.2.1 x = true
  · have plt : s.2.1 < l.length := by
      unfold ftl at q
      split at q
      · exact (rng_T q).1
      · split at q
        · exact (rng_T q).1
        · split at q
          · exact (rng_T q).1
          · split at q
            · exact (rng_T q).1
            · exact (rng_T q).1
    have hch := hl _ plt
    rw [q, if_pos rfl, if_neg (show ¬ nI 1 = (0 : Int32) by decide), h.1.1, show nI s.2.1 + 1 = nI (s.2.1 + 1) from nI_1 _, lt_d, sg_T plt]
    have hm := h.mv (p := s.2.1 + 1) hc
    unfold ftl at q
    by_cases a : x = 42
    · subst a
      rw [if_pos rfl] at q
      obtain ⟨_, q1, q2⟩ := rng_T q
      have e48 : nI (lg l s.2.1) - 48 = nI (lg l s.2.1 - 48) := sub_n (b := 48) q1
      have Tm := hm.txt hc T
      have hsp : spc 42 = 1 := by decide
      rw [if_neg (show ¬ nI 42 = (35 : Int32) by decide), if_pos (show nI 42 = (42 : Int32) from rfl), e48]
      by_cases q3 : rng l (s.2.1 + 1) 48 57 = true
      · obtain ⟨z1, z2, z3⟩ := rng_T q3
        have er : rstep l 42 s = (true, s.2.1 + 2, s.2.2 ++ [10 * (lg l s.2.1 - 48) + (lg l (s.2.1 + 1) - 48)]) := by
          rw [rs42, if_neg ht, if_pos q, if_pos q3]
        obtain ⟨V1, e1, C1⟩ := cx_add (v := 10 * (lg l s.2.1 - 48) + (lg l (s.2.1 + 1) - 48)) (hm.mv (p := s.2.1 + 1 + 1) hc) hc (by show s.2.2.length < 3; omega)
        have nf : f_X4_numberFrom (stv V 222 2 (nI (s.2.1 + 1))) (nI (lg l s.2.1 - 48)) = some (nI (10 * (lg l s.2.1 - 48) + (lg l (s.2.1 + 1) - 48)), stv (stv V 222 2 (nI (s.2.1 + 1))) 222 2 (nI (s.2.1 + 1 + 1))) := by
          unfold f_X4_numberFrom
          rw [cx_sg Tm (by rw [st_e, up_e]) (by omega), bd_s, cx_dg hl, bd_s, q3, if_pos rfl, if_neg (show ¬ nI 1 = (0 : Int32) by decide), show stv V 222 2 (nI (s.2.1 + 1)) 222 2 = nI (s.2.1 + 1) by rw [st_e, up_e], show nI (s.2.1 + 1) + 1 = nI (s.2.1 + 1 + 1) from nI_1 _, lt_d, sg_T z1]
          refine congrArg (fun v => some (v, _)) ?_
          show nI (lg l s.2.1 - 48) * nI 10 + nI (lg l (s.2.1 + 1)) - nI 48 = _
          rw [pk_mul, nI_add, sub_n (by omega)]
          congr 1; omega
        rw [nf, bd_s, e1, bv_s, er]
        exact ⟨V1, rfl, by have := C1; rw [h1] at this; exact this⟩
      · have er : rstep l 42 s = (true, s.2.1 + 1, s.2.2 ++ [lg l s.2.1 - 48]) := by
          rw [rs42, if_neg ht, if_pos q, if_neg q3]
        obtain ⟨V1, e1, C1⟩ := cx_add (v := lg l s.2.1 - 48) hm hc (by show s.2.2.length < 3; omega)
        have nf : f_X4_numberFrom (stv V 222 2 (nI (s.2.1 + 1))) (nI (lg l s.2.1 - 48)) = some (nI (lg l s.2.1 - 48), stv V 222 2 (nI (s.2.1 + 1))) := by
          unfold f_X4_numberFrom
          rw [cx_sg Tm (by rw [st_e, up_e]) (by omega), bd_s, cx_dg hl, bd_s, bf q3]; rfl
        rw [nf, bd_s, e1, bv_s, er]
        exact ⟨V1, rfl, by have := C1; rw [h1] at this; exact this⟩
    · rw [if_neg a] at q
      by_cases b : x = 35
      · subst b
        rw [if_pos rfl] at q
        obtain ⟨_, q1, q2⟩ := rng_T q
        have e48 : nI (lg l s.2.1) - 48 = nI (lg l s.2.1 - 48) := sub_n (b := 48) q1
        have hsp : spc 35 = 1 := by decide
        have er : rstep l 35 s = (true, s.2.1 + 1, s.2.2 ++ [lg l s.2.1 - 48]) := by
          rw [rs35, if_neg ht, if_pos q]
        obtain ⟨V1, e1, C1⟩ := cx_add (v := lg l s.2.1 - 48) hm hc (by show s.2.2.length < 3; omega)
        rw [if_pos (show nI 35 = (35 : Int32) from rfl), e48, e1, bv_s, er]
        exact ⟨V1, rfl, by have := C1; rw [h1] at this; exact this⟩
      · rw [if_neg b] at q
        rw [if_neg (show ¬ nI x = (35 : Int32) from fun z => b ((nI_eq (by omega) (by omega)).mp z)), if_neg (show ¬ nI x = (42 : Int32) from fun z => a ((nI_eq (by omega) (by omega)).mp z)), jn_d]
        by_cases d : x = 36
        · subst d
          rw [if_pos rfl] at q
          have hsp : spc 36 = 1 := by decide
          have er : rstep l 36 s = (true, s.2.1 + 1, s.2.2 ++ [lg l s.2.1]) := by
            rw [rs36, if_neg ht, if_pos q]
          obtain ⟨V1, e1, C1⟩ := cx_add (v := lg l s.2.1) hm hc (by show s.2.2.length < 3; omega)
          rw [if_pos (show nI 36 = (36 : Int32) from rfl), er]
          show ∃ V1, bv (f_X1_addArgument (stv V 222 2 (nI (s.2.1 + 1))) c (nI (lg l s.2.1))) _ = _ ∧ _
          rw [e1, bv_s]
          exact ⟨V1, rfl, by have := C1; rw [h1] at this; exact this⟩
        · rw [if_neg d] at q
          rw [if_neg (show ¬ nI x = (36 : Int32) from fun z => d ((nI_eq (by omega) (by omega)).mp z))]
          by_cases e : x = 94
          · subst e
            rw [if_pos rfl] at q
            have hsp : spc 94 = 1 := by decide
            have er : rstep l 94 s = (true, s.2.1 + 1, s.2.2 ++ [lg l s.2.1]) := by
              rw [rs94, if_neg ht, if_pos q]
            obtain ⟨V1, e1, C1⟩ := cx_add (v := lg l s.2.1) hm hc (by show s.2.2.length < 3; omega)
            rw [if_pos (show nI 94 = (94 : Int32) from rfl), er]
            show ∃ V1, bv (f_X1_addArgument (stv V 222 2 (nI (s.2.1 + 1))) c (nI (lg l s.2.1))) _ = _ ∧ _
            rw [e1, bv_s]
            exact ⟨V1, rfl, by have := C1; rw [h1] at this; exact this⟩
          · rw [if_neg e] at q
            have er : rstep l x s = (true, s.2.1 + 1, s.2.2) := by
              unfold rstep; rw [if_neg ht, if_neg a, if_neg b, if_neg d, if_neg e, if_pos q]
            rw [if_neg (show ¬ nI x = (94 : Int32) from fun z => e ((nI_eq (by omega) (by omega)).mp z)), er]
            exact ⟨_, rfl, by have := hm; rw [h1] at this; exact this⟩
  · rw [bf q, if_pos (show (if false = true then nI 1 else nI 0) = 0 by decide)]
    have er : rstep l x s = (false, s.2) := by
      unfold ftl at q
      unfold rstep
      rw [if_neg ht]
      by_cases a : x = 42
      · rw [if_pos a] at q ⊢; rw [if_neg q]
      · rw [if_neg a] at q ⊢
        by_cases b : x = 35
        · rw [if_pos b] at q ⊢; rw [if_neg q]
        · rw [if_neg b] at q ⊢
          by_cases d : x = 36
          · rw [if_pos d] at q ⊢; rw [if_neg q]
          · rw [if_neg d] at q ⊢
            by_cases e : x = 94
            · rw [if_pos e] at q ⊢; rw [if_neg q]
            · rw [if_neg e] at q ⊢; rw [if_neg q]
    rw [er]
    exact ⟨V, rfl, h⟩
end CP
