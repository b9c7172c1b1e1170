/-! PURE, 26: arrays that agree where it counts; the changes, told on arrays -/
theorem OK_of {g g' : Arr} {c n : Nat} (hc : g' 0 = nI c) (c1 : 1 ≤ c) (c24 : c ≤ 24) (hn : g' 1 = nI n) (n1 : 1 ≤ n) (n5 : n ≤ 5) (hr : ∀ r, r < c → RevOk g' r)
    (hB : ∀ b, b < n → (∃ h, h < c ∧ ¬ arc g' h ∧ g' (290 + 9 * b) = nI h) ∧ ∀ f, f < 8 → Let (g' (290 + 9 * b + 1 + f)))
    (hT : ∀ t, t < 26 → g' (335 + t) = m1 ∨ ∃ h, h < c ∧ ¬ arc g' h ∧ g' (335 + t) = nI h) : OKg g' ∧ cnt g' = c ∧ bcn g' = n := by
  have c0 : cnt g' = c := by unfold cnt; rw [hc, nI_clamp (by omega)]
  have b0 : bcn g' = n := by unfold bcn; rw [hn, nI_clamp (by omega)]
  refine ⟨⟨⟨by rw [c0, hc], by rw [c0]; exact c1, by rw [c0]; exact c24⟩, ⟨by rw [b0, hn], by rw [b0]; exact n1, by rw [b0]; exact n5⟩, fun r h => hr r (by omega), fun b hb => ?_, fun t ht => ?_⟩, c0, b0⟩
  · rw [b0] at hb
    obtain ⟨⟨h, hh, ha, he⟩, hL⟩ := hB b hb
    have hd0 : hd g' b = h := by unfold hd; rw [he, nI_clamp (by omega)]
    exact ⟨⟨by rw [hd0, he], by rw [hd0, c0]; exact hh, by rw [hd0]; exact ha⟩, hL⟩
  · rcases hT t ht with z | ⟨h, hh, ha, he⟩
    · exact .inl z
    · have t0 : tg g' t = h := by unfold tg; rw [he, nI_clamp (by omega)]
      exact .inr ⟨by rw [t0, he], by rw [t0, c0]; exact hh, by rw [t0]; exact ha⟩
theorem ok_hB {g : Arr} (ok : OKg g) {b : Nat} (hb : b < bcn g) : (∃ h, h < cnt g ∧ ¬ arc g h ∧ g (290 + 9 * b) = nI h) ∧ ∀ f, f < 8 → Let (g (290 + 9 * b + 1 + f)) := by
  obtain ⟨⟨a1, a2, a3⟩, a4⟩ := ok_bra ok hb
  exact ⟨⟨hd g b, a2, a3, a1⟩, a4⟩
theorem ok_hT {g : Arr} (ok : OKg g) {t : Nat} (ht : t < 26) : g (335 + t) = m1 ∨ ∃ h, h < cnt g ∧ ¬ arc g h ∧ g (335 + t) = nI h := by
  rcases ok_tag ok ht with z | ⟨a1, a2, a3⟩
  · exact .inl z
  · exact .inr ⟨tg g t, a2, a3, a1⟩
/-- agreement -/
def Agr (g g' : Arr) : Prop := g' 0 = g 0 ∧ g' 1 = g 1 ∧ (∀ j, 2 ≤ j → j < 2 + 12 * cnt g → g' j = g j) ∧ ∀ j, 290 ≤ j → j < 361 → g' j = g j
theorem Agr.all {g g' : Arr} (c : cnt g ≤ 24) (h : ∀ j, j < 361 → g' j = g j) : Agr g g' := ⟨h 0 (by omega), h 1 (by omega), fun j _ h2 => h j (by omega), fun j _ h2 => h j h2⟩
theorem OK_agr {g g' : Arr} (ok : OKg g) (A : Agr g g') : OKg g' ∧ cnt g' = cnt g ∧ bcn g' = bcn g := by
  obtain ⟨A0, A1, A2, A3⟩ := A
  have h5 := ok_b5 ok
  refine OK_of (g := g) (by rw [A0]; exact ok_cnt ok) (ok_c1 ok) (ok_c24 ok) (by rw [A1]; exact ok_bcn ok) (ok_b1 ok) (ok_b5 ok) (fun r hr => RevOk_cong hr A2 (ok_rev ok hr)) (fun b hb => ?_) (fun t ht => ?_)
  · obtain ⟨⟨h, hh, ha, he⟩, hL⟩ := ok_hB ok hb
    exact ⟨⟨h, hh, by rw [arc_cong hh A2]; exact ha, by rw [A3 _ (by omega) (by omega)]; exact he⟩, fun f hf => by rw [A3 _ (by omega) (by omega)]; exact hL f hf⟩
  · rw [A3 _ (by omega) (by omega)]
    rcases ok_hT ok ht with z | ⟨h, hh, ha, he⟩
    · exact .inl z
    · exact .inr ⟨h, hh, by rw [arc_cong hh A2]; exact ha, he⟩
theorem Rel_agr {W : Nat → Arr} {g g' : Arr} (ok : OKg g) (A : Agr g g') (R : RelS W g) : RelS W g' := by
  have hc := ok_c24 ok
  have h5 := ok_b5 ok
  obtain ⟨-, c0, b0⟩ := OK_agr ok A
  obtain ⟨A0, A1, A2, A3⟩ := A
  obtain ⟨⟨r1, r2⟩, r3, r4, r5, r6⟩ := R
  refine ⟨⟨by rw [A0]; exact r1, by rw [A1]; exact r2⟩, fun r hr => ?_, fun r hr => r4 r (by omega), fun b hb => ?_, fun t ht => ?_⟩
  · rw [c0] at hr
    exact RRev_cong hr A2 (fun _ _ _ => rfl) (r3 r hr)
  · rw [b0] at hb
    rw [A3 _ (by omega) (by omega)]
    exact ⟨(r5 b hb).1, fun f hf => by rw [A3 _ (by omega) (by omega)]; exact (r5 b hb).2 f hf⟩
  · rw [A3 _ (by omega) (by omega)]; exact r6 t ht
/-- a store read through cells that agree with it -/
theorem Rel_cell {W W' : Nat → Arr} {g : Arr} (ok : OKg g) (R : RelS W g) (w0 : W' 0 0 = W 0 0) (w1 : ∀ j, j < 2 → W' 1 j = W 1 j) (w : ∀ r, r < 24 → W' 3 r = W 3 r ∧ W' 5 r = W 5 r ∧ W' 7 r = W 7 r ∧ W' 9 r = W 9 r ∧ W' 11 r = W 11 r) (w13 : ∀ j, j < 192 → W' 13 j = W 13 j) (w15 : ∀ j, j < 5 → W' 15 j = W 15 j) (w17 : ∀ j, j < 40 → W' 17 j = W 17 j) (w19 : ∀ j, j < 26 → W' 19 j = W 19 j) : RelS W' g := by
  have hc := ok_c24 ok
  have h5 := ok_b5 ok
  obtain ⟨⟨r1, r2⟩, r3, r4, r5, r6⟩ := R
  refine ⟨⟨by rw [w1 1 (by omega)]; exact r1, by rw [w0]; exact r2⟩, fun r hr => ?_, fun r hr => by rw [w1 0 (by omega)]; exact r4 r hr, fun b hb => ?_, fun t ht => by rw [w19 t ht]; exact r6 t ht⟩
  · obtain ⟨⟨a1, a2, a3⟩, ⟨b1, b2⟩, c1, d1⟩ := r3 r hr
    obtain ⟨e1, e2, e3, e4, e5⟩ := w r (by omega)
    exact ⟨⟨by rw [e1]; exact a1, by rw [e2]; exact a2, by rw [e3]; exact a3⟩, ⟨by rw [e4]; exact b1, by rw [e5]; exact b2⟩, by rw [w1 0 (by omega)]; exact c1, fun f hf => by rw [w13 _ (by omega)]; exact d1 f hf⟩
  · exact ⟨by rw [w15 b (by omega)]; exact (r5 b hb).1, fun f hf => by rw [w17 _ (by omega)]; exact (r5 b hb).2 f hf⟩
/-! a branch's head and working document -/
def bwg (g : Arr) (b h : Nat) (L : Arr) : Arr := fun j => if j = 290 + 9 * b then nI h else if 290 + 9 * b + 1 ≤ j ∧ j < 290 + 9 * b + 1 + 8 then L (j - (290 + 9 * b + 1)) else g j
theorem bwg_h {g : Arr} {b h : Nat} {L : Arr} : bwg g b h L (290 + 9 * b) = nI h := if_pos rfl
theorem bwg_l {g : Arr} {b h f : Nat} {L : Arr} (hf : f < 8) : bwg g b h L (290 + 9 * b + 1 + f) = L f := by
  unfold bwg
  rw [if_neg (by omega), if_pos (by omega)]
  congr 1; omega
theorem bwg_o {g : Arr} {b h j : Nat} {L : Arr} (q : j < 290 + 9 * b ∨ 290 + 9 * b + 9 ≤ j) : bwg g b h L j = g j := by
  unfold bwg
  rw [if_neg (by omega), if_neg (by omega)]
theorem OK_bw {g : Arr} {b h : Nat} {L : Arr} (ok : OKg g) (hb : b < bcn g) (hh : h < cnt g) (ha : ¬ arc g h) (hL : ∀ f, f < 8 → Let (L f)) : OKg (bwg g b h L) ∧ cnt (bwg g b h L) = cnt g ∧ bcn (bwg g b h L) = bcn g := by
  have hc := ok_c24 ok
  have h5 := ok_b5 ok
  have e : ∀ j, 2 ≤ j → j < 2 + 12 * cnt g → bwg g b h L j = g j := fun j _ h2 => bwg_o (by omega)
  refine OK_of (g := g) (by rw [bwg_o (by omega)]; exact ok_cnt ok) (ok_c1 ok) (ok_c24 ok) (by rw [bwg_o (by omega)]; exact ok_bcn ok) (ok_b1 ok) (ok_b5 ok) (fun r hr => RevOk_cong hr e (ok_rev ok hr)) (fun b' hb' => ?_) (fun t ht => ?_)
  · by_cases q : b' = b
    · subst q
      exact ⟨⟨h, hh, by rw [arc_cong hh e]; exact ha, bwg_h⟩, fun f hf => by rw [bwg_l hf]; exact hL f hf⟩
    · obtain ⟨⟨h', hh', ha', he'⟩, hL'⟩ := ok_hB ok hb'
      exact ⟨⟨h', hh', by rw [arc_cong hh' e]; exact ha', by rw [bwg_o (by omega)]; exact he'⟩, fun f hf => by rw [bwg_o (by omega)]; exact hL' f hf⟩
  · rw [bwg_o (by omega)]
    rcases ok_hT ok ht with z | ⟨h', hh', ha', he'⟩
    · exact .inl z
    · exact .inr ⟨h', hh', by rw [arc_cong hh' e]; exact ha', he'⟩
theorem Rel_bw {W W' : Nat → Arr} {g : Arr} {b h : Nat} {L : Arr} (ok : OKg g) (hb : b < bcn g) (R : RelS W g) (w0 : W' 0 = W 0) (w : ∀ c, 1 ≤ c → c ≤ 13 → W' c = W c) (w15 : W' 15 = upd (W 15) b (nI h)) (w17 : W' 17 = fb_put (W 17) L (b * 8) 8) (w19 : W' 19 = W 19) : RelS W' (bwg g b h L) := by
  have hc := ok_c24 ok
  have h5 := ok_b5 ok
  have e : ∀ j, 2 ≤ j → j < 2 + 12 * cnt g → bwg g b h L j = g j := fun j _ h2 => bwg_o (by omega)
  have c0 : cnt (bwg g b h L) = cnt g := by unfold cnt; rw [bwg_o (by omega)]
  have b0 : bcn (bwg g b h L) = bcn g := by unfold bcn; rw [bwg_o (by omega)]
  obtain ⟨⟨r1, r2⟩, r3, r4, r5, r6⟩ := R
  refine ⟨⟨by rw [w 1 (by omega) (by omega), bwg_o (by omega)]; exact r1, by rw [w0, bwg_o (by omega)]; exact r2⟩, fun r hr => ?_, fun r hr => by rw [w 1 (by omega) (by omega)]; exact r4 r (by omega), fun b' hb' => ?_, fun t ht => by rw [w19, bwg_o (by omega)]; exact r6 t ht⟩
  · rw [c0] at hr
    exact RRev_cong hr e w (r3 r hr)
  · rw [b0] at hb'
    rw [w15, w17]
    by_cases q : b' = b
    · subst q
      exact ⟨by rw [up_e, bwg_h], fun f hf => by rw [fb_put_in (by omega) (by omega), bwg_l hf]; congr 1; omega⟩
    · exact ⟨by rw [up_n q, bwg_o (by omega)]; exact (r5 b' hb').1, fun f hf => by rw [fb_put_out (by omega), bwg_o (by omega)]; exact (r5 b' hb').2 f hf⟩
theorem Ag_d (g : Arr) (r : Nat) : Ag g r = (pw r ||| (if g (2 + 12 * r) = m1 then nI 0 else Aq g r (p1 g r))) ||| (if g (2 + 12 * r + 1) = m1 then nI 0 else Aq g r (p2 g r)) := by
  unfold Ag; rw [Aq, up_e]
theorem Gg_d (g : Arr) (r : Nat) : Gg g r = (if (if g (2 + 12 * r) = m1 then m1 else Gq g r (p1 g r)) < (if g (2 + 12 * r + 1) = m1 then m1 else Gq g r (p2 g r)) then (if g (2 + 12 * r + 1) = m1 then m1 else Gq g r (p2 g r)) else (if g (2 + 12 * r) = m1 then m1 else Gq g r (p1 g r))) + nI 1 := by
  unfold Gg; rw [Gq, up_e]
/-! a new revision, which becomes a head -/
def nrg (g : Arr) (b : Nat) (p : Nat) (x a : Int32) (L : Arr) : Arr := fun j =>
  if j = 0 then nI (cnt g + 1) else if j = 2 + 12 * cnt g then nI p else if j = 2 + 12 * cnt g + 1 then x else if j = 2 + 12 * cnt g + 2 then a else if j = 2 + 12 * cnt g + 3 then nI 0
  else if 2 + 12 * cnt g + 4 ≤ j ∧ j < 2 + 12 * cnt g + 4 + 8 then L (j - (2 + 12 * cnt g + 4)) else bwg g b (cnt g) L j
section NR
variable {g : Arr} {b p : Nat} {x a : Int32} {L : Arr}
theorem nrg_0 : nrg g b p x a L 0 = nI (cnt g + 1) := if_pos rfl
theorem nrg_p : nrg g b p x a L (2 + 12 * cnt g) = nI p := by unfold nrg; rw [if_neg (by omega), if_pos rfl]
theorem nrg_x : nrg g b p x a L (2 + 12 * cnt g + 1) = x := by unfold nrg; rw [if_neg (by omega), if_neg (by omega), if_pos rfl]
theorem nrg_a : nrg g b p x a L (2 + 12 * cnt g + 2) = a := by unfold nrg; rw [if_neg (by omega), if_neg (by omega), if_neg (by omega), if_pos rfl]
theorem nrg_z : nrg g b p x a L (2 + 12 * cnt g + 3) = nI 0 := by unfold nrg; rw [if_neg (by omega), if_neg (by omega), if_neg (by omega), if_neg (by omega), if_pos rfl]
theorem nrg_l {f : Nat} (hf : f < 8) : nrg g b p x a L (2 + 12 * cnt g + 4 + f) = L f := by
  unfold nrg; rw [if_neg (by omega), if_neg (by omega), if_neg (by omega), if_neg (by omega), if_neg (by omega), if_pos (by omega)]; congr 1; omega
theorem nrg_o {j : Nat} (h0 : j ≠ 0) (h : j < 2 + 12 * cnt g ∨ 2 + 12 * cnt g + 12 ≤ j) : nrg g b p x a L j = bwg g b (cnt g) L j := by
  unfold nrg; rw [if_neg (by omega), if_neg (by omega), if_neg (by omega), if_neg (by omega), if_neg (by omega), if_neg (by omega)]
theorem nrg_r (c : cnt g < 24) {j : Nat} (h0 : j ≠ 0) (h : j < 2 + 12 * cnt g) : nrg g b p x a L j = g j := by
  rw [nrg_o h0 (.inl h), bwg_o (by omega)]
theorem nr_cnt (c : cnt g < 24) : cnt (nrg g b p x a L) = cnt g + 1 := by show (nrg g b p x a L 0).toNatClampNeg = _; have c' : cnt g < 24 := c; rw [nrg_0, nI_clamp (by omega)]
theorem nr_bcn (c : cnt g < 24) : bcn (nrg g b p x a L) = bcn g := by unfold bcn; rw [nrg_r c (by omega) (by omega)]
theorem nr_e (c : cnt g < 24) : ∀ j, 2 ≤ j → j < 2 + 12 * cnt g → nrg g b p x a L j = g j := fun j _ h2 => nrg_r c (by omega) h2
theorem OK_nr (ok : OKg g) (c : cnt g < 24) (hb : b < bcn g) (hp : p < cnt g) (hpa : ¬ arc g p) (hx : x = m1 ∨ ∃ q, q < cnt g ∧ ¬ arc g q ∧ x = nI q) (ha : ∃ q, q < 10 ∧ a = nI q) (hL : ∀ f, f < 8 → Let (L f)) : OKg (nrg g b p x a L) := by
  have h5 := ok_b5 ok
  have e := nr_e (b := b) (p := p) (x := x) (a := a) (L := L) c
  have na : ¬ arc (nrg g b p x a L) (cnt g) := by unfold arc; rw [nrg_z]; decide
  have c1 := ok_c1 ok
  refine (OK_of (g := g) (c := cnt g + 1) (n := bcn g) nrg_0 (by omega) (by omega) (by rw [nrg_r c (by omega) (by omega)]; exact ok_bcn ok) (ok_b1 ok) (ok_b5 ok) (fun r hr => ?_) (fun b' hb' => ?_) (fun t ht => ?_)).1
  · rcases Nat.lt_or_ge r (cnt g) with q | q
    · exact RevOk_cong q e (ok_rev ok q)
    · have er : r = cnt g := by omega
      subst er
      have q1 : p1 (nrg g b p x a L) (cnt g) = p := by unfold p1; rw [nrg_p, nI_clamp (by omega)]
      refine ⟨.inr ⟨by omega, by rw [nrg_p, q1], by rw [q1]; exact hp, fun y => ?_⟩, ?_, ?_, .inl nrg_z, fun f hf => by rw [nrg_l hf]; exact hL f hf⟩
      · rw [q1, arc_cong hp e] at y; exact absurd y hpa
      · rw [nrg_x]
        rcases hx with z | ⟨q', z1, z2, z3⟩
        · exact .inl z
        · have q2 : p2 (nrg g b p x a L) (cnt g) = q' := by unfold p2; rw [nrg_x, z3, nI_clamp (by omega)]
          exact .inr ⟨by rw [q2]; exact z3, by rw [q2]; exact z1, fun y => by rw [q2, arc_cong z1 e] at y; exact absurd y z2⟩
      · obtain ⟨q', z1, z2⟩ := ha
        have q3 : aut (nrg g b p x a L) (cnt g) = q' := by unfold aut; rw [nrg_a, z2, nI_clamp (by omega)]
        exact ⟨by rw [nrg_a, q3]; exact z2, by rw [q3]; exact z1⟩
  · rw [nrg_o (by omega) (by omega)]
    by_cases q : b' = b
    · subst q
      exact ⟨⟨cnt g, by omega, na, bwg_h⟩, fun f hf => by rw [nrg_o (by omega) (by omega), bwg_l hf]; exact hL f hf⟩
    · obtain ⟨⟨h', hh', ha', he'⟩, hL'⟩ := ok_hB ok hb'
      exact ⟨⟨h', by omega, by rw [arc_cong hh' e]; exact ha', by rw [bwg_o (by omega)]; exact he'⟩, fun f hf => by rw [nrg_o (by omega) (by omega), bwg_o (by omega)]; exact hL' f hf⟩
  · rw [nrg_o (by omega) (by omega), bwg_o (by omega)]
    rcases ok_hT ok ht with z | ⟨h', hh', ha', he'⟩
    · exact .inl z
    · exact .inr ⟨h', by omega, by rw [arc_cong hh' e]; exact ha', he'⟩
theorem Rel_nr {W W' : Nat → Arr} (ok : OKg g) (c : cnt g < 24) (hb : b < bcn g) (hp : p < cnt g) (hx : x = m1 ∨ ∃ q, q < cnt g ∧ x = nI q) (R : RelS W g) (w0 : W' 0 = W 0) (w1 : W' 1 0 = W 1 0) (w1n : W' 1 1 = nI (cnt g + 1)) (w3 : W' 3 = upd (W 3) (cnt g) (nI p)) (w5 : W' 5 = upd (W 5) (cnt g) x) (w7 : W' 7 = upd (W 7) (cnt g) a)
    (w9 : W' 9 = upd (W 9) (cnt g) ((if Gg g p < (if x = m1 then m1 else Gg g x.toNatClampNeg) then (if x = m1 then m1 else Gg g x.toNatClampNeg) else Gg g p) + nI 1)) (w11 : W' 11 = upd (W 11) (cnt g) ((pw (cnt g) ||| Ag g p) ||| (if x = m1 then nI 0 else Ag g x.toNatClampNeg))) (w13 : W' 13 = fb_put (W 13) L (cnt g * 8) 8) (w15 : W' 15 = upd (W 15) b (nI (cnt g))) (w17 : W' 17 = fb_put (W 17) L (b * 8) 8) (w19 : W' 19 = W 19) : RelS W' (nrg g b p x a L) := by
  have h5 := ok_b5 ok
  have e := nr_e (b := b) (p := p) (x := x) (a := a) (L := L) c
  have c0 := nr_cnt (b := b) (p := p) (x := x) (a := a) (L := L) c
  have b0 := nr_bcn (b := b) (p := p) (x := x) (a := a) (L := L) c
  have c1 := ok_c1 ok
  have E : ∀ r, r ≤ cnt g → ∀ i, i < r → nrg g b p x a L (2 + 12 * i) = g (2 + 12 * i) ∧ nrg g b p x a L (2 + 12 * i + 1) = g (2 + 12 * i + 1) := fun r hr i hi => ⟨e _ (by omega) (by omega), e _ (by omega) (by omega)⟩
  have q1 : p1 (nrg g b p x a L) (cnt g) = p := by unfold p1; rw [nrg_p, nI_clamp (by omega)]
  have q2 : p2 (nrg g b p x a L) (cnt g) = x.toNatClampNeg := by unfold p2; rw [nrg_x]
  have np : ¬ nI p = m1 := nI_m1 (by omega)
  obtain ⟨⟨r1, r2⟩, r3, r4, r5, r6⟩ := R
  refine ⟨⟨by rw [w1n, nrg_0], by rw [w0, nrg_r c (by omega) (by omega)]; exact r2⟩, fun r hr => ?_, fun r hr => by rw [w1]; exact r4 r (by omega), fun b' hb' => ?_, fun t ht => by rw [w19, nrg_o (by omega) (by omega), bwg_o (by omega)]; exact r6 t ht⟩
  · rw [c0] at hr
    rcases Nat.lt_or_ge r (cnt g) with q | q
    · obtain ⟨⟨a1, a2, a3⟩, ⟨b1, b2⟩, d1, d2⟩ := r3 r q
      refine ⟨⟨?_, ?_, ?_⟩, ⟨?_, ?_⟩, ?_, fun f hf => ?_⟩
      · rw [w3, up_n (by omega), e _ (by omega) (by omega)]; exact a1
      · rw [w5, up_n (by omega), e _ (by omega) (by omega)]; exact a2
      · rw [w7, up_n (by omega), e _ (by omega) (by omega)]; exact a3
      · rw [w9, up_n (by omega), Gg_cong (E (r + 1) (by omega))]; exact b1
      · rw [w11, up_n (by omega), Ag_cong (E (r + 1) (by omega))]; exact b2
      · rw [w1, arc_cong q e]; exact d1
      · rw [w13, fb_put_out (by omega), e _ (by omega) (by omega)]; exact d2 f hf
    · have er : r = cnt g := by omega
      subst er
      refine ⟨⟨?_, ?_, ?_⟩, ⟨?_, ?_⟩, ?_, fun f hf => ?_⟩
      · rw [w3, up_e, nrg_p]
      · rw [w5, up_e, nrg_x]
      · rw [w7, up_e, nrg_a]
      · rw [w9, up_e]
        rw [Gg_d (nrg g b p x a L) (cnt g), nrg_p, nrg_x, if_neg np, q1, q2, Gq_cong (E (cnt g) (by omega)), Gq_st g hp]
        rcases hx with z | ⟨q', z1, z2⟩
        · subst z; rfl
        · subst z2
          have nq : ¬ nI q' = m1 := nI_m1 (by omega)
          simp only [nq, if_false, nI_clamp (show q' < 2 ^ 31 by omega), Gq_st g z1]
      · rw [w11, up_e]
        rw [Ag_d (nrg g b p x a L) (cnt g), nrg_p, nrg_x, if_neg np, q1, q2, Aq_cong (E (cnt g) (by omega)), Aq_st g hp]
        rcases hx with z | ⟨q', z1, z2⟩
        · subst z; rfl
        · subst z2
          have nq : ¬ nI q' = m1 := nI_m1 (by omega)
          simp only [nq, if_false, nI_clamp (show q' < 2 ^ 31 by omega), Aq_st g z1]
      · rw [w1, r4 (cnt g) (Nat.le_refl _)]
        unfold arc
        rw [nrg_z]
        exact ⟨fun h => absurd h (by decide), fun h => absurd h (by decide)⟩
      · rw [w13, fb_put_in (by omega) (by omega), nrg_l hf]; congr 1; omega
  · rw [b0] at hb'
    rw [w15, w17, nrg_o (by omega) (by omega)]
    by_cases q : b' = b
    · subst q
      exact ⟨by rw [up_e, bwg_h], fun f hf => by rw [nrg_o (by omega) (by omega), fb_put_in (by omega) (by omega), bwg_l hf]; congr 1; omega⟩
    · exact ⟨by rw [up_n q, bwg_o (by omega)]; exact (r5 b' hb').1, fun f hf => by rw [nrg_o (by omega) (by omega), fb_put_out (by omega), bwg_o (by omega)]; exact (r5 b' hb').2 f hf⟩
end NR
