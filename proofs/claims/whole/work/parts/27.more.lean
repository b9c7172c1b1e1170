/-! PURE, 27: a branch opened, one closed; tags; archive, told on arrays -/
def opg (g : Arr) (r : Nat) : Arr := bwg (upd g 1 (nI (bcn g + 1))) (bcn g) r (fun f => g (2 + 12 * r + 4 + f))
theorem opg_o {g : Arr} {r j : Nat} (h1 : j ≠ 1) (h : j < 290 + 9 * bcn g ∨ 290 + 9 * bcn g + 9 ≤ j) : opg g r j = g j := by
  unfold opg; rw [bwg_o h, up_n h1]
theorem opg_1 {g : Arr} {r : Nat} : opg g r 1 = nI (bcn g + 1) := by unfold opg; rw [bwg_o (by omega), up_e]
theorem opg_h {g : Arr} {r : Nat} : opg g r (290 + 9 * bcn g) = nI r := bwg_h
theorem opg_l {g : Arr} {r f : Nat} (hf : f < 8) : opg g r (290 + 9 * bcn g + 1 + f) = g (2 + 12 * r + 4 + f) := bwg_l hf
theorem OK_op {g : Arr} {r : Nat} (ok : OKg g) (hn : bcn g < 5) (hr : r < cnt g) (ha : ¬ arc g r) : OKg (opg g r) := by
  have hc := ok_c24 ok
  have e : ∀ j, 2 ≤ j → j < 2 + 12 * cnt g → opg g r j = g j := fun j h1 h2 => opg_o (by omega) (by omega)
  refine (OK_of (g := g) (c := cnt g) (n := bcn g + 1) (by rw [opg_o (by omega) (by omega)]; exact ok_cnt ok) (ok_c1 ok) hc opg_1 (by omega) (by omega) (fun r hr => RevOk_cong hr e (ok_rev ok hr)) (fun b hb => ?_) (fun t ht => ?_)).1
  · by_cases q : b = bcn g
    · subst q
      exact ⟨⟨r, hr, by rw [arc_cong hr e]; exact ha, opg_h⟩, fun f hf => by rw [opg_l hf]; exact ok_le ok hr hf⟩
    · obtain ⟨⟨h', hh', ha', he'⟩, hL'⟩ := ok_hB ok (show b < bcn g by omega)
      exact ⟨⟨h', hh', by rw [arc_cong hh' e]; exact ha', by rw [opg_o (by omega) (by omega)]; exact he'⟩, fun f hf => by rw [opg_o (by omega) (by omega)]; exact hL' f hf⟩
  · rw [opg_o (by omega) (by omega)]
    rcases ok_hT ok ht with z | ⟨h', hh', ha', he'⟩
    · exact .inl z
    · exact .inr ⟨h', hh', by rw [arc_cong hh' e]; exact ha', he'⟩
theorem Rel_op {W W' : Nat → Arr} {g : Arr} {r : Nat} (ok : OKg g) (hn : bcn g < 5) (hr : r < cnt g) (R : RelS W g) (w0 : W' 0 0 = nI (bcn g + 1)) (w : ∀ c, 1 ≤ c → c ≤ 13 → W' c = W c) (w15 : W' 15 = upd (W 15) (bcn g) (nI r)) (w17 : W' 17 = fb_put (W 17) (fun f => W 13 (r * 8 + f)) (bcn g * 8) 8) (w19 : W' 19 = W 19) : RelS W' (opg g r) := by
  have hc := ok_c24 ok
  have e : ∀ j, 2 ≤ j → j < 2 + 12 * cnt g → opg g r j = g j := fun j h1 h2 => opg_o (by omega) (by omega)
  have c0 : cnt (opg g r) = cnt g := by unfold cnt; rw [opg_o (by omega) (by omega)]
  have b0 : bcn (opg g r) = bcn g + 1 := by
    show (opg g r 1).toNatClampNeg = _
    rw [opg_1, nI_clamp (by omega)]
  obtain ⟨⟨r1, r2⟩, r3, r4, r5, r6⟩ := R
  refine ⟨⟨by rw [w 1 (by omega) (by omega), opg_o (by omega) (by omega)]; exact r1, by rw [w0, opg_1]⟩, fun r hr => ?_, fun r hr => by rw [w 1 (by omega) (by omega)]; exact r4 r (by omega), fun b hb => ?_, fun t ht => by rw [w19, opg_o (by omega) (by omega)]; exact r6 t ht⟩
  · rw [c0] at hr
    exact RRev_cong hr e w (r3 r hr)
  · rw [b0] at hb
    rw [w15, w17]
    by_cases q : b = bcn g
    · subst q
      refine ⟨by rw [up_e, opg_h], fun f hf => ?_⟩
      rw [fb_put_in (by omega) (by omega), opg_l hf, ← (r3 r hr).2.2.2 f hf]
      congr 1; omega
    · exact ⟨by rw [up_n q, opg_o (by omega) (by omega)]; exact (r5 b (by omega)).1, fun f hf => by rw [fb_put_out (by omega), opg_o (by omega) (by omega)]; exact (r5 b (by omega)).2 f hf⟩
/-! closed -/
def clg (g : Arr) (b : Nat) : Arr := fun j => if j = 1 then nI (bcn g - 1) else if 290 + 9 * b ≤ j ∧ j < 326 then g (j + 9) else if 326 ≤ j ∧ j < 335 then nI 0 else g j
theorem clg_o {g : Arr} {b j : Nat} (h1 : j ≠ 1) (h : j < 290 + 9 * b ∨ 335 ≤ j) (hj : j < 326 ∨ 335 ≤ j) : clg g b j = g j := by
  unfold clg; rw [if_neg h1, if_neg (by omega), if_neg (by omega)]
theorem clg_i {g : Arr} {b j : Nat} (h : 290 + 9 * b ≤ j) (hj : j < 326) : clg g b j = g (j + 9) := by
  unfold clg; rw [if_neg (by omega), if_pos ⟨h, hj⟩]
theorem clg_1 {g : Arr} {b : Nat} : clg g b 1 = nI (bcn g - 1) := if_pos rfl
theorem clg_c {g : Arr} {b j : Nat} (h1 : j ≠ 1) (h : j < 290) : clg g b j = g j := clg_o h1 (by omega) (by omega)
theorem OK_cl {g : Arr} {b : Nat} (ok : OKg g) (hb : b < bcn g) (hn : 1 < bcn g) : OKg (clg g b) := by
  have hc := ok_c24 ok
  have h5 := ok_b5 ok
  have e : ∀ j, 2 ≤ j → j < 2 + 12 * cnt g → clg g b j = g j := fun j h1 h2 => clg_c (by omega) (by omega)
  refine (OK_of (g := g) (c := cnt g) (n := bcn g - 1) (by rw [clg_c (by omega) (by omega)]; exact ok_cnt ok) (ok_c1 ok) hc clg_1 (by omega) (by omega) (fun r hr => RevOk_cong hr e (ok_rev ok hr)) (fun b' hb' => ?_) (fun t ht => ?_)).1
  · rcases Nat.lt_or_ge b' b with q | q
    · obtain ⟨⟨h', hh', ha', he'⟩, hL'⟩ := ok_hB ok (show b' < bcn g by omega)
      exact ⟨⟨h', hh', by rw [arc_cong hh' e]; exact ha', by rw [clg_o (by omega) (by omega) (by omega)]; exact he'⟩, fun f hf => by rw [clg_o (by omega) (by omega) (by omega)]; exact hL' f hf⟩
    · obtain ⟨⟨h', hh', ha', he'⟩, hL'⟩ := ok_hB ok (show b' + 1 < bcn g by omega)
      refine ⟨⟨h', hh', by rw [arc_cong hh' e]; exact ha', ?_⟩, fun f hf => ?_⟩
      · rw [clg_i (by omega) (by omega), ← he']; congr 1
      · rw [clg_i (by omega) (by omega)]
        have := hL' f hf
        rwa [show 290 + 9 * (b' + 1) + 1 + f = 290 + 9 * b' + 1 + f + 9 by omega] at this
  · rw [clg_o (by omega) (by omega) (by omega)]
    rcases ok_hT ok ht with z | ⟨h', hh', ha', he'⟩
    · exact .inl z
    · exact .inr ⟨h', hh', by rw [arc_cong hh' e]; exact ha', he'⟩
theorem Rel_cl {W W' : Nat → Arr} {g : Arr} {b : Nat} (ok : OKg g) (hb : b < bcn g) (hn : 1 < bcn g) (R : RelS W g) (w0 : W' 0 0 = nI (bcn g - 1)) (w : ∀ c, 1 ≤ c → c ≤ 13 → W' c = W c) (w15 : ∀ k, k < bcn g - 1 → W' 15 k = if b ≤ k then W 15 (k + 1) else W 15 k) (w17 : ∀ k f, k < bcn g - 1 → f < 8 → W' 17 (k * 8 + f) = if b ≤ k then W 17 ((k + 1) * 8 + f) else W 17 (k * 8 + f)) (w19 : W' 19 = W 19) : RelS W' (clg g b) := by
  have hc := ok_c24 ok
  have h5 := ok_b5 ok
  have e : ∀ j, 2 ≤ j → j < 2 + 12 * cnt g → clg g b j = g j := fun j h1 h2 => clg_c (by omega) (by omega)
  have c0 : cnt (clg g b) = cnt g := by unfold cnt; rw [clg_c (by omega) (by omega)]
  have b0 : bcn (clg g b) = bcn g - 1 := by
    show (clg g b 1).toNatClampNeg = _
    rw [clg_1, nI_clamp (by omega)]
  obtain ⟨⟨r1, r2⟩, r3, r4, r5, r6⟩ := R
  refine ⟨⟨by rw [w 1 (by omega) (by omega), clg_c (by omega) (by omega)]; exact r1, by rw [w0, clg_1]⟩, fun r hr => ?_, fun r hr => by rw [w 1 (by omega) (by omega)]; exact r4 r (by omega), fun b' hb' => ?_, fun t ht => by rw [w19, clg_o (by omega) (by omega) (by omega)]; exact r6 t ht⟩
  · rw [c0] at hr
    exact RRev_cong hr e w (r3 r hr)
  · rw [b0] at hb'
    rcases Nat.lt_or_ge b' b with q | q
    · exact ⟨by rw [w15 b' hb', if_neg (by omega), clg_o (by omega) (by omega) (by omega)]; exact (r5 b' (by omega)).1, fun f hf => by rw [w17 b' f hb' hf, if_neg (by omega), clg_o (by omega) (by omega) (by omega)]; exact (r5 b' (by omega)).2 f hf⟩
    · obtain ⟨z1, z2⟩ := r5 (b' + 1) (by omega)
      refine ⟨?_, fun f hf => ?_⟩
      · rw [w15 b' hb', if_pos q, clg_i (by omega) (by omega), z1]; congr 1
      · rw [w17 b' f hb' hf, if_pos q, clg_i (by omega) (by omega), z2 f hf]; congr 1; omega
/-! tags -/
theorem OK_tg {g : Arr} {t : Nat} {y : Int32} (ok : OKg g) (ht : t < 26) (hy : y = m1 ∨ ∃ r, r < cnt g ∧ ¬ arc g r ∧ y = nI r) : OKg (upd g (335 + t) y) := by
  have hc := ok_c24 ok
  have h5 := ok_b5 ok
  have e : ∀ j, 2 ≤ j → j < 2 + 12 * cnt g → upd g (335 + t) y j = g j := fun j h1 h2 => up_n (by omega)
  refine (OK_of (g := g) (c := cnt g) (n := bcn g) (by rw [up_n (by omega)]; exact ok_cnt ok) (ok_c1 ok) hc (by rw [up_n (by omega)]; exact ok_bcn ok) (ok_b1 ok) h5 (fun r hr => RevOk_cong hr e (ok_rev ok hr)) (fun b' hb' => ?_) (fun t' ht' => ?_)).1
  · obtain ⟨⟨h', hh', ha', he'⟩, hL'⟩ := ok_hB ok hb'
    exact ⟨⟨h', hh', by rw [arc_cong hh' e]; exact ha', by rw [up_n (by omega)]; exact he'⟩, fun f hf => by rw [up_n (by omega)]; exact hL' f hf⟩
  · by_cases q : t' = t
    · subst q
      rw [up_e]
      rcases hy with z | ⟨h', hh', ha', he'⟩
      · exact .inl z
      · exact .inr ⟨h', hh', by rw [arc_cong hh' e]; exact ha', he'⟩
    · rw [up_n (by omega)]
      rcases ok_hT ok ht' with z | ⟨h', hh', ha', he'⟩
      · exact .inl z
      · exact .inr ⟨h', hh', by rw [arc_cong hh' e]; exact ha', he'⟩
theorem Rel_tg {W W' : Nat → Arr} {g : Arr} {t : Nat} {y : Int32} (ok : OKg g) (ht : t < 26) (R : RelS W g) (w : ∀ c, c ≤ 18 → W' c = W c) (w19 : W' 19 = upd (W 19) t y) : RelS W' (upd g (335 + t) y) := by
  have hc := ok_c24 ok
  have h5 := ok_b5 ok
  have e : ∀ j, 2 ≤ j → j < 2 + 12 * cnt g → upd g (335 + t) y j = g j := fun j h1 h2 => up_n (by omega)
  have c0 : cnt (upd g (335 + t) y) = cnt g := by unfold cnt; rw [up_n (by omega)]
  have b0 : bcn (upd g (335 + t) y) = bcn g := by unfold bcn; rw [up_n (by omega)]
  obtain ⟨⟨r1, r2⟩, r3, r4, r5, r6⟩ := R
  refine ⟨⟨by rw [w 1 (by omega), up_n (by omega)]; exact r1, by rw [w 0 (by omega), up_n (by omega)]; exact r2⟩, fun r hr => ?_, fun r hr => by rw [w 1 (by omega)]; exact r4 r (by omega), fun b' hb' => ?_, fun t' ht' => ?_⟩
  · rw [c0] at hr
    exact RRev_cong hr e (fun c _ h => w c (by omega)) (r3 r hr)
  · rw [b0] at hb'
    rw [w 15 (by omega), w 17 (by omega), up_n (by omega)]
    exact ⟨(r5 b' hb').1, fun f hf => by rw [up_n (by omega)]; exact (r5 b' hb').2 f hf⟩
  · rw [w19]
    by_cases q : t' = t
    · subst q; rw [up_e, up_e]
    · rw [up_n q, up_n (by omega)]; exact r6 t' ht'
/-! what is in use -/
def usb (g : Arr) : Nat → Int32
  | 0 => nI 0
  | k + 1 => usb g k ||| Ag g (hd g k)
def ust (g : Arr) : Nat → Int32
  | 0 => usb g (bcn g)
  | k + 1 => ust g k ||| (if g (335 + k) = m1 then nI 0 else Ag g (tg g k))
def usd (g : Arr) : Int32 := ust g 26
theorem usb_bt (g : Arr) (q : Nat) : ∀ n, bt (usb g n) q = true ↔ ∃ b, b < n ∧ anc g (hd g b) q
  | 0 => by
    unfold usb; rw [bt_0]
    exact ⟨fun h => Bool.noConfusion h, fun ⟨b, h, _⟩ => absurd h (Nat.not_lt_zero _)⟩
  | n + 1 => by
    have ih := usb_bt g q n
    unfold usb; rw [b_or, Bool.or_eq_true, ih]
    constructor
    · rintro (⟨b, h1, h2⟩ | h)
      · exact ⟨b, by omega, h2⟩
      · exact ⟨n, by omega, h⟩
    · rintro ⟨b, h1, h2⟩
      by_cases e : b = n
      · subst e; exact .inr h2
      · exact .inl ⟨b, by omega, h2⟩
theorem ust_bt (g : Arr) (q : Nat) : ∀ n, bt (ust g n) q = true ↔ (∃ b, b < bcn g ∧ anc g (hd g b) q) ∨ ∃ t, t < n ∧ g (335 + t) ≠ m1 ∧ anc g (tg g t) q
  | 0 => by
    unfold ust; rw [usb_bt]
    exact ⟨fun h => .inl h, fun h => h.resolve_right (fun ⟨t, h, _⟩ => absurd h (Nat.not_lt_zero _))⟩
  | n + 1 => by
    have ih := ust_bt g q n
    unfold ust; rw [b_or, Bool.or_eq_true, ih]
    constructor
    · rintro ((h | ⟨t, h1, h2⟩) | h)
      · exact .inl h
      · exact .inr ⟨t, by omega, h2⟩
      · by_cases e : g (335 + n) = m1
        · rw [if_pos e, bt_0] at h; exact Bool.noConfusion h
        · rw [if_neg e] at h; exact .inr ⟨n, by omega, e, h⟩
    · rintro (h | ⟨t, h1, h2, h3⟩)
      · exact .inl (.inl h)
      · by_cases e : t = n
        · subst e; right; rw [if_neg h2]; exact h3
        · exact .inl (.inr ⟨t, by omega, h2, h3⟩)
theorem usd_bt (g : Arr) (q : Nat) : bt (usd g) q = true ↔ (∃ b, b < bcn g ∧ anc g (hd g b) q) ∨ ∃ t, t < 26 ∧ g (335 + t) ≠ m1 ∧ anc g (tg g t) q := ust_bt g q 26
theorem ok_tgc {g : Arr} (ok : OKg g) {t : Nat} (ht : t < 26) (h : g (335 + t) ≠ m1) : g (335 + t) = nI (tg g t) ∧ tg g t < cnt g ∧ ¬ arc g (tg g t) := (ok_tag ok ht).resolve_left h
/-- what is in use isn't archived; its ancestors are in use -/
theorem usd_arc {g : Arr} (ok : OKg g) {q : Nat} (h : bt (usd g) q = true) : ¬ arc g q ∧ q < cnt g := by
  rcases (usd_bt g q).mp h with ⟨b, h1, h2⟩ | ⟨t, h1, h2, h3⟩
  · have hh := ok_hc ok h1
    exact ⟨fun ha => (ok_bra ok h1).1.2.2 (anc_arc ok hh h2 ha), by have := anc_le ok hh h2; omega⟩
  · obtain ⟨z1, z2, z3⟩ := ok_tgc ok h1 h2
    exact ⟨fun ha => z3 (anc_arc ok z2 h3 ha), by have := anc_le ok z2 h3; omega⟩
theorem usd_tr {g : Arr} (ok : OKg g) {q s : Nat} (h : bt (usd g) q = true) (hs : anc g q s) : bt (usd g) s = true := by
  rcases (usd_bt g q).mp h with ⟨b, h1, h2⟩ | ⟨t, h1, h2, h3⟩
  · exact (usd_bt g s).mpr (.inl ⟨b, h1, anc_tr ok (ok_hc ok h1) h2 hs⟩)
  · exact (usd_bt g s).mpr (.inr ⟨t, h1, h2, anc_tr ok (ok_tgc ok h1 h2).2.1 h3 hs⟩)
/-! archived: behind n revisions -/
def arg (g : Arr) (u : Int32) (n : Nat) : Arr := fun j => if 2 ≤ j ∧ j < 2 + 12 * n ∧ (j - 2) % 12 = 3 ∧ bt u ((j - 2) / 12) = false then nI 1 else g j
theorem arg_3 {g : Arr} {u : Int32} {n r : Nat} : arg g u n (2 + 12 * r + 3) = if r < n ∧ bt u r = false then nI 1 else g (2 + 12 * r + 3) := by
  unfold arg
  have e1 : (2 + 12 * r + 3 - 2) % 12 = 3 := by omega
  have e2 : (2 + 12 * r + 3 - 2) / 12 = r := by omega
  rw [e1, e2]
  by_cases h : r < n ∧ bt u r = false
  · rw [if_pos h, if_pos ⟨by omega, by omega, rfl, h.2⟩]
  · rw [if_neg h, if_neg (fun q => h ⟨by omega, q.2.2.2⟩)]
theorem arg_o {g : Arr} {u : Int32} {n j : Nat} (h : j < 2 ∨ 2 + 12 * n ≤ j ∨ (j - 2) % 12 ≠ 3) : arg g u n j = g j := by
  unfold arg; rw [if_neg (by omega)]
theorem arg_0 {g : Arr} {u : Int32} : arg g u 0 = g := by
  funext j; exact arg_o (by omega)
theorem arg_s {g : Arr} {u : Int32} {n : Nat} : arg g u (n + 1) = if bt u n = false then upd (arg g u n) (2 + 12 * n + 3) (nI 1) else arg g u n := by
  funext j
  by_cases h : j = 2 + 12 * n + 3
  · subst h
    rw [arg_3]
    by_cases q : bt u n = false
    · rw [if_pos ⟨by omega, q⟩, if_pos q, up_e]
    · rw [if_neg (fun z => q z.2), if_neg q, arg_3, if_neg (fun z => q z.2)]
  · have e : arg g u (n + 1) j = arg g u n j := by
      unfold arg
      by_cases z : 2 ≤ j ∧ j < 2 + 12 * n ∧ (j - 2) % 12 = 3 ∧ bt u ((j - 2) / 12) = false
      · rw [if_pos z, if_pos ⟨z.1, by omega, z.2.2⟩]
      · rw [if_neg z, if_neg (fun y => z ⟨y.1, by omega, y.2.2⟩)]
    rw [e]
    by_cases q : bt u n = false
    · rw [if_pos q, up_n h]
    · rw [if_neg q]
theorem arg_arc {g : Arr} {u : Int32} {n r : Nat} : arc (arg g u n) r ↔ (r < n ∧ bt u r = false) ∨ arc g r := by
  unfold arc
  rw [arg_3]
  by_cases h : r < n ∧ bt u r = false
  · rw [if_pos h]; exact ⟨fun _ => .inl h, fun _ => rfl⟩
  · rw [if_neg h]; exact ⟨fun z => .inr z, fun z => z.resolve_left h⟩
theorem OK_ar {g : Arr} (ok : OKg g) : OKg (arg g (usd g) (cnt g)) := by
  have hc := ok_c24 ok
  have h5 := ok_b5 ok
  have used : ∀ r, r < cnt g → bt (usd g) r = true → ¬ arc (arg g (usd g) (cnt g)) r := fun r _ hu ha => by
    rcases arg_arc.mp ha with z | z
    · rw [hu] at z; exact Bool.noConfusion z.2
    · exact (usd_arc ok hu).1 z
  have hnd : ∀ r q, r < cnt g → anc g r q → arc (arg g (usd g) (cnt g)) q → arc (arg g (usd g) (cnt g)) r := fun r q hr ha hq => by
    have hqr := anc_le ok hr ha
    rcases arg_arc.mp hq with z | z
    · refine arg_arc.mpr (.inl ⟨hr, ?_⟩)
      cases hu : bt (usd g) r
      · rfl
      · have := usd_tr ok hu ha; rw [z.2] at this; exact Bool.noConfusion this
    · exact arg_arc.mpr (.inr (anc_arc ok hr ha z))
  refine (OK_of (g := g) (c := cnt g) (n := bcn g) (by rw [arg_o (by omega)]; exact ok_cnt ok) (ok_c1 ok) hc (by rw [arg_o (by omega)]; exact ok_bcn ok) (ok_b1 ok) h5 (fun r hr => ?_) (fun b' hb' => ?_) (fun t' ht' => ?_)).1
  · have e0 : arg g (usd g) (cnt g) (2 + 12 * r) = g (2 + 12 * r) := arg_o (by omega)
    have e1 : arg g (usd g) (cnt g) (2 + 12 * r + 1) = g (2 + 12 * r + 1) := arg_o (by omega)
    have e2 : arg g (usd g) (cnt g) (2 + 12 * r + 2) = g (2 + 12 * r + 2) := arg_o (by omega)
    have q1 : p1 (arg g (usd g) (cnt g)) r = p1 g r := by unfold p1; rw [e0]
    have q2 : p2 (arg g (usd g) (cnt g)) r = p2 g r := by unfold p2; rw [e1]
    have q3 : aut (arg g (usd g) (cnt g)) r = aut g r := by unfold aut; rw [e2]
    obtain ⟨h1, h2, h3, h4, h5⟩ := ok_rev ok hr
    refine ⟨?_, ?_, by rw [e2, q3]; exact h3, ?_, fun f hf => by rw [arg_o (by omega)]; exact h5 f hf⟩
    · rw [e0, e1, q1]
      rcases h1 with z | ⟨z, z1, z2, z3⟩
      · exact .inl z
      · refine .inr ⟨z, z1, z2, hnd r _ hr ((anc_iff ok hr).mpr (.inr (.inl ⟨?_, anc_self ok (by omega)⟩)))⟩
        rw [z1]; exact nI_m1 (by omega)
    · rw [e1, q2]
      rcases h2 with z | ⟨z1, z2, z3⟩
      · exact .inl z
      · refine .inr ⟨z1, z2, hnd r _ hr ((anc_iff ok hr).mpr (.inr (.inr ⟨?_, anc_self ok (by omega)⟩)))⟩
        rw [z1]; exact nI_m1 (by omega)
    · rw [arg_3]
      split
      · exact .inr rfl
      · exact h4
  · obtain ⟨⟨z1, z2, z3⟩, hL'⟩ := ok_bra ok hb'
    exact ⟨⟨hd g b', z2, used _ z2 ((usd_bt g _).mpr (.inl ⟨b', hb', anc_self ok z2⟩)), by rw [arg_o (by omega)]; exact z1⟩, fun f hf => by rw [arg_o (by omega)]; exact hL' f hf⟩
  · rw [arg_o (by omega)]
    by_cases e : g (335 + t') = m1
    · exact .inl e
    · obtain ⟨z1, z2, z3⟩ := ok_tgc ok ht' e
      exact .inr ⟨tg g t', z2, used _ z2 ((usd_bt g _).mpr (.inr ⟨t', ht', e, anc_self ok z2⟩)), z1⟩
theorem Rel_ar {W W' : Nat → Arr} {g : Arr} (ok : OKg g) (R : RelS W g) (w : ∀ c, c ≠ 1 → W' c = W c) (w1 : W' 1 1 = W 1 1) (w1a : ∀ q, bt (W' 1 0) q = (bt (W 1 0) q || (decide (q < cnt g) && !bt (usd g) q))) : RelS W' (arg g (usd g) (cnt g)) := by
  have hc := ok_c24 ok
  have h5 := ok_b5 ok
  have c0 : cnt (arg g (usd g) (cnt g)) = cnt g := by
    show (arg g (usd g) (cnt g) 0).toNatClampNeg = _
    rw [arg_o (by omega)]; rfl
  have b0 : bcn (arg g (usd g) (cnt g)) = bcn g := by
    show (arg g (usd g) (cnt g) 1).toNatClampNeg = _
    rw [arg_o (by omega)]; rfl
  have E : ∀ i, arg g (usd g) (cnt g) (2 + 12 * i) = g (2 + 12 * i) ∧ arg g (usd g) (cnt g) (2 + 12 * i + 1) = g (2 + 12 * i + 1) := fun i => ⟨arg_o (by omega), arg_o (by omega)⟩
  obtain ⟨⟨r1, r2⟩, r3, r4, r5, r6⟩ := R
  refine ⟨⟨by rw [w1, arg_o (by omega)]; exact r1, by rw [w 0 (by omega), arg_o (by omega)]; exact r2⟩, fun r hr => ?_, fun r hr => ?_, fun b' hb' => ?_, fun t' ht' => by rw [w 19 (by omega), arg_o (by omega)]; exact r6 t' ht'⟩
  · rw [c0] at hr
    obtain ⟨⟨a1, a2, a3⟩, ⟨b1, b2⟩, d1, d2⟩ := r3 r hr
    refine ⟨⟨?_, ?_, ?_⟩, ⟨?_, ?_⟩, ?_, fun f hf => ?_⟩
    · rw [w 3 (by omega), (E r).1]; exact a1
    · rw [w 5 (by omega), (E r).2]; exact a2
    · rw [w 7 (by omega), arg_o (by omega)]; exact a3
    · rw [w 9 (by omega), Gg_cong (fun i _ => E i)]; exact b1
    · rw [w 11 (by omega), Ag_cong (fun i _ => E i)]; exact b2
    · rw [w1a, arg_arc, ← d1]
      cases bt (W 1 0) r <;> cases bt (usd g) r <;> simp [hr]
    · rw [w 13 (by omega), arg_o (by omega)]; exact d2 f hf
  · rw [c0] at hr
    rw [w1a, r4 r hr, decide_eq_false (by omega)]; rfl
  · rw [b0] at hb'
    rw [w 15 (by omega), w 17 (by omega), arg_o (by omega)]
    exact ⟨(r5 b' hb').1, fun f hf => by rw [arg_o (by omega)]; exact (r5 b' hb').2 f hf⟩
