/-! PURE, 59: a program is read, both sides -/
def FrB (V V' : Mem) : Prop := ∀ d, (d < 222 ∨ 248 ≤ d) → V' d = V d
theorem FrB.tr {V V1 V2 : Mem} (h : FrB V V1) (h2 : FrB V1 V2) : FrB V V2 := fun d hd => (h2 d hd).trans (h d hd)
theorem cmd_len {l : List Nat} {p : Nat} (hp : p ≤ l.length) (h : (cmd l p).1 = true) : (cmd l p).2.2.length = naK (kbK l p) ∧ p + 7 ≤ (cmd l p).2.1 ∧ (cmd l p).2.1 ≤ l.length := by
  have hk := kb_lt l p
  have a := rdf_len l (frm (kbK l p)) (true, p, []) hp h
  have b := rdf_all l (frm (kbK l p)) (true, p, []) hp
  have c := (b.2.2 h).2
  have d := (kw_len _ hk).2.2.1
  have e := (kw_sps _ hk).1
  refine ⟨?_, ?_, b.2.1⟩
  · unfold cmd; rw [a, e]; show 0 + _ = _; omega
  · have c : p + (frm (kbK l p)).length ≤ (cmd l p).2.1 := c
    omega
section PR
variable {l : List Nat} {j95 : Mem → Option (Int32 × Mem)}
theorem L19_0 {n : Nat} {V : Mem} {x : Int32} : f_X4_parse_L19 (n + 1) V 0 x = some V := by rw [f_X4_parse_L19.eq_2, if_pos rfl]
theorem L34_0 {n : Nat} {V : Mem} : f_X10_run_L34 j95 (n + 1) V 0 = j95 V := by rw [f_X10_run_L34.eq_2, if_pos rfl]
theorem pr_run (hl : l.length ≤ 60) : ∀ (m c p : Nat) (ck : Nat → Nat) (ca : Nat → Nat → Int32), c + m = 8 → 8 * c ≤ p → p ≤ l.length → (∀ i, i < c → ck i < 13) →
    (∃ n ck' ca', n ≤ 8 ∧ (∀ i, i < n → ck' i < 13) ∧ (∀ V : Mem, Txt V 249 60 l → V 222 2 = nI p → PC V c ck ca → ∀ f, m + 1 < f → ∃ V', f_X4_parse_L19 f V 1 (nI c) = some V' ∧ PC V' n ck' ca' ∧ V' 222 1 = V 222 1 ∧ FrB V V') ∧
      (∀ W : Mem, MTx W l → W 253 8 = nI p → W 253 10 = nI 0 → PM W c ck ca → ∀ f, m + 1 < f → ∃ W', f_X10_run_L34 j95 f W 1 = j95 W' ∧ PM W' n ck' ca' ∧ W' 253 10 = nI 0 ∧ FrP 0 W W')) ∨
    (∃ e, (∀ V : Mem, Txt V 249 60 l → V 222 2 = nI p → PC V c ck ca → ∀ f, m + 1 < f → ∃ V', f_X4_parse_L19 f V 1 (nI c) = some V' ∧ V' 222 1 = nI e ∧ FrB V V') ∧ e ≤ 60 ∧
      (∀ W : Mem, MTx W l → W 253 8 = nI p → W 253 10 = nI 0 → PM W c ck ca → ∀ f, m + 1 < f → ∃ W', f_X10_run_L34 j95 f W 1 = j95 W' ∧ W' 253 8 = nI e ∧ W' 253 10 = nI 1 ∧ FrP 0 W W')) := by
  intro m
  induction m with
  | zero => intro c p ck ca hc h8 hp _; omega
  | succ m ih =>
    intro c p ck ca hc h8 hp hk
    have hc8 : c < 8 := by omega
    have hpe := (rdf_all l (frm (kbK l p)) (true, p, []) hp).2.1
    have hpe : (cmd l p).2.1 ≤ l.length := hpe
    have hkb := kb_lt l p
    -- the class, one command
    have cC : ∀ V : Mem, Txt V 249 60 l → V 222 2 = nI p → PC V c ck ca → CB V V c p := fun V T h2 P => ⟨⟨h2, P.1, rfl⟩, fun _ _ _ _ => rfl⟩
    have cS : ∀ (f : Nat) (V : Mem), f_X4_parse_L19 (f + 1) V 1 (nI c) = bd (f_X4_readCommand V) fun r31 V31 => jn (α := Mem → Int32 → Option Mem) (fun j50 => jn (α := Mem → Option Mem) (fun j49 => if r31 = 0 then j49 V31 else bd (f_X4_readSemicolon V31) fun r39 V39 => if r39 = 0 then j49 V39 else j50 V39 1) (fun (V49 : Mem) => j50 V49 0)) (fun (V50 : Mem) (s0_50 : Int32) => (f_X4_parse_L19 f) V50 s0_50 (nI (c + 1))) := fun f V => by
      rw [f_X4_parse_L19.eq_2, if_neg (by decide), if_neg (show ¬ (8 : Int32) ≤ nI c from nI_ge (a := c) (b := 8) hc8 (by omega)), show nI c + 1 = nI (c + 1) from nI_1 _]
    by_cases hs : (cmd l p).1 = true
    · obtain ⟨n1, n2, n3⟩ := cmd_len hp hs
      -- both have the command
      have CC : ∀ V : Mem, Txt V 249 60 l → V 222 2 = nI p → PC V c ck ca → ∃ V1, f_X4_readCommand V = some (nI 1, V1) ∧ V1 222 2 = nI (cmd l p).2.1 ∧ V1 222 1 = V 222 1 ∧ Txt V1 249 60 l ∧ FrB V V1 ∧ PC V1 (c + 1) (fun i => if i = c then kbK l p else ck i) (fun i j => if i = c then nI (lg (cmd l p).2.2 j) else ca i j) := fun V T h2 P => by
        obtain ⟨V1, H⟩ := cx_cmd T hc8 hp (cC V T h2 P)
        rcases H with ⟨k, C, ek, _, e⟩ | ⟨_, _, z, _⟩
        · subst ek
          have fr : FrB V (stv V1 222 0 (nI (c + 1))) := fun d hd => by rw [st_n (by omega)]; exact C.2.2 d (by omega) (by omega) (by omega)
          refine ⟨_, e, by rw [st_e, up_n (by omega)]; exact C.1.1, by rw [st_e, up_n (by omega)]; exact C.1.2.2, Txt_of T (fr 249 (by omega)) (fr 250 (by omega)), fr, by rw [st_e, up_e], fun i hi => ?_⟩
          by_cases q : i = c
          · subst q
            show stv V1 222 0 _ (224 + 3 * i) 1 = nI (if i = i then kbK l p else ck i) ∧ ∀ j, j < naK (if i = i then kbK l p else ck i) → stv V1 222 0 _ (224 + 3 * i + 2) j = (if i = i then nI (lg (cmd l p).2.2 j) else ca i j)
            rw [if_pos rfl, st_n (by omega), st_n (by omega)]
            exact ⟨C.2.1.1, fun j hj => by rw [if_pos rfl]; exact C.2.1.2.2 j (by omega)⟩
          · show stv V1 222 0 _ (224 + 3 * i) 1 = nI (if i = c then kbK l p else ck i) ∧ ∀ j, j < naK (if i = c then kbK l p else ck i) → stv V1 222 0 _ (224 + 3 * i + 2) j = (if i = c then nI (lg (cmd l p).2.2 j) else ca i j)
            rw [if_neg q, st_n (by omega), st_n (by omega), C.2.2 _ (by omega) (by omega) (by omega), C.2.2 _ (by omega) (by omega) (by omega)]
            have := P.2 i (by omega)
            exact ⟨this.1, fun j hj => by rw [if_neg q]; exact this.2 j hj⟩
        · rw [hs] at z; exact Bool.noConfusion z
      have MM : ∀ W : Mem, MTx W l → W 253 8 = nI p → W 253 10 = nI 0 → PM W c ck ca → ∃ W1, f_X10_readCommand W = some W1 ∧ W1 253 8 = nI (cmd l p).2.1 ∧ W1 253 10 = nI 0 ∧ FrP 0 W W1 ∧ PM W1 (c + 1) (fun i => if i = c then kbK l p else ck i) (fun i j => if i = c then nI (lg (cmd l p).2.2 j) else ca i j) := fun W T h8 h10 P => by
        obtain ⟨W1, e, fr, a, b, d⟩ := ml_cmd T h8 h10 P.1 hp hc8
        rw [if_pos hs] at b
        obtain ⟨d1, d2, d3⟩ := d hs
        refine ⟨W1, e, a, b, fr.dn (by omega), d1, fun i hi => ?_⟩
        by_cases q : i = c
        · subst q
          show W1 264 (4 * i) = nI (if i = i then kbK l p else ck i) ∧ ∀ j, j < naK (if i = i then kbK l p else ck i) → W1 264 (4 * i + 1 + j) = (if i = i then nI (lg (cmd l p).2.2 j) else ca i j)
          rw [if_pos rfl]
          exact ⟨d2, fun j hj => by rw [if_pos rfl]; exact d3 j (by omega)⟩
        · show W1 264 (4 * i) = nI (if i = c then kbK l p else ck i) ∧ ∀ j, j < naK (if i = c then kbK l p else ck i) → W1 264 (4 * i + 1 + j) = (if i = c then nI (lg (cmd l p).2.2 j) else ca i j)
          rw [if_neg q]
          have := P.2 i (by omega)
          refine ⟨by rw [fr.2.2 (4 * i) (by omega)]; exact this.1, fun j hj => ?_⟩
          have : naK (ck i) ≤ 3 := (kw_sps _ (hk i (by omega))).2
          rw [if_neg q, fr.2.2 (4 * i + 1 + j) (by omega)]
          exact (P.2 i (by omega)).2 j hj
      have hk1 : ∀ i, i < c + 1 → (if i = c then kbK l p else ck i) < 13 := fun i hi => by
        by_cases q : i = c
        · rw [if_pos q]; exact hkb
        · rw [if_neg q]; exact hk i (by omega)
      rcases Nat.lt_or_ge (cmd l p).2.1 l.length with qe | qe
      · by_cases q59 : rng l (cmd l p).2.1 59 59 = true
        · -- a semicolon: on
          obtain ⟨r1, r2, r3⟩ := rng_T q59
          have CD : ∀ V : Mem, Txt V 249 60 l → V 222 2 = nI p → PC V c ck ca → ∃ V1, (∀ f, f_X4_parse_L19 (f + 1) V 1 (nI c) = f_X4_parse_L19 f V1 1 (nI (c + 1))) ∧ V1 222 2 = nI ((cmd l p).2.1 + 1) ∧ V1 222 1 = V 222 1 ∧ Txt V1 249 60 l ∧ FrB V V1 ∧ PC V1 (c + 1) (fun i => if i = c then kbK l p else ck i) (fun i j => if i = c then nI (lg (cmd l p).2.2 j) else ca i j) := fun V T h2 P => by
            obtain ⟨V1, e, a1, a2, a3, a4, a5⟩ := CC V T h2 P
            refine ⟨stv V1 222 2 (nI ((cmd l p).2.1 + 1)), fun f => ?_, by rw [st_e, up_e], by rw [st_e, up_n (by omega)]; exact a2, Txt_of a3 (st_n (by omega)) (st_n (by omega)), fun d hd => by rw [st_n (by omega)]; exact a4 d hd, by rw [st_e, up_n (by omega)]; exact a5.1, fun i hi => ?_⟩
            · rw [cS, e, bd_s, jn_d, jn_d, if_neg (show ¬ nI 1 = (0 : Int32) by decide)]
              unfold f_X4_readSemicolon
              rw [cx_sg a3 a1 (by omega), bd_s, sg_T qe, show lg l (cmd l p).2.1 = 59 by omega, if_pos (show nI 59 = (59 : Int32) from rfl), a1, show nI (cmd l p).2.1 + 1 = nI ((cmd l p).2.1 + 1) from nI_1 _, lt_d, bd_s, if_neg (by decide)]
            · rw [st_n (by omega), st_n (by omega)]; exact a5.2 i hi
          have MD : ∀ W : Mem, MTx W l → W 253 8 = nI p → W 253 10 = nI 0 → PM W c ck ca → ∃ W1, (∀ f, f_X10_run_L34 j95 (f + 1) W 1 = f_X10_run_L34 j95 f W1 1) ∧ MTx W1 l ∧ W1 253 8 = nI ((cmd l p).2.1 + 1) ∧ W1 253 10 = nI 0 ∧ FrP 0 W W1 ∧ PM W1 (c + 1) (fun i => if i = c then kbK l p else ck i) (fun i j => if i = c then nI (lg (cmd l p).2.2 j) else ca i j) := fun W T h8 h10 P => by
            obtain ⟨W1, e, a1, a2, a3, a4⟩ := MM W T h8 h10 P
            have T1 := T.of a3
            have M0 : MS W1 W1 244 (true, (cmd l p).2.1, []) := ⟨a1, by rw [a2]; rfl, fun _ j hj => absurd hj (Nat.not_lt_zero _), FrP.rf, rfl⟩
            obtain ⟨v, W2, e2, M2, _⟩ := ml_one (x := 59) (y := 59) T1 M0 hpe (show 59 < 128 by omega) (show 59 < 128 by omega) rfl rfl
            have eo : ons l 59 59 (true, (cmd l p).2.1, []) = (true, (cmd l p).2.1 + 1, []) := by
              unfold ons; rw [if_neg (show ¬ ((true, (cmd l p).2.1, []) : PSt).1 = false from fun z => Bool.noConfusion z), if_pos (show rng l (true, (cmd l p).2.1, ([] : List Nat)).2.1 59 59 = true from q59)]
            rw [eo] at M2
            have m10 : W2 253 10 = nI 0 := M2.2.1
            refine ⟨W2, fun f => ?_, T1.of M2.2.2.2.1, M2.1, m10, a3.tr (M2.2.2.2.1.dn (Nat.zero_le _)), by rw [M2.2.2.2.2]; exact a4.1, fun i hi => ?_⟩
            · rw [f_X10_run_L34.eq_2, if_neg (by decide), e, bv_s, jn_d, jn_d, if_pos (show W1 253 10 = 0 from a2), T1.1, a1, if_neg (nI_ge qe (by omega))]
              show (if (1 : Int32) = 0 then _ else _) = _
              rw [if_neg (by decide), e2, bd_s, jn_d, if_pos (show W2 253 10 = 0 from m10)]
            · have n3 := (kw_sps _ (hk1 i hi)).2
              refine ⟨by rw [M2.2.2.2.1.2.2 (4 * i) (by omega)]; exact (a4.2 i hi).1, fun j hj => ?_⟩
              have hj : j < naK (if i = c then kbK l p else ck i) := hj
              rw [M2.2.2.2.1.2.2 (4 * i + 1 + j) (by omega)]; exact (a4.2 i hi).2 j hj
          rcases ih (c + 1) ((cmd l p).2.1 + 1) (fun i => if i = c then kbK l p else ck i) (fun i j => if i = c then nI (lg (cmd l p).2.2 j) else ca i j) (by omega) (by omega) (by omega) hk1 with ⟨n, ck', ca', h1, h2, A, B⟩ | ⟨e, A, he, B⟩
          · refine .inl ⟨n, ck', ca', h1, h2, fun V T h2 P f hf => ?_, fun W T h8 h10 P f hf => ?_⟩
            · obtain ⟨f, rfl⟩ : ∃ n', f = n' + 1 := ⟨f - 1, by omega⟩
              obtain ⟨V1, e, b1, b2, b3, b4, b5⟩ := CD V T h2 P
              obtain ⟨V2, e2, d1, d2, d3⟩ := A V1 b3 b1 b5 f (by omega)
              exact ⟨V2, (e f).trans e2, d1, d2.trans b2, b4.tr d3⟩
            · obtain ⟨f, rfl⟩ : ∃ n', f = n' + 1 := ⟨f - 1, by omega⟩
              obtain ⟨W1, e, b1, b2, b3, b4, b5⟩ := MD W T h8 h10 P
              obtain ⟨W2, e2, d1, d2, d3⟩ := B W1 b1 b2 b3 b5 f (by omega)
              exact ⟨W2, (e f).trans e2, d1, d2, b4.tr d3⟩
          · refine .inr ⟨e, fun V T h2 P f hf => ?_, he, fun W T h8 h10 P f hf => ?_⟩
            · obtain ⟨f, rfl⟩ : ∃ n', f = n' + 1 := ⟨f - 1, by omega⟩
              obtain ⟨V1, e, b1, b2, b3, b4, b5⟩ := CD V T h2 P
              obtain ⟨V2, e2, d1, d3⟩ := A V1 b3 b1 b5 f (by omega)
              exact ⟨V2, (e f).trans e2, d1, b4.tr d3⟩
            · obtain ⟨f, rfl⟩ : ∃ n', f = n' + 1 := ⟨f - 1, by omega⟩
              obtain ⟨W1, e, b1, b2, b3, b4, b5⟩ := MD W T h8 h10 P
              obtain ⟨W2, e2, d1, d2, d3⟩ := B W1 b1 b2 b3 b5 f (by omega)
              exact ⟨W2, (e f).trans e2, d1, d2, b4.tr d3⟩
        · -- another sign
          refine .inr ⟨(cmd l p).2.1, fun V T h2 P f hf => ?_, by omega, fun W T h8 h10 P f hf => ?_⟩
          · obtain ⟨f, rfl⟩ : ∃ n', f = n' + 1 + 1 := ⟨f - 2, by omega⟩
            obtain ⟨V1, e, a1, a2, a3, a4, a5⟩ := CC V T h2 P
            refine ⟨stv V1 222 1 (nI (cmd l p).2.1), ?_, by rw [st_e, up_e], fun d hd => by rw [st_n (by omega)]; exact a4 d hd⟩
            have hch := tx_c T _ qe
            rw [cS, e, bd_s, jn_d, jn_d, if_neg (show ¬ nI 1 = (0 : Int32) by decide)]
            unfold f_X4_readSemicolon
            rw [cx_sg a3 a1 (by omega), bd_s, sg_T qe, if_neg (show ¬ nI (lg l (cmd l p).2.1) = (59 : Int32) from fun z => q59 (decide_eq_true (by have : lg l (cmd l p).2.1 = 59 := (nI_eq (b := 59) (by omega) (by omega)).mp z; exact ⟨qe, by omega, by omega⟩))), if_neg (show ¬ nI (lg l (cmd l p).2.1) = -1 from nI_m1 (by omega)), a1, lt_d, bd_s, if_pos rfl]
            exact L19_0
          · obtain ⟨f, rfl⟩ : ∃ n', f = n' + 1 + 1 := ⟨f - 2, by omega⟩
            obtain ⟨W1, e, a1, a2, a3, a4⟩ := MM W T h8 h10 P
            have T1 := T.of a3
            have M0 : MS W1 W1 244 (true, (cmd l p).2.1, []) := ⟨a1, by rw [a2]; rfl, fun _ j hj => absurd hj (Nat.not_lt_zero _), FrP.rf, rfl⟩
            obtain ⟨v, W2, e2, M2, _⟩ := ml_one (x := 59) (y := 59) T1 M0 hpe (show 59 < 128 by omega) (show 59 < 128 by omega) rfl rfl
            have eo : ons l 59 59 (true, (cmd l p).2.1, []) = (false, (cmd l p).2.1, []) := by
              unfold ons; rw [if_neg (show ¬ ((true, (cmd l p).2.1, []) : PSt).1 = false from fun z => Bool.noConfusion z), if_neg (show ¬ rng l (true, (cmd l p).2.1, ([] : List Nat)).2.1 59 59 = true from q59)]
            rw [eo] at M2
            have m10 : W2 253 10 = nI 1 := M2.2.1
            refine ⟨W2, ?_, M2.1, m10, a3.tr (M2.2.2.2.1.dn (Nat.zero_le _))⟩
            rw [f_X10_run_L34.eq_2, if_neg (by decide), e, bv_s, jn_d, jn_d, if_pos (show W1 253 10 = 0 from a2), T1.1, a1, if_neg (nI_ge qe (by omega))]
            show (if (1 : Int32) = 0 then _ else _) = _
            rw [if_neg (by decide), e2, bd_s, jn_d, m10, if_neg (show ¬ nI 1 = (0 : Int32) by decide)]
            exact L34_0
      · -- the end
        refine .inl ⟨c + 1, fun i => if i = c then kbK l p else ck i, fun i j => if i = c then nI (lg (cmd l p).2.2 j) else ca i j, by omega, hk1, fun V T h2 P f hf => ?_, fun W T h8 h10 P f hf => ?_⟩
        · obtain ⟨f, rfl⟩ : ∃ n', f = n' + 1 + 1 := ⟨f - 2, by omega⟩
          obtain ⟨V1, e, a1, a2, a3, a4, a5⟩ := CC V T h2 P
          refine ⟨V1, ?_, a5, a2, a4⟩
          rw [cS, e, bd_s, jn_d, jn_d, if_neg (show ¬ nI 1 = (0 : Int32) by decide)]
          unfold f_X4_readSemicolon
          rw [cx_sg a3 a1 (by omega), bd_s, sg_N qe, if_neg (show ¬ m1 = (59 : Int32) by decide), if_pos (show m1 = (-1 : Int32) by decide), bd_s, if_pos rfl]
          exact L19_0
        · obtain ⟨f, rfl⟩ : ∃ n', f = n' + 1 + 1 := ⟨f - 2, by omega⟩
          obtain ⟨W1, e, a1, a2, a3, a4⟩ := MM W T h8 h10 P
          have T1 := T.of a3
          refine ⟨W1, ?_, a4, a2, a3⟩
          rw [f_X10_run_L34.eq_2, if_neg (by decide), e, bv_s, jn_d, jn_d, if_pos (show W1 253 10 = 0 from a2), T1.1, a1, if_pos (nI_le qe (by omega))]
          show (if (0 : Int32) = 0 then _ else _) = _
          rw [if_pos rfl]
          exact L34_0
    · refine .inr ⟨(cmd l p).2.1, fun V T h2 P f hf => ?_, by omega, fun W T h8 h10 P f hf => ?_⟩
      · obtain ⟨f, rfl⟩ : ∃ n', f = n' + 1 + 1 := ⟨f - 2, by omega⟩
        obtain ⟨V1, H⟩ := cx_cmd T hc8 hp (cC V T h2 P)
        rcases H with ⟨_, _, _, z, _⟩ | ⟨p2, C, _, e⟩
        · exact absurd z hs
        · refine ⟨stv V1 222 1 (nI (cmd l p).2.1), ?_, by rw [st_e, up_e], fun d hd => by rw [st_n (by omega)]; exact C.2 d (by omega) (by omega) (by omega)⟩
          rw [cS, e, bd_s, jn_d, jn_d, if_pos (show nI 0 = (0 : Int32) from rfl)]
          exact L19_0
      · obtain ⟨f, rfl⟩ : ∃ n', f = n' + 1 + 1 := ⟨f - 2, by omega⟩
        obtain ⟨W1, e, fr, a, b, _⟩ := ml_cmd T h8 h10 P.1 hp hc8
        rw [if_neg hs] at b
        refine ⟨W1, ?_, a, b, fr.dn (Nat.zero_le _)⟩
        rw [f_X10_run_L34.eq_2, if_neg (by decide), e, bv_s, jn_d, jn_d, b, if_neg (show ¬ nI 1 = (0 : Int32) by decide)]
        show (if (0 : Int32) = 0 then _ else _) = _
        rw [if_pos rfl]
        exact L34_0
end PR
