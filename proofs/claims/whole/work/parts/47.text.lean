/-! PURE, 47: texts, sign by sign -/
def lg (l : List Nat) (j : Nat) : Nat := l.getD j 0
theorem lg_l {l m : List Nat} {j : Nat} (h : j < l.length) : lg (l ++ m) j = lg l j := by
  unfold lg; rw [List.getD_eq_getElem?_getD, List.getD_eq_getElem?_getD, List.getElem?_append_left h]
theorem lg_r {l m : List Nat} {j : Nat} (h : l.length ≤ j) : lg (l ++ m) j = lg m (j - l.length) := by
  unfold lg; rw [List.getD_eq_getElem?_getD, List.getD_eq_getElem?_getD, List.getElem?_append_right h]
theorem lg_1 {c : Nat} : lg [c] 0 = c := rfl
theorem len1 {l : List Nat} {c : Nat} : (l ++ [c]).length = l.length + 1 := by rw [List.length_append]; rfl
/-- the bytes of a text: its capacity and its signs -/
def Buf (V : Mem) (t cap : Nat) (f : Nat → Nat) : Prop := V (t + 1) 0 = nI cap ∧ (cap = 16 ∨ cap = 34 ∨ cap = 70) ∧ ∀ j, j < cap → V (t + 1) (j + 1) = nI (f j) ∧ f j < 128
def Txt (V : Mem) (t M : Nat) (l : List Nat) : Prop := V t 1 = nI l.length ∧ l.length ≤ M ∧ ∃ cap f, Buf V t cap f ∧ l.length ≤ cap ∧ ∀ j, j < l.length → f j = lg l j
section TX
variable {V : Mem} {t M : Nat}
theorem bf_bln {cap : Nat} {f : Nat → Nat} (h : Buf V t cap f) : bln V t = cap := by
  unfold bln; rw [h.1, cl_n (by rcases h.2.1 with q | q | q <;> omega)]
theorem s0_n : ∀ {n : Nat}, n < 128 → nI n >>> ((0 : Int32) &&& 31) = nI n := fun {n} h => (by decide +kernel : ∀ n, n < 128 → nI n >>> ((0 : Int32) &&& 31) = nI n) n h
theorem l0_n : ∀ {n : Nat}, n < 128 → nI n <<< ((0 : Int32) &&& 31) = nI n := fun {n} h => (by decide +kernel : ∀ n, n < 128 → nI n <<< ((0 : Int32) &&& 31) = nI n) n h
theorem by_fit : ∀ {c : Nat}, c < 128 → fits .byte (.int (nI c)) = true := fun {c} h => (by decide +kernel : ∀ c, c < 128 → fits .byte (.int (nI c)) = true) c h
theorem by_nar : ∀ {c : Nat}, c < 128 → vp_nar .byte ((nI c).toInt8.toInt32) = nI c := fun {c} h => (by decide +kernel : ∀ c, c < 128 → vp_nar .byte ((nI c).toInt8.toInt32) = nI c) c h
theorem by_ch : ∀ {c : Nat}, c < 128 → (((nI c &&& 255) : Int32).toUInt32 % 65536).toInt32 = nI c := fun {c} h => (by decide +kernel : ∀ c, c < 128 → (((nI c &&& 255) : Int32).toUInt32 % 65536).toInt32 = nI c) c h
theorem cw_n : ∀ {c : Nat}, c < 128 → ((nI c).toUInt32 % 65536).toInt32 = nI c := fun {c} h => (by decide +kernel : ∀ c, c < 128 → ((nI c).toUInt32 % 65536).toInt32 = nI c) c h
theorem nc_A : ∀ m, m < 71 → 16 < m → m ≤ 34 → f_J5_newCapacity_0f7a4 V t (nI m) = (if bln V t = 16 then some (nI 34, V) else f_J5_newCapacity_0f7a4 V t (nI m)) := by
  intro m h1 h2 h3
  by_cases q : bln V t = 16
  · rw [if_pos q]
    unfold f_J5_newCapacity_0f7a4 f_J8_newLength_cabcc
    rw [q]
    have d : ∀ m, m < 71 → 16 < m → m ≤ 34 → (if ((nI m <<< ((0 : Int32) &&& 31)) - nI 16) < (nI 16 + ((2 : Int32) <<< ((0 : Int32) &&& 31))) then (nI 16 + ((2 : Int32) <<< ((0 : Int32) &&& 31))) else ((nI m <<< ((0 : Int32) &&& 31)) - nI 16)) = nI 18 := by decide +kernel
    rw [d m h1 h2 h3, if_neg (by decide), if_neg (by decide), bd_s, if_neg (by decide)]
    exact congrArg (fun x => some (x, V)) (by decide)
  · rw [if_neg q]
theorem nc_B : ∀ m, m < 71 → 34 < m → f_J5_newCapacity_0f7a4 V t (nI m) = (if bln V t = 34 then some (nI 70, V) else f_J5_newCapacity_0f7a4 V t (nI m)) := by
  intro m h1 h2
  by_cases q : bln V t = 34
  · rw [if_pos q]
    unfold f_J5_newCapacity_0f7a4 f_J8_newLength_cabcc
    rw [q]
    have d : ∀ m, m < 71 → 34 < m → (if ((nI m <<< ((0 : Int32) &&& 31)) - nI 34) < (nI 34 + ((2 : Int32) <<< ((0 : Int32) &&& 31))) then (nI 34 + ((2 : Int32) <<< ((0 : Int32) &&& 31))) else ((nI m <<< ((0 : Int32) &&& 31)) - nI 34)) = nI 36 := by decide +kernel
    rw [d m h1 h2, if_neg (by decide), if_neg (by decide), bd_s, if_neg (by decide)]
    exact congrArg (fun x => some (x, V)) (by decide)
  · rw [if_neg q]
theorem gr_b {cap n2 : Nat} {f : Nat → Nat} (h : Buf V t cap f) (hn : n2 = 34 ∨ n2 = 70) (hc : cap < n2) : growOk V t (nI n2) = true ∧ Buf (grow V t (nI n2)) t n2 (fun j => if j < cap then f j else 0) := by
  have hb := bf_bln h
  obtain ⟨h1, h2, h3⟩ := h
  have e2 := cl_n (show n2 < 2 ^ 31 by omega)
  constructor
  · unfold growOk
    rw [hb, e2]
    have a1 : (0 : Int32) ≤ nI n2 := nI_pos' (by omega)
    have a4 : ((List.range cap).all fun j => fits .byte (.int (V (t + 1) (j + 1)))) = true := by
      rw [List.all_eq_true]
      intro j hj
      have := List.mem_range.mp hj
      rw [(h3 j this).1]
      exact by_fit (h3 j this).2
    rw [a4, decide_eq_true a1, decide_eq_true (show n2 ≤ 72 by omega), decide_eq_true hc]; rfl
  · refine ⟨?_, by omega, fun j hj => ?_⟩
    · unfold grow; rw [vu_e, if_pos rfl]
    · unfold grow
      rw [vu_e, if_neg (by omega), Nat.add_sub_cancel, hb]
      unfold va_cpy
      show (if 0 ≤ j ∧ j < 0 + cap then V (t + 1) (0 + (j - 0) + 1) else 0) = nI (if j < cap then f j else 0) ∧ (if j < cap then f j else 0) < 128
      by_cases q : j < cap
      · rw [if_pos ⟨Nat.zero_le _, by omega⟩, if_pos q, show 0 + (j - 0) = j by omega]; exact h3 j q
      · rw [if_neg (by omega), if_neg q]; exact ⟨rfl, by omega⟩
theorem sb_le {a b : Nat} (ha : a < 2 ^ 30) (hb : b < 2 ^ 30) : (nI a - nI b ≤ 0) = (a ≤ b) := by
  have h := pk_sub_toInt ha hb
  apply propext
  rw [Int32.le_iff_toInt_le, h, show (0 : Int32).toInt = 0 by decide]; omega
theorem tx_en {cap m : Nat} {f : Nat → Nat} (h : Buf V t cap f) (hm : m ≤ cap + 2) (h60 : m < 71) : ∃ V1 cap1 f1, f_J5_ensureCapacityInternal_d00df V t (nI m) = some V1 ∧ Buf V1 t cap1 f1 ∧ m ≤ cap1 ∧ cap ≤ cap1 ∧ (∀ j, j < cap → f1 j = f j) ∧ ∀ d, d ≠ t + 1 → V1 d = V d := by
  have hb := bf_bln h
  have h0 := h.2.1
  unfold f_J5_ensureCapacityInternal_d00df
  rw [hb, s0_n (by omega)]
  by_cases q : m ≤ cap
  · rw [if_pos (by rw [sb_le (by omega) (by omega)]; exact q)]
    exact ⟨V, cap, f, rfl, h, q, Nat.le_refl _, fun _ _ => rfl, fun _ _ => rfl⟩
  · rw [if_neg (by rw [sb_le (by omega) (by omega)]; exact q)]
    rcases h0 with e | e | e
    · subst e
      obtain ⟨g1, g2⟩ := gr_b h (.inl rfl) (by omega)
      refine ⟨grow V t (nI 34), 34, _, ?_, g2, by omega, by omega, fun j hj => if_pos hj, fun d hd => ?_⟩
      · rw [nc_A m (by omega) (by omega) (by omega), if_pos hb, bd_s, l0_n (by omega), if_pos g1]
      · unfold grow; rw [vu_n hd]
    · subst e
      obtain ⟨g1, g2⟩ := gr_b h (.inr rfl) (by omega)
      refine ⟨grow V t (nI 70), 70, _, ?_, g2, by omega, by omega, fun j hj => if_pos hj, fun d hd => ?_⟩
      · rw [nc_B m (by omega) (by omega), if_pos hb, bd_s, l0_n (by omega), if_pos g1]
      · unfold grow; rw [vu_n hd]
    · omega
/-- one sign written at the end -/
theorem bf_set {cap c i : Nat} {f : Nat → Nat} (h : Buf V t cap f) (hc : c < 128) : Buf (stv V (t + 1) (i + 1) (nI c)) t cap (fun j => if j = i then c else f j) := by
  obtain ⟨h1, h2, h3⟩ := h
  refine ⟨by rw [st_e, up_n (by omega)]; exact h1, h2, fun j hj => ?_⟩
  rw [st_e]
  show _ = nI (if j = i then c else f j) ∧ (if j = i then c else f j) < 128
  by_cases q : j = i
  · subst q; rw [up_e, if_pos rfl]; exact ⟨rfl, hc⟩
  · rw [up_n (by omega), if_neg q]; exact h3 j hj
theorem bf_t {cap k : Nat} {f : Nat → Nat} {x : Int32} (h : Buf V t cap f) : Buf (stv V t k x) t cap f := by
  unfold Buf; rw [st_n (by omega)]; exact h
theorem tx_ch {l : List Nat} {c : Nat} (T : Txt V t M l) (hM : l.length < M) (h60 : M < 70) (hc : c < 128) : ∃ V1, f_J4_append_cf468 V t (nI c) = some V1 ∧ Txt V1 t M (l ++ [c]) ∧ ∀ d, d ≠ t → d ≠ t + 1 → V1 d = V d := by
  obtain ⟨t1, t2, cap, f, b, t3, t4⟩ := T
  obtain ⟨V1, cap1, f1, e, b1, c1, c2, c3, c4⟩ := tx_en b (m := l.length + 1) (by omega) (by omega)
  have n1 : V1 t 1 = nI l.length := by rw [c4 t (by omega)]; exact t1
  have hb := bf_bln (bf_t (k := 1) (x := nI (l.length + 1)) b1)
  refine ⟨stv (stv V1 t 1 (nI (l.length + 1))) (t + 1) (l.length + 1) (nI c), ?_, ⟨?_, ?_, cap1, _, bf_set (bf_t b1) hc, ?_, fun j hj => ?_⟩, fun d a b => ?_⟩
  · unfold f_J4_append_cf468 f_J5_append_3fe6f f_J5_isLatin1_aae02 f_J1_canEncode_fc78d
    rw [t1, show nI l.length + 1 = nI (l.length + 1) from nI_1 _, e, bv_s, if_neg (by decide), if_pos rfl, bd_s, if_neg (by decide), if_neg (show ¬ 255 < nI c from nI_nlt (a := 255) (by omega) (by omega)), bd_s, if_neg (by decide), n1, show nI l.length + 1 = nI (l.length + 1) from nI_1 _, lt_d, hb, if_pos (by rw [ib_T (by omega) (by rcases b1.2.1 with q | q | q <;> omega)]; trivial), lt_d, cl_n (by omega), by_nar hc, bv_s]
  · rw [st_n (by omega), st_e, up_e, len1]
  · rw [len1]; omega
  · rw [len1]; omega
  · rw [len1] at hj
    by_cases q : j = l.length
    · subst q; rw [if_pos rfl, lg_r (Nat.le_refl _), Nat.sub_self]; rfl
    · rw [if_neg q, c3 j (by omega), t4 j (by omega), lg_l (by omega)]
  · rw [st_n b, st_n a, c4 d b]
/-- a whole number below 100 -/
def dgs (n : Nat) : List Nat := if n < 10 then [48 + n] else [48 + n / 10, 48 + n % 10]
theorem dgs_lo {n : Nat} (h : n < 10) : dgs n = [48 + n] := if_pos h
theorem dgs_hi {n : Nat} (h : 10 ≤ n) : dgs n = [48 + n / 10, 48 + n % 10] := if_neg (by omega)
theorem ss_n {n : Nat} (h : n < 100) : f_J6_stringSize_0f7a4 V (nI n) = some (nI (dgs n).length, V) := by
  have d1 : ∀ n, n < 100 → ((-nI n ≤ -10) ↔ 10 ≤ n) ∧ ¬ (-nI n ≤ 10 * (-10 : Int32)) := by decide +kernel
  unfold f_J6_stringSize_0f7a4
  rw [jn_d, if_neg (show ¬ nI n < 0 from nI_pos (by omega))]
  show f_J6_stringSize_0f7a4_L16 (-nI n) 0 FU V (-10) 1 = _
  rw [show FU = 3998 + 1 + 1 by decide, f_J6_stringSize_0f7a4_L16.eq_2, if_neg (by decide)]
  rcases Nat.lt_or_ge n 10 with q | q
  · rw [if_neg (by rw [(d1 n h).1]; omega), dgs_lo q]; rfl
  · rw [if_pos ((d1 n h).1.mpr q), f_J6_stringSize_0f7a4_L16.eq_2, if_neg (by decide), if_neg (d1 n h).2, dgs_hi q]; rfl
theorem dg_n : ∀ {n : Nat}, n < 100 → - -nI n = nI n ∧ vp_nar .byte (digOf 2 n) = nI (48 + n % 10) ∧ vp_nar .byte (digOf 3 n) = nI (48 + n / 10) ∧ (-100 < -nI n) ∧ (-9 ≤ -nI n ↔ n < 10) := fun {n} h => (by decide +kernel : ∀ n, n < 100 → - -nI n = nI n ∧ vp_nar .byte (digOf 2 n) = nI (48 + n % 10) ∧ vp_nar .byte (digOf 3 n) = nI (48 + n / 10) ∧ (-100 < -nI n) ∧ (-9 ≤ -nI n ↔ n < 10)) n h
theorem gc_1 {cap n i : Nat} {f : Nat → Nat} (b : Buf V t cap f) (h : n < 10) (hi : i < cap) : f_J6_getChars_ba4f3 V t (nI n) (nI (i + 1)) = some (nI i, stv V (t + 1) (i + 1) (nI (48 + n))) := by
  obtain ⟨d1, d2, d3, d4, d5⟩ := dg_n (show n < 100 by omega)
  have hb := bf_bln b
  have hcap := b.2.1
  have em : nI (i + 1) + (-1) = nI i := by rw [show (-1 : Int32) = m1 from rfl, add_m1 (by omega)]; rfl
  unfold f_J6_getChars_ba4f3
  rw [jn_d, if_pos (show (0 : Int32) ≤ nI n from nI_pos' (by omega))]
  show jn _ _ = _
  rw [jn_d, if_pos rfl]
  show jn _ _ = _
  rw [jn_d, show FU = 3999 + 1 by decide, f_J6_getChars_ba4f3_L22.eq_2, if_pos d4]
  show (if ib (- -nI n) 100 = true then _ else _) = _
  rw [d1, if_pos (by rw [ib_T (by omega) (by omega)]; trivial), em, hb, if_pos (by rw [ib_T hi (by omega)]; trivial), cl_n (by omega), cl_n (by omega), d2, lt_d, jn_d, if_pos (d5.mpr h)]
  show (if (0 : Int32) = 0 then _ else _) = _
  rw [if_pos rfl, Nat.mod_eq_of_lt h]
theorem gc_2 {cap n i : Nat} {f : Nat → Nat} (b : Buf V t cap f) (h : 10 ≤ n) (h2 : n < 100) (hi : i + 1 < cap) : f_J6_getChars_ba4f3 V t (nI n) (nI (i + 2)) = some (nI i, stv (stv V (t + 1) (i + 1 + 1) (nI (48 + n % 10))) (t + 1) (i + 1) (nI (48 + n / 10))) := by
  obtain ⟨d1, d2, d3, d4, d5⟩ := dg_n h2
  have hb := bf_bln b
  have hcap := b.2.1
  have hb2 := bf_bln (bf_set (i := i + 1) (c := 48 + n % 10) b (by omega))
  have em : nI (i + 2) + (-1) = nI (i + 1) := by rw [show (-1 : Int32) = m1 from rfl, add_m1 (by omega)]; rfl
  have em2 : nI (i + 1) + (-1) = nI i := by rw [show (-1 : Int32) = m1 from rfl, add_m1 (by omega)]; rfl
  unfold f_J6_getChars_ba4f3
  rw [jn_d, if_pos (show (0 : Int32) ≤ nI n from nI_pos' (by omega))]
  show jn _ _ = _
  rw [jn_d, if_pos rfl]
  show jn _ _ = _
  rw [jn_d, show FU = 3999 + 1 by decide, f_J6_getChars_ba4f3_L22.eq_2, if_pos d4]
  show (if ib (- -nI n) 100 = true then _ else _) = _
  rw [d1, if_pos (by rw [ib_T (by omega) (by omega)]; trivial), em, hb, if_pos (by rw [ib_T hi (by omega)]; trivial), cl_n (by omega), cl_n (by omega), d2, lt_d, jn_d, if_neg (by rw [d5]; omega), if_pos (by rw [ib_T (by omega) (by omega)]; trivial), em2, hb2, if_pos (by rw [ib_T (by omega) (by omega)]; trivial), cl_n (by omega), d3, lt_d]
  show (if (0 : Int32) = 0 then _ else _) = _
  rw [if_pos rfl]
theorem tx_in {l : List Nat} {n : Nat} (T : Txt V t M l) (hM : l.length + 2 ≤ M) (h60 : M < 70) (hn : n < 100) : ∃ V1, f_J4_append_bf812 V t (nI n) = some V1 ∧ Txt V1 t M (l ++ dgs n) ∧ ∀ d, d ≠ t → d ≠ t + 1 → V1 d = V d := by
  obtain ⟨t1, t2, cap, f, b, t3, t4⟩ := T
  rcases Nat.lt_or_ge n 10 with q | q
  · obtain ⟨V1, cap1, f1, e, b1, c1, c2, c3, c4⟩ := tx_en b (m := l.length + 1) (by omega) (by omega)
    have n1 : V1 t 1 = nI l.length := by rw [c4 t (by omega)]; exact t1
    rw [dgs_lo q]
    refine ⟨stv (stv V1 (t + 1) (l.length + 1) (nI (48 + n))) t 1 (nI (l.length + 1)), ?_, ⟨?_, ?_, cap1, _, bf_t (bf_set b1 (by omega)), ?_, fun j hj => ?_⟩, fun d a b => ?_⟩
    · unfold f_J4_append_bf812 f_J5_append_c97b9 f_J5_isLatin1_aae02
      rw [ss_n hn, bd_s, t1, dgs_lo q, show nI l.length + nI ([48 + n] : List Nat).length = nI (l.length + 1) from nI_add _ _, e, bv_s, if_neg (by decide), if_pos rfl, bd_s, if_neg (by decide), gc_1 b1 q (by omega), bd_s, lt_d, bv_s]
    · rw [st_e, up_e, len1]
    · rw [len1]; omega
    · rw [len1]; omega
    · rw [len1] at hj
      by_cases q : j = l.length
      · subst q; rw [if_pos rfl, lg_r (Nat.le_refl _), Nat.sub_self]; rfl
      · rw [if_neg q, c3 j (by omega), t4 j (by omega), lg_l (by omega)]
    · rw [st_n a, st_n b, c4 d b]
  · obtain ⟨V1, cap1, f1, e, b1, c1, c2, c3, c4⟩ := tx_en b (m := l.length + 2) (by omega) (by omega)
    have n1 : V1 t 1 = nI l.length := by rw [c4 t (by omega)]; exact t1
    have len2 : (l ++ [48 + n / 10, 48 + n % 10]).length = l.length + 2 := by rw [List.length_append]; rfl
    rw [dgs_hi q]
    refine ⟨stv (stv (stv V1 (t + 1) (l.length + 1 + 1) (nI (48 + n % 10))) (t + 1) (l.length + 1) (nI (48 + n / 10))) t 1 (nI (l.length + 2)), ?_, ⟨?_, ?_, cap1, _, bf_t (bf_set (bf_set b1 (by omega)) (by omega)), ?_, fun j hj => ?_⟩, fun d a b => ?_⟩
    · unfold f_J4_append_bf812 f_J5_append_c97b9 f_J5_isLatin1_aae02
      rw [ss_n hn, bd_s, t1, dgs_hi q, show nI l.length + nI ([48 + n / 10, 48 + n % 10] : List Nat).length = nI (l.length + 2) from nI_add _ _, e, bv_s, if_neg (by decide), if_pos rfl, bd_s, if_neg (by decide), gc_2 b1 q hn (by omega), bd_s, lt_d, bv_s]
    · rw [st_e, up_e, len2]
    · rw [len2]; omega
    · rw [len2]; omega
    · rw [len2] at hj
      by_cases q : j = l.length
      · subst q; rw [if_pos rfl, lg_r (Nat.le_refl _), Nat.sub_self]; rfl
      · rw [if_neg q]
        by_cases q2 : j = l.length + 1
        · subst q2; rw [if_pos rfl, lg_r (by omega), Nat.add_sub_cancel_left]; rfl
        · rw [if_neg q2, c3 j (by omega), t4 j (by omega), lg_l (by omega)]
    · rw [st_n a, st_n b, st_n b, c4 d b]
/-- a given text of one or two signs -/
def tws (w : Nat) : List Nat := (textOf w).map Int32.toNatClampNeg
theorem tws_ok : ∀ w, w < 17 → 12 < w → (tws w).length ≤ 2 ∧ (textOf w).length = (tws w).length ∧ ∀ j, j < 2 → (j < (tws w).length → (textOf w).getD j 0 = nI (lg (tws w) j) ∧ lg (tws w) j < 128) := by decide +kernel
theorem tx_st {l : List Nat} {w : Nat} (T : Txt V t M l) (hM : l.length + 2 ≤ M) (h60 : M < 70) (hw : w < 17) (hw2 : 12 < w) : ∃ V1, f_J4_append_15ec4 V t w = some V1 ∧ Txt V1 t M (l ++ tws w) ∧ ∀ d, d ≠ t → d ≠ t + 1 → V1 d = V d := by
  obtain ⟨w1, w2, w3⟩ := tws_ok w hw hw2
  obtain ⟨t1, t2, cap, f, b, t3, t4⟩ := T
  obtain ⟨V1, cap1, f1, e, b1, c1, c2, c3, c4⟩ := tx_en b (m := l.length + (tws w).length) (by omega) (by omega)
  have n1 : V1 t 1 = nI l.length := by rw [c4 t (by omega)]; exact t1
  have hb1 := bf_bln b1
  have hcap := b1.2.1
  have len2 : (l ++ tws w).length = l.length + (tws w).length := by rw [List.length_append]
  generalize hX : va_up V1 (t + 1) (fun j => if j = 0 then V1 (t + 1) 0 else va_cpy (fun j => (textOf w).getD j 0) (fun j => V1 (t + 1) (j + 1)) 0 l.length (tws w).length (j - 1)) = X
  have b2 : Buf X t cap1 (fun j => if l.length ≤ j ∧ j < l.length + (tws w).length then lg (tws w) (j - l.length) else f1 j) := by
    rw [← hX]
    refine ⟨by rw [vu_e, if_pos rfl]; exact b1.1, b1.2.1, fun j hj => ?_⟩
    rw [vu_e, if_neg (by omega), Nat.add_sub_cancel]
    unfold va_cpy
    show (if l.length ≤ j ∧ j < l.length + (tws w).length then (textOf w).getD (0 + (j - l.length)) 0 else V1 (t + 1) (j + 1)) = nI (if l.length ≤ j ∧ j < l.length + (tws w).length then lg (tws w) (j - l.length) else f1 j) ∧ (if l.length ≤ j ∧ j < l.length + (tws w).length then lg (tws w) (j - l.length) else f1 j) < 128
    by_cases q : l.length ≤ j ∧ j < l.length + (tws w).length
    · rw [if_pos q, if_pos q, Nat.zero_add]
      exact w3 _ (by omega) (by omega)
    · rw [if_neg q, if_neg q]; exact b1.2.2 j hj
  have xn : ∀ d, d ≠ t + 1 → X d = V1 d := fun d hd => by rw [← hX, vu_n hd]
  refine ⟨stv X t 1 (nI (l.length + (tws w).length)), ?_, ⟨?_, ?_, cap1, _, bf_t b2, ?_, fun j hj => ?_⟩, fun d a b => ?_⟩
  · have c0 : ∀ U : Mem, f_J0_coder_7d493 U w = some (0, U) := fun U => rfl
    have cp : cpOk 0 (nI l.length) (nI (tws w).length) (tws w).length cap1 = true := by
      have z1 : (0 : Int32) ≤ nI l.length := nI_pos' (by omega)
      have z2 : (0 : Int32) ≤ nI (tws w).length := nI_pos' (by omega)
      have z3 : (0 : Int32).toNatClampNeg = 0 := by decide
      simp only [cpOk, z1, z2, z3, cl_n (show (tws w).length < 2 ^ 31 by omega), cl_n (show l.length < 2 ^ 31 by omega), Int32.le_refl, decide_true, Bool.true_and, Bool.and_eq_true, decide_eq_true_eq]
      omega
    unfold f_J4_append_15ec4 f_J5_append_cf1ce f_J5_putStringAt_47b60 f_J0_length_8abf5 f_J5_inflateIfNeededFor_a7421 f_J0_getBytes_840e7
    rw [c0, bd_s, bd_s, w2, s0_n (by omega), t1, nI_add, e, bv_s, if_neg (by decide), c0, bd_s, if_pos rfl, bv_s, c0, bd_s, if_pos rfl, n1, l0_n (by omega), hb1, if_pos cp, lt_d, bv_s, bv_s, cl_n (by omega), cl_n (by omega), show (0 : Int32).toNatClampNeg = 0 by decide, hX, xn t (by omega), n1, nI_add, lt_d, bv_s]
  · rw [st_e, up_e, len2]
  · rw [len2]; omega
  · rw [len2]; omega
  · rw [len2] at hj
    by_cases q : l.length ≤ j
    · rw [if_pos ⟨q, hj⟩, lg_r q]
    · rw [if_neg (by omega), c3 j (by omega), t4 j (by omega), lg_l (by omega)]
  · rw [st_n a, xn d b, c4 d b]
theorem tx_clr {l : List Nat} (T : Txt V t M l) : ∃ V1, f_J4_setLength_d00df V t 0 = some V1 ∧ Txt V1 t M [] ∧ ∀ d, d ≠ t → d ≠ t + 1 → V1 d = V d := by
  obtain ⟨t1, t2, cap, f, b, t3, t4⟩ := T
  obtain ⟨V1, cap1, f1, e, b1, c1, c2, c3, c4⟩ := tx_en b (m := 0) (by omega) (by omega)
  have e : f_J5_ensureCapacityInternal_d00df V t 0 = some V1 := e
  have n1 : V1 t 1 = nI l.length := by rw [c4 t (by omega)]; exact t1
  have hcap := b.2.1
  unfold f_J4_setLength_d00df f_J5_setLength_d00df
  rw [if_pos (by decide), e, bv_s, n1, if_pos (show (0 : Int32) ≤ nI l.length from nI_pos' (by omega)), jn_d]
  by_cases q : nI l.length ≤ 0
  · rw [if_pos q]
    refine ⟨stv V1 t 1 (nI 0), ?_, ⟨by rw [st_e, up_e]; rfl, Nat.zero_le _, cap1, f1, bf_t b1, Nat.zero_le _, fun j hj => absurd hj (Nat.not_lt_zero _)⟩, fun d a b => ?_⟩
    · show bv (lt (stv V1 t 1 0) _) _ = _
      rw [lt_d, bv_s]; rfl
    · rw [st_n a, c4 d b]
  · rw [if_neg q]
    refine ⟨stv (stv V1 t 0 1) t 1 (nI 0), ?_, ⟨by rw [st_e, up_e]; rfl, Nat.zero_le _, cap1, f1, bf_t (bf_t b1), Nat.zero_le _, fun j hj => absurd hj (Nat.not_lt_zero _)⟩, fun d a b => ?_⟩
    · rw [lt_d]
      show bv (lt (stv (stv V1 t 0 1) t 1 0) _) _ = _
      rw [lt_d, bv_s]; rfl
    · rw [st_n a, st_n a, c4 d b]
theorem tx_ln {l : List Nat} (T : Txt V t M l) : f_J4_length_8abf5 V t = some (nI l.length, V) := by
  unfold f_J4_length_8abf5 f_J5_length_8abf5
  rw [bd_s, T.1]
theorem tx_at {l : List Nat} {j : Nat} (T : Txt V t M l) (hj : j < l.length) : f_J4_charAt_5068e V t (nI j) = some (nI (lg l j), V) ∧ lg l j < 128 := by
  obtain ⟨t1, t2, cap, f, b, t3, t4⟩ := T
  have hb := bf_bln b
  have hcap := b.2.1
  obtain ⟨z1, z2⟩ := b.2.2 j (by omega)
  rw [t4 j hj] at z1 z2
  refine ⟨?_, z2⟩
  have em : (if nI cap < nI l.length then nI cap else nI l.length) = nI l.length := if_neg (nI_nlt t3 (by omega))
  unfold f_J4_charAt_5068e f_J5_charAt_5068e f_J0_checkIndex_df160 f_J3_checkIndex_8e157
  rw [hb, s0_n (by omega), t1, em, if_neg (show ¬ nI j < 0 from nI_pos (by omega)), if_pos (nI_lt hj (by omega)), bd_s, bv_s, if_pos rfl, hb, if_pos (by rw [ib_T (by omega) (by omega)]; trivial), cl_n (by omega), z1, by_ch z2, bd_s, if_pos (cw_n z2)]
theorem tx_of {n : Nat} (h1 : V t 1 = nI n) (h : TxB V t n M) : ∃ l : List Nat, l.length = n ∧ Txt V t M l ∧ ∀ j, j < n → V (t + 1) (j + 1) = nI (lg l j) := by
  obtain ⟨hM, cap, hc, hn, h0, hj⟩ := h
  refine ⟨(List.range n).map (fun j => (V (t + 1) (j + 1)).toNatClampNeg), by rw [List.length_map, List.length_range], ⟨by rw [List.length_map, List.length_range]; exact h1, by rw [List.length_map, List.length_range]; exact hM, cap, fun j => (V (t + 1) (j + 1)).toNatClampNeg, ⟨h0, hc, fun j q => ?_⟩, by rw [List.length_map, List.length_range]; exact hn, fun j q => ?_⟩, fun j q => ?_⟩
  · obtain ⟨c, c1, c2⟩ := hj j q
    show _ = nI (V (t + 1) (j + 1)).toNatClampNeg ∧ (V (t + 1) (j + 1)).toNatClampNeg < 128
    rw [c2, cl_n (by omega)]; exact ⟨rfl, c1⟩
  · rw [List.length_map, List.length_range] at q
    unfold lg
    rw [List.getD_eq_getElem?_getD, List.getElem?_map, List.getElem?_range q]; rfl
  · have e : lg ((List.range n).map (fun j => (V (t + 1) (j + 1)).toNatClampNeg)) j = (V (t + 1) (j + 1)).toNatClampNeg := by
      unfold lg
      rw [List.getD_eq_getElem?_getD, List.getElem?_map, List.getElem?_range q]; rfl
    rw [e]
    obtain ⟨c, c1, c2⟩ := hj j (by omega)
    rw [c2, cl_n (by omega)]
theorem tx_B {l : List Nat} (T : Txt V t M l) : TxB V t l.length M ∧ ∀ j, j < l.length → V (t + 1) (j + 1) = nI (lg l j) := by
  obtain ⟨t1, t2, cap, f, b, t3, t4⟩ := T
  exact ⟨⟨t2, cap, b.2.1, t3, b.1, fun j hj => ⟨f j, (b.2.2 j hj).2, (b.2.2 j hj).1⟩⟩, fun j hj => by rw [(b.2.2 j (by omega)).1, t4 j hj]⟩
end TX
