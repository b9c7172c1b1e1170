/-! PURE, 34: how many bits -/
theorem and_sp (k : Nat) {a c : Nat} (m M : Nat) (ha : a < 2 ^ k) (hc : c < 2 ^ k) : (2 ^ k * m + a) &&& (2 ^ k * M + c) = 2 ^ k * (m &&& M) + (a &&& c) := by
  apply Nat.eq_of_testBit_eq
  intro j
  rw [Nat.testBit_and, Nat.testBit_two_pow_mul_add _ ha, Nat.testBit_two_pow_mul_add _ hc, Nat.testBit_two_pow_mul_add _ (Nat.and_lt_two_pow a hc)]
  by_cases h : j < k
  · rw [if_pos h, if_pos h, if_pos h, Nat.testBit_and]
  · rw [if_neg h, if_neg h, if_neg h, Nat.testBit_and]
theorem and_8 {a c : Nat} (m M : Nat) (ha : a < 256) (hc : c < 256) : (256 * m + a) &&& (256 * M + c) = 256 * (m &&& M) + (a &&& c) := and_sp 8 m M ha hc
def by1 (b : Nat) : Nat := b - ((b / 2) &&& 85)
def by2 (b : Nat) : Nat := (by1 b &&& 51) + ((by1 b / 4) &&& 51)
def pc8 (b : Nat) : Nat := fb_ct (fun i => b.testBit i) 8
theorem by_facts : ∀ b : Nat, b < 256 → ((b / 2) &&& 85) ≤ b ∧ (128 + b / 2) &&& 85 = (b / 2) &&& 85 ∧ by1 b < 256 ∧ (64 + by1 b / 4) &&& 51 = (by1 b / 4) &&& 51 ∧ (128 + by1 b / 4) &&& 51 = (by1 b / 4) &&& 51 ∧ (192 + by1 b / 4) &&& 51 = (by1 b / 4) &&& 51 ∧ by2 b < 256 ∧ by2 b % 16 ≤ 4 ∧ by2 b / 16 ≤ 4 ∧ by2 b % 16 + by2 b / 16 = pc8 b := by decide +kernel
theorem z1 {b : Nat} (m M : Nat) (hb : b < 256) : ((256 * m + b) / 2) &&& (256 * M + 85) = 256 * ((m / 2) &&& M) + ((b / 2) &&& 85) := by
  have f := by_facts b hb
  have e : (256 * m + b) / 2 = 256 * (m / 2) + (128 * (m % 2) + b / 2) := by omega
  rw [e, and_8 _ _ (by omega) (by omega)]
  rcases Nat.mod_two_eq_zero_or_one m with h | h
  · rw [h, Nat.mul_zero, Nat.zero_add]
  · rw [h, Nat.mul_one, f.2.1]
theorem z2 {b : Nat} (m M : Nat) (hb : b < 256) : ((256 * m + by1 b) / 4) &&& (256 * M + 51) = 256 * ((m / 4) &&& M) + ((by1 b / 4) &&& 51) := by
  have f := by_facts b hb
  have e : (256 * m + by1 b) / 4 = 256 * (m / 4) + (64 * (m % 4) + by1 b / 4) := by omega
  rw [e, and_8 _ _ (by omega) (by omega)]
  have h4 : m % 4 < 4 := Nat.mod_lt _ (by omega)
  rcases (show m % 4 = 0 ∨ m % 4 = 1 ∨ m % 4 = 2 ∨ m % 4 = 3 by omega) with h | h | h | h
  · rw [h, Nat.mul_zero, Nat.zero_add]
  · rw [h, Nat.mul_one, f.2.2.2.1]
  · rw [h, show 64 * 2 = 128 from rfl, f.2.2.2.2.1]
  · rw [h, show 64 * 3 = 192 from rfl, f.2.2.2.2.2.1]
theorem z3 {t : Nat} (m M : Nat) (h1 : t % 16 ≤ 4) (h2 : t / 16 ≤ 4) (h3 : m % 16 ≤ 4) : ((256 * m + t) + (256 * m + t) / 16) &&& (256 * M + 15) = 256 * ((m + m / 16) &&& M) + (t % 16 + t / 16) := by
  have e : (256 * m + t) + (256 * m + t) / 16 = 256 * (m + m / 16) + (t + 16 * (m % 16) + t / 16) := by omega
  rw [e, and_8 _ _ (by omega) (by omega)]
  have e2 : (t + 16 * (m % 16) + t / 16) &&& 15 = (t + 16 * (m % 16) + t / 16) % 16 := Nat.and_two_pow_sub_one_eq_mod _ 4
  rw [e2]
  omega
theorem and_0l (m : Nat) (c : Nat) : (256 * 0 + m) &&& c = m &&& c := by rw [Nat.mul_zero, Nat.zero_add]
theorem bc_end {a b c N3 N4 N5 : Nat} (ha : a ≤ 8) (hb : b ≤ 8) (hc : c ≤ 8) (h3 : N3 = 256 * (256 * c + b) + a) (h4 : N4 = N3 + N3 / 256) (h5 : N5 = N4 + N4 / 65536) : N5 % 64 = a + b + c := by
  have x1 : N3 / 256 = 256 * c + b := by omega
  have x2 : N4 = 65536 * c + 256 * (b + c) + (a + b) := by omega
  have x3 : N4 / 65536 = c := by omega
  omega
/-- the bits of three bytes, as the JDK counts them -/
theorem bc_nat {b0 b1 b2 : Nat} (h0 : b0 < 256) (h1 : b1 < 256) (h2 : b2 < 256) {n N1 N2 N3 N4 N5 : Nat} (hn : n = 256 * (256 * b2 + b1) + b0) (e1 : N1 = n - ((n / 2) &&& 1431655765)) (e2 : N2 = (N1 &&& 858993459) + ((N1 / 4) &&& 858993459)) (e3 : N3 = (N2 + N2 / 16) &&& 252645135) (e4 : N4 = N3 + N3 / 256) (e5 : N5 = N4 + N4 / 65536) : ((n / 2) &&& 1431655765) ≤ n ∧ N5 < 2 ^ 31 ∧ N1 < 2 ^ 31 ∧ N2 < 2 ^ 31 ∧ N2 + N2 / 16 < 2 ^ 31 ∧ N3 < 2 ^ 31 ∧ N4 < 2 ^ 31 ∧ N5 &&& 63 = pc8 b0 + pc8 b1 + pc8 b2 := by
  have f0 := by_facts b0 h0
  have f1 := by_facts b1 h1
  have f2 := by_facts b2 h2
  have q1 : (n / 2) &&& 1431655765 = 256 * (256 * ((b2 / 2) &&& 85) + ((b1 / 2) &&& 85)) + ((b0 / 2) &&& 85) := by
    rw [hn, show 1431655765 = 256 * 5592405 + 85 from rfl, z1 _ _ h0, show 5592405 = 256 * 21845 + 85 from rfl, z1 _ _ h1, show 21845 = 256 * 85 + 85 from rfl]
    have : (b2 / 2) &&& (256 * 85 + 85) = (b2 / 2) &&& 85 := by
      have := and_8 (a := b2 / 2) (c := 85) 0 85 (by omega) (by omega)
      rw [Nat.mul_zero, Nat.zero_add, Nat.zero_and, Nat.mul_zero, Nat.zero_add] at this
      exact this
    rw [this]
  have d1 : N1 = 256 * (256 * by1 b2 + by1 b1) + by1 b0 := by
    rw [e1, q1, hn]; unfold by1; omega
  have q2 : N2 = 256 * (256 * by2 b2 + by2 b1) + by2 b0 := by
    have a1 : N1 &&& 858993459 = 256 * (256 * (by1 b2 &&& 51) + (by1 b1 &&& 51)) + (by1 b0 &&& 51) := by
      rw [d1, show 858993459 = 256 * 3355443 + 51 from rfl, and_8 _ _ f0.2.2.1 (by omega), show 3355443 = 256 * 13107 + 51 from rfl, and_8 _ _ f1.2.2.1 (by omega), show 13107 = 256 * 51 + 51 from rfl]
      have := and_8 (a := by1 b2) (c := 51) 0 51 f2.2.2.1 (by omega)
      rw [Nat.mul_zero, Nat.zero_add, Nat.zero_and, Nat.mul_zero, Nat.zero_add] at this
      rw [this]
    have a2 : (N1 / 4) &&& 858993459 = 256 * (256 * ((by1 b2 / 4) &&& 51) + ((by1 b1 / 4) &&& 51)) + ((by1 b0 / 4) &&& 51) := by
      rw [d1, show 858993459 = 256 * 3355443 + 51 from rfl, z2 _ _ h0, show 3355443 = 256 * 13107 + 51 from rfl, z2 _ _ h1, show 13107 = 256 * 51 + 51 from rfl]
      have := and_8 (a := by1 b2 / 4) (c := 51) 0 51 (by omega) (by omega)
      rw [Nat.mul_zero, Nat.zero_add, Nat.zero_and, Nat.mul_zero, Nat.zero_add] at this
      rw [this]
    rw [e2, a1, a2]; unfold by2; omega
  have q3 : N3 = 256 * (256 * pc8 b2 + pc8 b1) + pc8 b0 := by
    rw [e3, q2, show 252645135 = 256 * 986895 + 15 from rfl, z3 _ _ f0.2.2.2.2.2.2.2.1 f0.2.2.2.2.2.2.2.2.1 (by omega), show 986895 = 256 * 3855 + 15 from rfl, z3 _ _ f1.2.2.2.2.2.2.2.1 f1.2.2.2.2.2.2.2.2.1 (by omega), show 3855 = 256 * 15 + 15 from rfl]
    have := z3 (t := by2 b2) 0 15 f2.2.2.2.2.2.2.2.1 f2.2.2.2.2.2.2.2.2.1 (by omega)
    rw [Nat.mul_zero, Nat.zero_add, Nat.zero_div, Nat.add_zero, Nat.zero_and, Nat.mul_zero, Nat.zero_add] at this
    rw [this]
    omega
  have e63 : N5 &&& 63 = N5 % 64 := Nat.and_two_pow_sub_one_eq_mod _ 6
  refine ⟨by rw [q1, hn]; omega, by omega, by omega, by omega, by omega, by omega, by omega, ?_⟩
  rw [e63]
  exact bc_end (by omega) (by omega) (by omega) q3 e4 e5
theorem pc_sp (m b : Nat) (hb : b < 256) (k : Nat) : fb_ct (fun i => (256 * m + b).testBit i) (8 + k) = pc8 b + fb_ct (fun i => m.testBit i) k := by
  rw [fb_ct_split]
  have e : ∀ i, (256 * m + b).testBit i = if i < 8 then b.testBit i else m.testBit (i - 8) := fun i => Nat.testBit_two_pow_mul_add (i := 8) m hb i
  congr 1
  · exact fb_ct_cong (fun i hi => by rw [e, if_pos hi])
  · exact fb_ct_cong (fun i hi => by rw [e, if_neg (by omega)]; congr 1; omega)
def pcn (x : Int32) : Nat := fb_ct (fun i => bt x i) 24
theorem nI_bt (n : Nat) {i : Nat} (hi : i < 32) : bt (nI n) i = n.testBit i := by
  show (BitVec.ofNat 32 n).getLsbD i = _
  rw [BitVec.getLsbD_ofNat]; simp [hi]
theorem fa_and (a b : Nat) : nI a &&& nI b = nI (a &&& b) := by
  apply Int32.toBitVec_inj.1
  show BitVec.ofNat 32 a &&& BitVec.ofNat 32 b = BitVec.ofNat 32 (a &&& b)
  apply BitVec.eq_of_getLsbD_eq
  intro i hi
  simp [hi]
theorem low_nat {x : Int32} (h : ∀ i, 24 ≤ i → i < 32 → bt x i = false) : ∃ n, n < 2 ^ 24 ∧ x = nI n := by
  refine ⟨x.toBitVec.toNat, ?_, ?_⟩
  · apply Nat.lt_pow_two_of_testBit
    intro i hi
    rcases Nat.lt_or_ge i 32 with q | q
    · exact h i hi q
    · exact Nat.testBit_lt_two_pow (Nat.lt_of_lt_of_le x.toBitVec.isLt (Nat.pow_le_pow_right (by decide) q))
  · apply Int32.toBitVec_inj.1
    show x.toBitVec = BitVec.ofNat 32 x.toBitVec.toNat
    simp
theorem us_1 {n : Nat} (h : n < 2 ^ 31) : ((nI n).toUInt32 >>> ((1 : Int32).toUInt32 &&& Int32.toUInt32 31)).toInt32 = nI (n / 2) := pk_ushrN (k := 1) (by omega) 1 (by decide)
theorem us_2 {n : Nat} (h : n < 2 ^ 31) : ((nI n).toUInt32 >>> ((2 : Int32).toUInt32 &&& Int32.toUInt32 31)).toInt32 = nI (n / 4) := pk_ushrN (k := 2) (by omega) 2 (by decide)
theorem us_4 {n : Nat} (h : n < 2 ^ 31) : ((nI n).toUInt32 >>> ((4 : Int32).toUInt32 &&& Int32.toUInt32 31)).toInt32 = nI (n / 16) := pk_ushrN (k := 4) (by omega) 4 (by decide)
theorem us_8 {n : Nat} (h : n < 2 ^ 31) : ((nI n).toUInt32 >>> ((8 : Int32).toUInt32 &&& Int32.toUInt32 31)).toInt32 = nI (n / 256) := pk_ushrN (k := 8) (by omega) 8 (by decide)
theorem us_16 {n : Nat} (h : n < 2 ^ 31) : ((nI n).toUInt32 >>> ((16 : Int32).toUInt32 &&& Int32.toUInt32 31)).toInt32 = nI (n / 65536) := pk_ushrN (k := 16) (by omega) 16 (by decide)
theorem cx_bc {V : Mem} {x : Int32} (h : ∀ i, 24 ≤ i → i < 32 → bt x i = false) : f_J6_bitCount_0f7a4 V x = some (nI (pcn x), V) := by
  obtain ⟨n, hn, rfl⟩ := low_nat h
  have P := bc_nat (b0 := n % 256) (b1 := n / 256 % 256) (b2 := n / 65536) (by omega) (by omega) (by omega) (n := n) (by omega) rfl rfl rfl rfl rfl
  have pc : pcn (nI n) = pc8 (n % 256) + pc8 (n / 256 % 256) + pc8 (n / 65536) := by
    have a0 : pcn (nI n) = fb_ct (fun i => n.testBit i) (8 + 16) := fb_ct_cong (fun i hi => nI_bt n (by omega))
    have a1 := pc_sp (n / 256) (n % 256) (by omega) 16
    have a2 := pc_sp (n / 65536) (n / 256 % 256) (by omega) 8
    rw [show 256 * (n / 256) + n % 256 = n by omega] at a1
    rw [show 256 * (n / 65536) + n / 256 % 256 = n / 256 by omega] at a2
    rw [a0, a1, show (16 : Nat) = 8 + 8 from rfl, a2]
    unfold pc8
    omega
  obtain ⟨p0, p5, p1, p2, p23, p3, p4, pe⟩ := P
  rw [pc, ← pe]
  unfold f_J6_bitCount_0f7a4
  generalize hN1 : n - (n / 2 &&& 1431655765) = N1 at *
  have x1 : nI n - ((((nI n).toUInt32 >>> ((1 : Int32).toUInt32 &&& Int32.toUInt32 31)).toInt32) &&& 1431655765) = nI N1 := by
    rw [us_1 (by omega), show (1431655765 : Int32) = nI 1431655765 from rfl, fa_and, sub_n p0, hN1]
  rw [x1]
  generalize hN2 : (N1 &&& 858993459) + (N1 / 4 &&& 858993459) = N2 at *
  have x2 : (nI N1 &&& 858993459) + ((((nI N1).toUInt32 >>> ((2 : Int32).toUInt32 &&& Int32.toUInt32 31)).toInt32) &&& 858993459) = nI N2 := by
    rw [us_2 p1, show (858993459 : Int32) = nI 858993459 from rfl, fa_and, fa_and, nI_add, hN2]
  rw [x2]
  generalize hN3 : (N2 + N2 / 16) &&& 252645135 = N3 at *
  have x3 : (nI N2 + ((nI N2).toUInt32 >>> ((4 : Int32).toUInt32 &&& Int32.toUInt32 31)).toInt32) &&& 252645135 = nI N3 := by
    rw [us_4 p2, show (252645135 : Int32) = nI 252645135 from rfl, nI_add, fa_and, hN3]
  rw [x3]
  generalize hN4 : N3 + N3 / 256 = N4 at *
  have x4 : nI N3 + ((nI N3).toUInt32 >>> ((8 : Int32).toUInt32 &&& Int32.toUInt32 31)).toInt32 = nI N4 := by
    rw [us_8 p3, nI_add, hN4]
  rw [x4, us_16 p4, nI_add, show (63 : Int32) = nI 63 from rfl, fa_and]
