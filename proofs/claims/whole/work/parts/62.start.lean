/-! PURE, 62: the memory at the start -/
def V0 (i : Nat) : Nat → Int32 :=
  if i < 220 then V0st (i % 20)
  else if i = 222 then (fun j => if j = 1 then -1 else 0)
  else if 224 ≤ i ∧ i < 248 then V0cm ((i - 224) % 3)
  else if i = 248 then (fun j => if j = 1 ∨ j = 2 then -1 else 0)
  else if i = 250 ∨ i = 252 then (fun j => if j = 0 then 16 else 0)
  else if i = 253 then (fun j => if j = 2 ∨ j = 3 then -1 else 0)
  else if i = 254 then mC 26
  else if i = 262 then letF 78
  else if i = 263 then begF 14
  else fun _ => 0
theorem V0_st {i : Nat} (h : i < 20) : V0 i = V0st i := by unfold V0; rw [if_pos (by omega), Nat.mod_eq_of_lt h]
theorem V0_220 : V0 220 = fun _ => 0 := rfl
theorem V0_248 : V0 248 = fun j => if j = 1 ∨ j = 2 then -1 else 0 := rfl
theorem V0_249 : V0 249 = fun _ => 0 := rfl
theorem V0_250 : V0 250 = fun j => if j = 0 then 16 else 0 := rfl
theorem V0_251 : V0 251 = fun _ => 0 := rfl
theorem V0_252 : V0 252 = fun j => if j = 0 then 16 else 0 := rfl
theorem V0_253 : V0 253 = fun j => if j = 2 ∨ j = 3 then -1 else 0 := rfl
theorem V0_254 : V0 254 = mC 26 := rfl
theorem V0_262 : V0 262 = letF 78 := rfl
theorem V0_263 : V0 263 = begF 14 := rfl
theorem g0_c : cnt (mC 26) = 1 := by decide +kernel
theorem g0_b : bcn (mC 26) = 1 := by decide +kernel
theorem g0_l : ∀ f, f < 8 → mC 26 (2 + 12 * 0 + 4 + f) = nI 97 := by decide +kernel
theorem g0_w : ∀ f, f < 8 → mC 26 (290 + 9 * 0 + 1 + f) = nI 97 := by decide +kernel
theorem g0_t : ∀ t, t < 26 → mC 26 (335 + t) = m1 := by decide +kernel
theorem g0_na : ¬ arc (mC 26) 0 := by unfold arc; decide +kernel
theorem g0_ok : OKg (mC 26) := by
  refine ⟨⟨by decide +kernel, by rw [g0_c]; omega, by rw [g0_c]; omega⟩, ⟨by decide +kernel, by rw [g0_b]; omega, by rw [g0_b]; omega⟩, fun r hr => ?_, fun b hb => ?_, fun t ht => .inl (g0_t t ht)⟩
  · rw [g0_c] at hr
    obtain rfl : r = 0 := by omega
    exact ⟨.inl ⟨rfl, by decide +kernel, by decide +kernel⟩, .inl (by decide +kernel), ⟨by decide +kernel, by decide +kernel⟩, .inl (by decide +kernel), fun f hf => ⟨97, by omega, by omega, g0_l f hf⟩⟩
  · rw [g0_b] at hb
    obtain rfl : b = 0 := by omega
    have e : hd (mC 26) 0 = 0 := by decide +kernel
    exact ⟨⟨by decide +kernel, by rw [e, g0_c]; omega, by rw [e]; exact g0_na⟩, fun f hf => ⟨97, by omega, by omega, g0_w f hf⟩⟩
theorem g0_rel : RelS V0 (mC 26) := by
  refine ⟨⟨by decide +kernel, by decide +kernel⟩, fun r hr => ?_, fun r hr => ?_, fun b hb => ?_, fun t ht => ?_⟩
  · rw [g0_c] at hr
    obtain rfl : r = 0 := by omega
    refine ⟨⟨by decide +kernel, by decide +kernel, by decide +kernel⟩, ⟨by decide +kernel, by decide +kernel⟩, ⟨fun z => ?_, fun z => absurd z g0_na⟩, fun f hf => ?_⟩
    · rw [show V0 1 0 = nI 0 from rfl, bt_0] at z; exact Bool.noConfusion z
    · exact ((by decide +kernel : ∀ f, f < 8 → V0 13 (0 * 8 + f) = nI 97) f hf).trans (g0_l f hf).symm
  · rw [show V0 1 0 = nI 0 from rfl, bt_0]
  · rw [g0_b] at hb
    obtain rfl : b = 0 := by omega
    exact ⟨by decide +kernel, fun f hf => ((by decide +kernel : ∀ f, f < 8 → V0 17 (0 * 8 + f) = nI 97) f hf).trans (g0_w f hf).symm⟩
  · exact ((by decide +kernel : ∀ t, t < 26 → V0 19 t = m1) t ht).trans (g0_t t ht).symm
theorem V0_tx {t : Nat} {M : Nat} (h : V0 (t + 1) = fun j => if j = 0 then 16 else 0) : TxB V0 t 0 M := by
  refine ⟨Nat.zero_le _, 16, .inl rfl, Nat.zero_le _, by rw [h]; rfl, fun j hj => ⟨0, by omega, ?_⟩⟩
  rw [h]
  show (if j + 1 = 0 then (16 : Int32) else 0) = nI 0
  rw [if_neg (by omega)]; rfl
theorem Inv_0 : Inv V0 := by
  refine ⟨⟨g0_ok, g0_rel⟩, ⟨0, 0, rfl, rfl, rfl, Nat.zero_le _, Nat.zero_le _, fun i hi => absurd hi (Nat.not_lt_zero _)⟩, .inl ⟨rfl, rfl⟩, ⟨rfl, rfl⟩, ⟨0, rfl, rfl, V0_tx V0_252, fun j hj => absurd hj (Nat.not_lt_zero _)⟩, ⟨0, rfl, rfl, V0_tx V0_250, fun j hj => absurd hj (Nat.not_lt_zero _)⟩, fun j hj => ?_, fun j hj => ?_⟩
  · rw [V0_262]; unfold letF; rw [if_pos hj]
  · rw [V0_263]; unfold begF; rw [if_pos hj]
