def FU : Nat := 4000
/-- a point of the function where ways meet -/
def jn {α β : Type} (body : α → β) (k : α) : β := body k
theorem gj {α β : Type} {body : α → β} {k : α} {z : β} (hf : jn body k = z) : ∃ j, j = k ∧ body j = z := ⟨k, rfl, hf⟩
def lt {α β : Type} (a : α) (k : α → β) : β := k a
theorem gl {α β : Type} {a : α} {k : α → β} {z : β} (hf : lt a k = z) : ∃ y, y = a ∧ k y = z := ⟨a, rfl, hf⟩
def bd {α β : Type} (o : Option (α × Mem)) (k : α → Mem → Option β) : Option β := match o with
  | none => none
  | some (r, V) => k r V
theorem gbd {α β : Type} {o : Option (α × Mem)} {k : α → Mem → Option β} {z : β} (hf : bd o k = some z) : ∃ r V, o = some (r, V) ∧ k r V = some z := by
  cases o with
  | none => cases hf
  | some y => exact ⟨y.1, y.2, rfl, hf⟩
def bv {β : Type} (o : Option Mem) (k : Mem → Option β) : Option β := match o with
  | none => none
  | some V => k V
theorem gbv {β : Type} {o : Option Mem} {k : Mem → Option β} {z : β} (hf : bv o k = some z) : ∃ V, o = some V ∧ k V = some z := by
  cases o with
  | none => cases hf
  | some y => exact ⟨y, rfl, hf⟩
def ib (x : Int32) (n : Nat) : Bool := decide (0 ≤ x) && decide (x.toNatClampNeg < n)
theorem ib_in {x : Int32} {n : Nat} (h : ib x n = true) : vp_in x n := by
  simp only [ib, Bool.and_eq_true, decide_eq_true_eq] at h
  intro q
  rcases q with q | q
  · exact absurd h.1 (by rw [Int32.le_iff_toInt_le]; rw [Int32.lt_iff_toInt_lt] at q; omega)
  · omega
theorem bo_n {x : Int32} (h : x = 0 ∨ x = 1) : narrow .boolean (.int x) = .int x := by rcases h with rfl | rfl <;> rfl
theorem bo_f {x : Int32} (h : x = 0 ∨ x = 1) : fits .boolean (.int x) = true := by rcases h with rfl | rfl <;> rfl
def nan64 (r : UInt64) : Bool := decide (r &&& 0x7fffffffffffffff ≤ 0x7ff0000000000000)
theorem nan64_ok {r : UInt64} (h : nan64 r = true) : vf_n64 r := by simpa [nan64, vf_n64] using h
def nan32 (r : UInt32) : Bool := decide (r &&& 0x7fffffff ≤ 0x7f800000)
theorem nan32_ok {r : UInt32} (h : nan32 r = true) : vf_n32 r := by simpa [nan32, vf_n32] using h
theorem sw_ne {x z : Int32} (k : Int) (h : ¬ x = z) (hz : z.toInt = k := by decide) : x.toInt ≠ k := fun q => h (Int32.toInt_inj.mp (q.trans hz.symm))
theorem sw_out {x : Int32} (lo hi : Int) (h : ∀ k : Int, lo ≤ k → k ≤ hi → x.toInt ≠ k) : x.toInt < lo ∨ hi < x.toInt := by
  rcases Int.lt_or_le x.toInt lo with q | q
  · exact Or.inl q
  · rcases Int.lt_or_le hi x.toInt with q2 | q2
    · exact Or.inr q2
    · exact absurd rfl (h x.toInt q q2)
section R04
variable {p : Program} {l : Launch} {e : Env} {R : Room} {s : State} {m : MethodId} {args : Array Value} {below : List Frame} {meth : Method} {c : Code} {H : Heap} {locs : List Loc} {cells slots : Nat} {Q : State → Prop}
variable {E : En} {ad : Nat → Nat} {V V1 Vz : Mem} {ow : String} {b : ByteArray} {n index : Nat} {ret : Option FieldType} {pc : Nat} {ls : Array Slot} {rest : List Value}
theorem r_iret2 {x r : Int32} (hC : Cx p s m args c meth E ow b n (some .int)) (hI : In E ad V s H locs) (hf : some (x, V) = some (r, Vz)) (hd : decode b pc = .ok (.ireturn, 1)) : W p l e R s m args below meth c H locs cells slots (MQ below (QR E ad (some (.int r)) Vz) args s cells slots (ours E)) (F0 m pc ls [.int x]) := by
  cases hf; exact r_iret hC hI hd
theorem r_zret2 {x r : Int32} (hC : Cx p s m args c meth E ow b n (some .boolean)) (hI : In E ad V s H locs) (hx : x = 0 ∨ x = 1) (hf : some (x, V) = some (r, Vz)) (hd : decode b pc = .ok (.ireturn, 1)) : W p l e R s m args below meth c H locs cells slots (MQ below (QR E ad (some (.int r)) Vz) args s cells slots (ours E)) (F0 m pc ls [.int x]) := by
  cases hf; exact r_zret hC hI (bo_n hx) hd
theorem r_cret2 {x r : Int32} (hC : Cx p s m args c meth E ow b n (some .char)) (hI : In E ad V s H locs) (hf : some ((x.toUInt32 % 65536).toInt32, V) = some (r, Vz)) (hd : decode b pc = .ok (.ireturn, 1)) : W p l e R s m args below meth c H locs cells slots (MQ below (QR E ad (some (.int r)) Vz) args s cells slots (ours E)) (F0 m pc ls [.int (x.toUInt32 % 65536).toInt32]) := by
  cases hf; exact r_zret hC hI (pk_nc x) hd
theorem r_vret2 (hC : Cx p s m args c meth E ow b n none) (hI : In E ad V s H locs) (hf : some V = some Vz) (hd : decode b pc = .ok (.return_, 1)) : W p l e R s m args below meth c H locs cells slots (MQ below (QR E ad none Vz) args s cells slots (ours E)) (F0 m pc ls []) := by
  cases hf; exact r_vret hC hI hd
theorem r_dret2 {x r : UInt64} (hC : Cx p s m args c meth E ow b n (some .double)) (hI : In E ad V s H locs) (hf : some (x, V) = some (r, Vz)) (hd : decode b pc = .ok (.dreturn, 1)) : W p l e R s m args below meth c H locs cells slots (MQ below (QR E ad (some (.double r)) Vz) args s cells slots (ours E)) (F0 m pc ls [.double x]) := by
  cases hf
  exact W.dret hC.1 hC.2.1 hC.2.2.2.2.2.2.2.2.2.1 (fun t ht _ => ⟨⟨rfl, by rw [ht]; exact hI.1⟩, hI.2.F ht⟩) hI.2.2.2 hd hC.2.2.2.2.2.2.2.2.2.2.1
theorem r_fret2 {x r : UInt32} (hC : Cx p s m args c meth E ow b n (some .float)) (hI : In E ad V s H locs) (hf : some (x, V) = some (r, Vz)) (hd : decode b pc = .ok (.freturn, 1)) : W p l e R s m args below meth c H locs cells slots (MQ below (QR E ad (some (.float r)) Vz) args s cells slots (ours E)) (F0 m pc ls [.float x]) := by
  cases hf
  exact W.fret hC.1 hC.2.1 hC.2.2.2.2.2.2.2.2.2.1 (fun t ht _ => ⟨⟨rfl, by rw [ht]; exact hI.1⟩, hI.2.F ht⟩) hI.2.2.2 hd hC.2.2.2.2.2.2.2.2.2.2.1
theorem r_mmax {x y : Int32} (hC : Cx p s m args c meth E ow b n ret) (hsz : ls.size = n) (hl : Cond.methodLink ow index Lib.Math.max.name ∈ TB) (hR : 1 ≤ R.frames ∧ (rest.map fun v => v.category).sum + 13 ≤ R.locals) (hcs : cells ≤ R.cells ∧ slots ≤ R.slots) (hdg : decode b pc = .ok (.invokestatic index, 3)) (kk : W p l e R s m args below meth c H locs cells slots Q (F0 m (pc + 3) ls (.int (if x < y then y else x) :: rest))) : W p l e R s m args below meth c H locs cells slots Q (F0 m pc ls (.int y :: .int x :: rest)) :=
  va_mmax hC.1 hC.2.1 (hC.2.2.1.trans hsz.symm) hC.2.2.2.1 (hC.2.2.2.2.1 _ hl) (hC.2.2.2.2.1 _ tw_3_200) (hC.2.2.2.2.1 _ tw_1_23) (hC.2.2.2.2.1 _ tw_3_201) hR.1 hR.2 hcs.1 hcs.2 hdg kk

theorem in_X10 : ∀ w ∈ u_ws RX10 TX10 22, w ∈ TB := by
  intro w hw
  obtain ⟨k, hk, rfl⟩ := List.mem_map.mp hw
  have hk := List.mem_range.mp hk
  rcases Nat.eq_or_lt_of_le (Nat.le_of_lt_succ hk) with rfl | hk
  · first | exact tw_7_211 | exact tw_7_213 | exact tw_7_215 | exact tw_7_217 | exact tw_7_219 | exact tw_7_221 | exact tw_7_223 | exact tw_7_225 | exact tw_7_227 | exact tw_7_229 | exact tw_7_231 | exact tw_7_233 | exact tw_7_235 | exact tw_7_237 | exact tw_7_239 | exact tw_8_1 | exact tw_8_3 | exact tw_8_5 | exact tw_8_7 | exact tw_8_9 | exact tw_8_11 | exact tw_8_13
  rcases Nat.eq_or_lt_of_le (Nat.le_of_lt_succ hk) with rfl | hk
  · first | exact tw_7_211 | exact tw_7_213 | exact tw_7_215 | exact tw_7_217 | exact tw_7_219 | exact tw_7_221 | exact tw_7_223 | exact tw_7_225 | exact tw_7_227 | exact tw_7_229 | exact tw_7_231 | exact tw_7_233 | exact tw_7_235 | exact tw_7_237 | exact tw_7_239 | exact tw_8_1 | exact tw_8_3 | exact tw_8_5 | exact tw_8_7 | exact tw_8_9 | exact tw_8_11 | exact tw_8_13
  rcases Nat.eq_or_lt_of_le (Nat.le_of_lt_succ hk) with rfl | hk
  · first | exact tw_7_211 | exact tw_7_213 | exact tw_7_215 | exact tw_7_217 | exact tw_7_219 | exact tw_7_221 | exact tw_7_223 | exact tw_7_225 | exact tw_7_227 | exact tw_7_229 | exact tw_7_231 | exact tw_7_233 | exact tw_7_235 | exact tw_7_237 | exact tw_7_239 | exact tw_8_1 | exact tw_8_3 | exact tw_8_5 | exact tw_8_7 | exact tw_8_9 | exact tw_8_11 | exact tw_8_13
  rcases Nat.eq_or_lt_of_le (Nat.le_of_lt_succ hk) with rfl | hk
  · first | exact tw_7_211 | exact tw_7_213 | exact tw_7_215 | exact tw_7_217 | exact tw_7_219 | exact tw_7_221 | exact tw_7_223 | exact tw_7_225 | exact tw_7_227 | exact tw_7_229 | exact tw_7_231 | exact tw_7_233 | exact tw_7_235 | exact tw_7_237 | exact tw_7_239 | exact tw_8_1 | exact tw_8_3 | exact tw_8_5 | exact tw_8_7 | exact tw_8_9 | exact tw_8_11 | exact tw_8_13
  rcases Nat.eq_or_lt_of_le (Nat.le_of_lt_succ hk) with rfl | hk
  · first | exact tw_7_211 | exact tw_7_213 | exact tw_7_215 | exact tw_7_217 | exact tw_7_219 | exact tw_7_221 | exact tw_7_223 | exact tw_7_225 | exact tw_7_227 | exact tw_7_229 | exact tw_7_231 | exact tw_7_233 | exact tw_7_235 | exact tw_7_237 | exact tw_7_239 | exact tw_8_1 | exact tw_8_3 | exact tw_8_5 | exact tw_8_7 | exact tw_8_9 | exact tw_8_11 | exact tw_8_13
  rcases Nat.eq_or_lt_of_le (Nat.le_of_lt_succ hk) with rfl | hk
  · first | exact tw_7_211 | exact tw_7_213 | exact tw_7_215 | exact tw_7_217 | exact tw_7_219 | exact tw_7_221 | exact tw_7_223 | exact tw_7_225 | exact tw_7_227 | exact tw_7_229 | exact tw_7_231 | exact tw_7_233 | exact tw_7_235 | exact tw_7_237 | exact tw_7_239 | exact tw_8_1 | exact tw_8_3 | exact tw_8_5 | exact tw_8_7 | exact tw_8_9 | exact tw_8_11 | exact tw_8_13
  rcases Nat.eq_or_lt_of_le (Nat.le_of_lt_succ hk) with rfl | hk
  · first | exact tw_7_211 | exact tw_7_213 | exact tw_7_215 | exact tw_7_217 | exact tw_7_219 | exact tw_7_221 | exact tw_7_223 | exact tw_7_225 | exact tw_7_227 | exact tw_7_229 | exact tw_7_231 | exact tw_7_233 | exact tw_7_235 | exact tw_7_237 | exact tw_7_239 | exact tw_8_1 | exact tw_8_3 | exact tw_8_5 | exact tw_8_7 | exact tw_8_9 | exact tw_8_11 | exact tw_8_13
  rcases Nat.eq_or_lt_of_le (Nat.le_of_lt_succ hk) with rfl | hk
  · first | exact tw_7_211 | exact tw_7_213 | exact tw_7_215 | exact tw_7_217 | exact tw_7_219 | exact tw_7_221 | exact tw_7_223 | exact tw_7_225 | exact tw_7_227 | exact tw_7_229 | exact tw_7_231 | exact tw_7_233 | exact tw_7_235 | exact tw_7_237 | exact tw_7_239 | exact tw_8_1 | exact tw_8_3 | exact tw_8_5 | exact tw_8_7 | exact tw_8_9 | exact tw_8_11 | exact tw_8_13
  rcases Nat.eq_or_lt_of_le (Nat.le_of_lt_succ hk) with rfl | hk
  · first | exact tw_7_211 | exact tw_7_213 | exact tw_7_215 | exact tw_7_217 | exact tw_7_219 | exact tw_7_221 | exact tw_7_223 | exact tw_7_225 | exact tw_7_227 | exact tw_7_229 | exact tw_7_231 | exact tw_7_233 | exact tw_7_235 | exact tw_7_237 | exact tw_7_239 | exact tw_8_1 | exact tw_8_3 | exact tw_8_5 | exact tw_8_7 | exact tw_8_9 | exact tw_8_11 | exact tw_8_13
  rcases Nat.eq_or_lt_of_le (Nat.le_of_lt_succ hk) with rfl | hk
  · first | exact tw_7_211 | exact tw_7_213 | exact tw_7_215 | exact tw_7_217 | exact tw_7_219 | exact tw_7_221 | exact tw_7_223 | exact tw_7_225 | exact tw_7_227 | exact tw_7_229 | exact tw_7_231 | exact tw_7_233 | exact tw_7_235 | exact tw_7_237 | exact tw_7_239 | exact tw_8_1 | exact tw_8_3 | exact tw_8_5 | exact tw_8_7 | exact tw_8_9 | exact tw_8_11 | exact tw_8_13
  rcases Nat.eq_or_lt_of_le (Nat.le_of_lt_succ hk) with rfl | hk
  · first | exact tw_7_211 | exact tw_7_213 | exact tw_7_215 | exact tw_7_217 | exact tw_7_219 | exact tw_7_221 | exact tw_7_223 | exact tw_7_225 | exact tw_7_227 | exact tw_7_229 | exact tw_7_231 | exact tw_7_233 | exact tw_7_235 | exact tw_7_237 | exact tw_7_239 | exact tw_8_1 | exact tw_8_3 | exact tw_8_5 | exact tw_8_7 | exact tw_8_9 | exact tw_8_11 | exact tw_8_13
  rcases Nat.eq_or_lt_of_le (Nat.le_of_lt_succ hk) with rfl | hk
  · first | exact tw_7_211 | exact tw_7_213 | exact tw_7_215 | exact tw_7_217 | exact tw_7_219 | exact tw_7_221 | exact tw_7_223 | exact tw_7_225 | exact tw_7_227 | exact tw_7_229 | exact tw_7_231 | exact tw_7_233 | exact tw_7_235 | exact tw_7_237 | exact tw_7_239 | exact tw_8_1 | exact tw_8_3 | exact tw_8_5 | exact tw_8_7 | exact tw_8_9 | exact tw_8_11 | exact tw_8_13
  rcases Nat.eq_or_lt_of_le (Nat.le_of_lt_succ hk) with rfl | hk
  · first | exact tw_7_211 | exact tw_7_213 | exact tw_7_215 | exact tw_7_217 | exact tw_7_219 | exact tw_7_221 | exact tw_7_223 | exact tw_7_225 | exact tw_7_227 | exact tw_7_229 | exact tw_7_231 | exact tw_7_233 | exact tw_7_235 | exact tw_7_237 | exact tw_7_239 | exact tw_8_1 | exact tw_8_3 | exact tw_8_5 | exact tw_8_7 | exact tw_8_9 | exact tw_8_11 | exact tw_8_13
  rcases Nat.eq_or_lt_of_le (Nat.le_of_lt_succ hk) with rfl | hk
  · first | exact tw_7_211 | exact tw_7_213 | exact tw_7_215 | exact tw_7_217 | exact tw_7_219 | exact tw_7_221 | exact tw_7_223 | exact tw_7_225 | exact tw_7_227 | exact tw_7_229 | exact tw_7_231 | exact tw_7_233 | exact tw_7_235 | exact tw_7_237 | exact tw_7_239 | exact tw_8_1 | exact tw_8_3 | exact tw_8_5 | exact tw_8_7 | exact tw_8_9 | exact tw_8_11 | exact tw_8_13
  rcases Nat.eq_or_lt_of_le (Nat.le_of_lt_succ hk) with rfl | hk
  · first | exact tw_7_211 | exact tw_7_213 | exact tw_7_215 | exact tw_7_217 | exact tw_7_219 | exact tw_7_221 | exact tw_7_223 | exact tw_7_225 | exact tw_7_227 | exact tw_7_229 | exact tw_7_231 | exact tw_7_233 | exact tw_7_235 | exact tw_7_237 | exact tw_7_239 | exact tw_8_1 | exact tw_8_3 | exact tw_8_5 | exact tw_8_7 | exact tw_8_9 | exact tw_8_11 | exact tw_8_13
  rcases Nat.eq_or_lt_of_le (Nat.le_of_lt_succ hk) with rfl | hk
  · first | exact tw_7_211 | exact tw_7_213 | exact tw_7_215 | exact tw_7_217 | exact tw_7_219 | exact tw_7_221 | exact tw_7_223 | exact tw_7_225 | exact tw_7_227 | exact tw_7_229 | exact tw_7_231 | exact tw_7_233 | exact tw_7_235 | exact tw_7_237 | exact tw_7_239 | exact tw_8_1 | exact tw_8_3 | exact tw_8_5 | exact tw_8_7 | exact tw_8_9 | exact tw_8_11 | exact tw_8_13
  rcases Nat.eq_or_lt_of_le (Nat.le_of_lt_succ hk) with rfl | hk
  · first | exact tw_7_211 | exact tw_7_213 | exact tw_7_215 | exact tw_7_217 | exact tw_7_219 | exact tw_7_221 | exact tw_7_223 | exact tw_7_225 | exact tw_7_227 | exact tw_7_229 | exact tw_7_231 | exact tw_7_233 | exact tw_7_235 | exact tw_7_237 | exact tw_7_239 | exact tw_8_1 | exact tw_8_3 | exact tw_8_5 | exact tw_8_7 | exact tw_8_9 | exact tw_8_11 | exact tw_8_13
  rcases Nat.eq_or_lt_of_le (Nat.le_of_lt_succ hk) with rfl | hk
  · first | exact tw_7_211 | exact tw_7_213 | exact tw_7_215 | exact tw_7_217 | exact tw_7_219 | exact tw_7_221 | exact tw_7_223 | exact tw_7_225 | exact tw_7_227 | exact tw_7_229 | exact tw_7_231 | exact tw_7_233 | exact tw_7_235 | exact tw_7_237 | exact tw_7_239 | exact tw_8_1 | exact tw_8_3 | exact tw_8_5 | exact tw_8_7 | exact tw_8_9 | exact tw_8_11 | exact tw_8_13
  rcases Nat.eq_or_lt_of_le (Nat.le_of_lt_succ hk) with rfl | hk
  · first | exact tw_7_211 | exact tw_7_213 | exact tw_7_215 | exact tw_7_217 | exact tw_7_219 | exact tw_7_221 | exact tw_7_223 | exact tw_7_225 | exact tw_7_227 | exact tw_7_229 | exact tw_7_231 | exact tw_7_233 | exact tw_7_235 | exact tw_7_237 | exact tw_7_239 | exact tw_8_1 | exact tw_8_3 | exact tw_8_5 | exact tw_8_7 | exact tw_8_9 | exact tw_8_11 | exact tw_8_13
  rcases Nat.eq_or_lt_of_le (Nat.le_of_lt_succ hk) with rfl | hk
  · first | exact tw_7_211 | exact tw_7_213 | exact tw_7_215 | exact tw_7_217 | exact tw_7_219 | exact tw_7_221 | exact tw_7_223 | exact tw_7_225 | exact tw_7_227 | exact tw_7_229 | exact tw_7_231 | exact tw_7_233 | exact tw_7_235 | exact tw_7_237 | exact tw_7_239 | exact tw_8_1 | exact tw_8_3 | exact tw_8_5 | exact tw_8_7 | exact tw_8_9 | exact tw_8_11 | exact tw_8_13
  rcases Nat.eq_or_lt_of_le (Nat.le_of_lt_succ hk) with rfl | hk
  · first | exact tw_7_211 | exact tw_7_213 | exact tw_7_215 | exact tw_7_217 | exact tw_7_219 | exact tw_7_221 | exact tw_7_223 | exact tw_7_225 | exact tw_7_227 | exact tw_7_229 | exact tw_7_231 | exact tw_7_233 | exact tw_7_235 | exact tw_7_237 | exact tw_7_239 | exact tw_8_1 | exact tw_8_3 | exact tw_8_5 | exact tw_8_7 | exact tw_8_9 | exact tw_8_11 | exact tw_8_13
  rcases Nat.eq_or_lt_of_le (Nat.le_of_lt_succ hk) with rfl | hk
  · first | exact tw_7_211 | exact tw_7_213 | exact tw_7_215 | exact tw_7_217 | exact tw_7_219 | exact tw_7_221 | exact tw_7_223 | exact tw_7_225 | exact tw_7_227 | exact tw_7_229 | exact tw_7_231 | exact tw_7_233 | exact tw_7_235 | exact tw_7_237 | exact tw_7_239 | exact tw_8_1 | exact tw_8_3 | exact tw_8_5 | exact tw_8_7 | exact tw_8_9 | exact tw_8_11 | exact tw_8_13
  exact absurd hk (Nat.not_lt_zero _)
theorem ce_253 (v : Nat → Int32) : ∀ sa, cell E (adx ad sa) 253 v = .inr (11, [.ref (ad 254), .ref (ad 255), .ref (ad 256), .int (v 0), .ref (ad 257), .int (v 1), .int (v 2), .int (v 3), .int (v 4), .ref (ad 258), .int (v 5), .ref (ad 259), .ref (ad 260), .ref (ad 261), .int (v 6), .ref (ad 262), .ref (ad 263), .ref (ad 264), .int (v 7), .int (v 8), .int (v 9), .int (v 10)]) := fun _ => rfl
theorem g_253_m (hC : Cx p s m args c meth E ow b n ret) (hI : In E ad V s H locs) (hl : Cond.fieldLink ow index "LetterRepositoryModel" (TX10 0).2.1 (TX10 0).2.2.1 ∈ TB) (hdg : decode b pc = .ok (.getfield index, 3)) (kk : W p l e R s m args below meth c H locs cells slots Q (F0 m (pc + 3) ls (.ref (ad 254) :: rest))) : W p l e R s m args below meth c H locs cells slots Q (F0 m pc ls (.ref (ad 253) :: rest)) :=
  r_get hC hI (by decide) (ce_253 _) rfl in_X10 0 (by decide) hl rfl rfl hdg kk
theorem g_253_aside (hC : Cx p s m args c meth E ow b n ret) (hI : In E ad V s H locs) (hl : Cond.fieldLink ow index "LetterRepositoryModel" (TX10 1).2.1 (TX10 1).2.2.1 ∈ TB) (hdg : decode b pc = .ok (.getfield index, 3)) (kk : W p l e R s m args below meth c H locs cells slots Q (F0 m (pc + 3) ls (.ref (ad 255) :: rest))) : W p l e R s m args below meth c H locs cells slots Q (F0 m pc ls (.ref (ad 253) :: rest)) :=
  r_get hC hI (by decide) (ce_253 _) rfl in_X10 1 (by decide) hl rfl rfl hdg kk
theorem g_253_saved (hC : Cx p s m args c meth E ow b n ret) (hI : In E ad V s H locs) (hl : Cond.fieldLink ow index "LetterRepositoryModel" (TX10 2).2.1 (TX10 2).2.2.1 ∈ TB) (hdg : decode b pc = .ok (.getfield index, 3)) (kk : W p l e R s m args below meth c H locs cells slots Q (F0 m (pc + 3) ls (.ref (ad 256) :: rest))) : W p l e R s m args below meth c H locs cells slots Q (F0 m pc ls (.ref (ad 253) :: rest)) :=
  r_get hC hI (by decide) (ce_253 _) rfl in_X10 2 (by decide) hl rfl rfl hdg kk
theorem g_253_isSaved (hC : Cx p s m args c meth E ow b n ret) (hI : In E ad V s H locs) (hl : Cond.fieldLink ow index "LetterRepositoryModel" (TX10 3).2.1 (TX10 3).2.2.1 ∈ TB) (hdg : decode b pc = .ok (.getfield index, 3)) (kk : W p l e R s m args below meth c H locs cells slots Q (F0 m (pc + 3) ls (.int (V 253 0) :: rest))) : W p l e R s m args below meth c H locs cells slots Q (F0 m pc ls (.ref (ad 253) :: rest)) :=
  r_get hC hI (by decide) (ce_253 _) rfl in_X10 3 (by decide) hl rfl rfl hdg kk
theorem p_253_isSaved {x : Int32} (hC : Cx p s m args c meth E ow b n ret) (hI : In E ad V s H locs) (hb : x = 0 ∨ x = 1) (he : V1 = stv V 253 0 x) (hl : Cond.fieldLink ow index "LetterRepositoryModel" (TX10 3).2.1 (TX10 3).2.2.1 ∈ TB) (hdg : decode b pc = .ok (.putfield index, 3)) (kk : ∀ (H1 : Heap) (locs1 : List Loc), In E ad V1 s H1 locs1 → W p l e R s m args below meth c H1 locs1 cells slots Q (F0 m (pc + 3) ls rest)) : W p l e R s m args below meth c H locs cells slots Q (F0 m pc ls (.int x :: .ref (ad 253) :: rest)) := by
  subst he
  exact r_put (v := upd (V 253) 0 x) (ty := .boolean) hC hI tyX10 tyX10_ok nmX10 (by decide) (ce_253 _) rfl in_X10 3 (by decide) hl rfl rfl (by decide +kernel) (bo_n hb) (bo_f hb) (Nat.le_of_ble_eq_true rfl) (fun _ => rfl) hdg kk
theorem g_253_past (hC : Cx p s m args c meth E ow b n ret) (hI : In E ad V s H locs) (hl : Cond.fieldLink ow index "LetterRepositoryModel" (TX10 4).2.1 (TX10 4).2.2.1 ∈ TB) (hdg : decode b pc = .ok (.getfield index, 3)) (kk : W p l e R s m args below meth c H locs cells slots Q (F0 m (pc + 3) ls (.ref (ad 257) :: rest))) : W p l e R s m args below meth c H locs cells slots Q (F0 m pc ls (.ref (ad 253) :: rest)) :=
  r_get hC hI (by decide) (ce_253 _) rfl in_X10 4 (by decide) hl rfl rfl hdg kk
theorem g_253_changes (hC : Cx p s m args c meth E ow b n ret) (hI : In E ad V s H locs) (hl : Cond.fieldLink ow index "LetterRepositoryModel" (TX10 5).2.1 (TX10 5).2.2.1 ∈ TB) (hdg : decode b pc = .ok (.getfield index, 3)) (kk : W p l e R s m args below meth c H locs cells slots Q (F0 m (pc + 3) ls (.int (V 253 1) :: rest))) : W p l e R s m args below meth c H locs cells slots Q (F0 m pc ls (.ref (ad 253) :: rest)) :=
  r_get hC hI (by decide) (ce_253 _) rfl in_X10 5 (by decide) hl rfl rfl hdg kk
theorem p_253_changes {x : Int32} (hC : Cx p s m args c meth E ow b n ret) (hI : In E ad V s H locs) (he : V1 = stv V 253 1 x) (hl : Cond.fieldLink ow index "LetterRepositoryModel" (TX10 5).2.1 (TX10 5).2.2.1 ∈ TB) (hdg : decode b pc = .ok (.putfield index, 3)) (kk : ∀ (H1 : Heap) (locs1 : List Loc), In E ad V1 s H1 locs1 → W p l e R s m args below meth c H1 locs1 cells slots Q (F0 m (pc + 3) ls rest)) : W p l e R s m args below meth c H locs cells slots Q (F0 m pc ls (.int x :: .ref (ad 253) :: rest)) := by
  subst he
  exact r_put (v := upd (V 253) 1 x) (ty := .int) hC hI tyX10 tyX10_ok nmX10 (by decide) (ce_253 _) rfl in_X10 5 (by decide) hl rfl rfl (by decide +kernel) rfl rfl (Nat.le_of_ble_eq_true rfl) (fun _ => rfl) hdg kk
theorem g_253_errorAt (hC : Cx p s m args c meth E ow b n ret) (hI : In E ad V s H locs) (hl : Cond.fieldLink ow index "LetterRepositoryModel" (TX10 6).2.1 (TX10 6).2.2.1 ∈ TB) (hdg : decode b pc = .ok (.getfield index, 3)) (kk : W p l e R s m args below meth c H locs cells slots Q (F0 m (pc + 3) ls (.int (V 253 2) :: rest))) : W p l e R s m args below meth c H locs cells slots Q (F0 m pc ls (.ref (ad 253) :: rest)) :=
  r_get hC hI (by decide) (ce_253 _) rfl in_X10 6 (by decide) hl rfl rfl hdg kk
theorem p_253_errorAt {x : Int32} (hC : Cx p s m args c meth E ow b n ret) (hI : In E ad V s H locs) (he : V1 = stv V 253 2 x) (hl : Cond.fieldLink ow index "LetterRepositoryModel" (TX10 6).2.1 (TX10 6).2.2.1 ∈ TB) (hdg : decode b pc = .ok (.putfield index, 3)) (kk : ∀ (H1 : Heap) (locs1 : List Loc), In E ad V1 s H1 locs1 → W p l e R s m args below meth c H1 locs1 cells slots Q (F0 m (pc + 3) ls rest)) : W p l e R s m args below meth c H locs cells slots Q (F0 m pc ls (.int x :: .ref (ad 253) :: rest)) := by
  subst he
  exact r_put (v := upd (V 253) 2 x) (ty := .int) hC hI tyX10 tyX10_ok nmX10 (by decide) (ce_253 _) rfl in_X10 6 (by decide) hl rfl rfl (by decide +kernel) rfl rfl (Nat.le_of_ble_eq_true rfl) (fun _ => rfl) hdg kk
theorem g_253_failed (hC : Cx p s m args c meth E ow b n ret) (hI : In E ad V s H locs) (hl : Cond.fieldLink ow index "LetterRepositoryModel" (TX10 7).2.1 (TX10 7).2.2.1 ∈ TB) (hdg : decode b pc = .ok (.getfield index, 3)) (kk : W p l e R s m args below meth c H locs cells slots Q (F0 m (pc + 3) ls (.int (V 253 3) :: rest))) : W p l e R s m args below meth c H locs cells slots Q (F0 m pc ls (.ref (ad 253) :: rest)) :=
  r_get hC hI (by decide) (ce_253 _) rfl in_X10 7 (by decide) hl rfl rfl hdg kk
theorem p_253_failed {x : Int32} (hC : Cx p s m args c meth E ow b n ret) (hI : In E ad V s H locs) (he : V1 = stv V 253 3 x) (hl : Cond.fieldLink ow index "LetterRepositoryModel" (TX10 7).2.1 (TX10 7).2.2.1 ∈ TB) (hdg : decode b pc = .ok (.putfield index, 3)) (kk : ∀ (H1 : Heap) (locs1 : List Loc), In E ad V1 s H1 locs1 → W p l e R s m args below meth c H1 locs1 cells slots Q (F0 m (pc + 3) ls rest)) : W p l e R s m args below meth c H locs cells slots Q (F0 m pc ls (.int x :: .ref (ad 253) :: rest)) := by
  subst he
  exact r_put (v := upd (V 253) 3 x) (ty := .int) hC hI tyX10 tyX10_ok nmX10 (by decide) (ce_253 _) rfl in_X10 7 (by decide) hl rfl rfl (by decide +kernel) rfl rfl (Nat.le_of_ble_eq_true rfl) (fun _ => rfl) hdg kk
theorem g_253_thrown (hC : Cx p s m args c meth E ow b n ret) (hI : In E ad V s H locs) (hl : Cond.fieldLink ow index "LetterRepositoryModel" (TX10 8).2.1 (TX10 8).2.2.1 ∈ TB) (hdg : decode b pc = .ok (.getfield index, 3)) (kk : W p l e R s m args below meth c H locs cells slots Q (F0 m (pc + 3) ls (.int (V 253 4) :: rest))) : W p l e R s m args below meth c H locs cells slots Q (F0 m pc ls (.ref (ad 253) :: rest)) :=
  r_get hC hI (by decide) (ce_253 _) rfl in_X10 8 (by decide) hl rfl rfl hdg kk
theorem p_253_thrown {x : Int32} (hC : Cx p s m args c meth E ow b n ret) (hI : In E ad V s H locs) (he : V1 = stv V 253 4 x) (hl : Cond.fieldLink ow index "LetterRepositoryModel" (TX10 8).2.1 (TX10 8).2.2.1 ∈ TB) (hdg : decode b pc = .ok (.putfield index, 3)) (kk : ∀ (H1 : Heap) (locs1 : List Loc), In E ad V1 s H1 locs1 → W p l e R s m args below meth c H1 locs1 cells slots Q (F0 m (pc + 3) ls rest)) : W p l e R s m args below meth c H locs cells slots Q (F0 m pc ls (.int x :: .ref (ad 253) :: rest)) := by
  subst he
  exact r_put (v := upd (V 253) 4 x) (ty := .int) hC hI tyX10 tyX10_ok nmX10 (by decide) (ce_253 _) rfl in_X10 8 (by decide) hl rfl rfl (by decide +kernel) rfl rfl (Nat.le_of_ble_eq_true rfl) (fun _ => rfl) hdg kk
theorem g_253_input (hC : Cx p s m args c meth E ow b n ret) (hI : In E ad V s H locs) (hl : Cond.fieldLink ow index "LetterRepositoryModel" (TX10 9).2.1 (TX10 9).2.2.1 ∈ TB) (hdg : decode b pc = .ok (.getfield index, 3)) (kk : W p l e R s m args below meth c H locs cells slots Q (F0 m (pc + 3) ls (.ref (ad 258) :: rest))) : W p l e R s m args below meth c H locs cells slots Q (F0 m pc ls (.ref (ad 253) :: rest)) :=
  r_get hC hI (by decide) (ce_253 _) rfl in_X10 9 (by decide) hl rfl rfl hdg kk
theorem g_253_inputMany (hC : Cx p s m args c meth E ow b n ret) (hI : In E ad V s H locs) (hl : Cond.fieldLink ow index "LetterRepositoryModel" (TX10 10).2.1 (TX10 10).2.2.1 ∈ TB) (hdg : decode b pc = .ok (.getfield index, 3)) (kk : W p l e R s m args below meth c H locs cells slots Q (F0 m (pc + 3) ls (.int (V 253 5) :: rest))) : W p l e R s m args below meth c H locs cells slots Q (F0 m pc ls (.ref (ad 253) :: rest)) :=
  r_get hC hI (by decide) (ce_253 _) rfl in_X10 10 (by decide) hl rfl rfl hdg kk
theorem p_253_inputMany {x : Int32} (hC : Cx p s m args c meth E ow b n ret) (hI : In E ad V s H locs) (he : V1 = stv V 253 5 x) (hl : Cond.fieldLink ow index "LetterRepositoryModel" (TX10 10).2.1 (TX10 10).2.2.1 ∈ TB) (hdg : decode b pc = .ok (.putfield index, 3)) (kk : ∀ (H1 : Heap) (locs1 : List Loc), In E ad V1 s H1 locs1 → W p l e R s m args below meth c H1 locs1 cells slots Q (F0 m (pc + 3) ls rest)) : W p l e R s m args below meth c H locs cells slots Q (F0 m pc ls (.int x :: .ref (ad 253) :: rest)) := by
  subst he
  exact r_put (v := upd (V 253) 5 x) (ty := .int) hC hI tyX10 tyX10_ok nmX10 (by decide) (ce_253 _) rfl in_X10 10 (by decide) hl rfl rfl (by decide +kernel) rfl rfl (Nat.le_of_ble_eq_true rfl) (fun _ => rfl) hdg kk
theorem g_253_ancestors (hC : Cx p s m args c meth E ow b n ret) (hI : In E ad V s H locs) (hl : Cond.fieldLink ow index "LetterRepositoryModel" (TX10 11).2.1 (TX10 11).2.2.1 ∈ TB) (hdg : decode b pc = .ok (.getfield index, 3)) (kk : W p l e R s m args below meth c H locs cells slots Q (F0 m (pc + 3) ls (.ref (ad 259) :: rest))) : W p l e R s m args below meth c H locs cells slots Q (F0 m pc ls (.ref (ad 253) :: rest)) :=
  r_get hC hI (by decide) (ce_253 _) rfl in_X10 11 (by decide) hl rfl rfl hdg kk
theorem g_253_generations (hC : Cx p s m args c meth E ow b n ret) (hI : In E ad V s H locs) (hl : Cond.fieldLink ow index "LetterRepositoryModel" (TX10 12).2.1 (TX10 12).2.2.1 ∈ TB) (hdg : decode b pc = .ok (.getfield index, 3)) (kk : W p l e R s m args below meth c H locs cells slots Q (F0 m (pc + 3) ls (.ref (ad 260) :: rest))) : W p l e R s m args below meth c H locs cells slots Q (F0 m pc ls (.ref (ad 253) :: rest)) :=
  r_get hC hI (by decide) (ce_253 _) rfl in_X10 12 (by decide) hl rfl rfl hdg kk
theorem g_253_line (hC : Cx p s m args c meth E ow b n ret) (hI : In E ad V s H locs) (hl : Cond.fieldLink ow index "LetterRepositoryModel" (TX10 13).2.1 (TX10 13).2.2.1 ∈ TB) (hdg : decode b pc = .ok (.getfield index, 3)) (kk : W p l e R s m args below meth c H locs cells slots Q (F0 m (pc + 3) ls (.ref (ad 261) :: rest))) : W p l e R s m args below meth c H locs cells slots Q (F0 m pc ls (.ref (ad 253) :: rest)) :=
  r_get hC hI (by decide) (ce_253 _) rfl in_X10 13 (by decide) hl rfl rfl hdg kk
theorem g_253_lineMany (hC : Cx p s m args c meth E ow b n ret) (hI : In E ad V s H locs) (hl : Cond.fieldLink ow index "LetterRepositoryModel" (TX10 14).2.1 (TX10 14).2.2.1 ∈ TB) (hdg : decode b pc = .ok (.getfield index, 3)) (kk : W p l e R s m args below meth c H locs cells slots Q (F0 m (pc + 3) ls (.int (V 253 6) :: rest))) : W p l e R s m args below meth c H locs cells slots Q (F0 m pc ls (.ref (ad 253) :: rest)) :=
  r_get hC hI (by decide) (ce_253 _) rfl in_X10 14 (by decide) hl rfl rfl hdg kk
theorem p_253_lineMany {x : Int32} (hC : Cx p s m args c meth E ow b n ret) (hI : In E ad V s H locs) (he : V1 = stv V 253 6 x) (hl : Cond.fieldLink ow index "LetterRepositoryModel" (TX10 14).2.1 (TX10 14).2.2.1 ∈ TB) (hdg : decode b pc = .ok (.putfield index, 3)) (kk : ∀ (H1 : Heap) (locs1 : List Loc), In E ad V1 s H1 locs1 → W p l e R s m args below meth c H1 locs1 cells slots Q (F0 m (pc + 3) ls rest)) : W p l e R s m args below meth c H locs cells slots Q (F0 m pc ls (.int x :: .ref (ad 253) :: rest)) := by
  subst he
  exact r_put (v := upd (V 253) 6 x) (ty := .int) hC hI tyX10 tyX10_ok nmX10 (by decide) (ce_253 _) rfl in_X10 14 (by decide) hl rfl rfl (by decide +kernel) rfl rfl (Nat.le_of_ble_eq_true rfl) (fun _ => rfl) hdg kk
theorem g_253_letters (hC : Cx p s m args c meth E ow b n ret) (hI : In E ad V s H locs) (hl : Cond.fieldLink ow index "LetterRepositoryModel" (TX10 15).2.1 (TX10 15).2.2.1 ∈ TB) (hdg : decode b pc = .ok (.getfield index, 3)) (kk : W p l e R s m args below meth c H locs cells slots Q (F0 m (pc + 3) ls (.ref (ad 262) :: rest))) : W p l e R s m args below meth c H locs cells slots Q (F0 m pc ls (.ref (ad 253) :: rest)) :=
  r_get hC hI (by decide) (ce_253 _) rfl in_X10 15 (by decide) hl rfl rfl hdg kk
theorem g_253_begins0 (hC : Cx p s m args c meth E ow b n ret) (hI : In E ad V s H locs) (hl : Cond.fieldLink ow index "LetterRepositoryModel" (TX10 16).2.1 (TX10 16).2.2.1 ∈ TB) (hdg : decode b pc = .ok (.getfield index, 3)) (kk : W p l e R s m args below meth c H locs cells slots Q (F0 m (pc + 3) ls (.ref (ad 263) :: rest))) : W p l e R s m args below meth c H locs cells slots Q (F0 m pc ls (.ref (ad 253) :: rest)) :=
  r_get hC hI (by decide) (ce_253 _) rfl in_X10 16 (by decide) hl rfl rfl hdg kk
theorem g_253_commands (hC : Cx p s m args c meth E ow b n ret) (hI : In E ad V s H locs) (hl : Cond.fieldLink ow index "LetterRepositoryModel" (TX10 17).2.1 (TX10 17).2.2.1 ∈ TB) (hdg : decode b pc = .ok (.getfield index, 3)) (kk : W p l e R s m args below meth c H locs cells slots Q (F0 m (pc + 3) ls (.ref (ad 264) :: rest))) : W p l e R s m args below meth c H locs cells slots Q (F0 m pc ls (.ref (ad 253) :: rest)) :=
  r_get hC hI (by decide) (ce_253 _) rfl in_X10 17 (by decide) hl rfl rfl hdg kk
theorem g_253_commandMany (hC : Cx p s m args c meth E ow b n ret) (hI : In E ad V s H locs) (hl : Cond.fieldLink ow index "LetterRepositoryModel" (TX10 18).2.1 (TX10 18).2.2.1 ∈ TB) (hdg : decode b pc = .ok (.getfield index, 3)) (kk : W p l e R s m args below meth c H locs cells slots Q (F0 m (pc + 3) ls (.int (V 253 7) :: rest))) : W p l e R s m args below meth c H locs cells slots Q (F0 m pc ls (.ref (ad 253) :: rest)) :=
  r_get hC hI (by decide) (ce_253 _) rfl in_X10 18 (by decide) hl rfl rfl hdg kk
theorem p_253_commandMany {x : Int32} (hC : Cx p s m args c meth E ow b n ret) (hI : In E ad V s H locs) (he : V1 = stv V 253 7 x) (hl : Cond.fieldLink ow index "LetterRepositoryModel" (TX10 18).2.1 (TX10 18).2.2.1 ∈ TB) (hdg : decode b pc = .ok (.putfield index, 3)) (kk : ∀ (H1 : Heap) (locs1 : List Loc), In E ad V1 s H1 locs1 → W p l e R s m args below meth c H1 locs1 cells slots Q (F0 m (pc + 3) ls rest)) : W p l e R s m args below meth c H locs cells slots Q (F0 m pc ls (.int x :: .ref (ad 253) :: rest)) := by
  subst he
  exact r_put (v := upd (V 253) 7 x) (ty := .int) hC hI tyX10 tyX10_ok nmX10 (by decide) (ce_253 _) rfl in_X10 18 (by decide) hl rfl rfl (by decide +kernel) rfl rfl (Nat.le_of_ble_eq_true rfl) (fun _ => rfl) hdg kk
theorem g_253_place0 (hC : Cx p s m args c meth E ow b n ret) (hI : In E ad V s H locs) (hl : Cond.fieldLink ow index "LetterRepositoryModel" (TX10 19).2.1 (TX10 19).2.2.1 ∈ TB) (hdg : decode b pc = .ok (.getfield index, 3)) (kk : W p l e R s m args below meth c H locs cells slots Q (F0 m (pc + 3) ls (.int (V 253 8) :: rest))) : W p l e R s m args below meth c H locs cells slots Q (F0 m pc ls (.ref (ad 253) :: rest)) :=
  r_get hC hI (by decide) (ce_253 _) rfl in_X10 19 (by decide) hl rfl rfl hdg kk
theorem p_253_place0 {x : Int32} (hC : Cx p s m args c meth E ow b n ret) (hI : In E ad V s H locs) (he : V1 = stv V 253 8 x) (hl : Cond.fieldLink ow index "LetterRepositoryModel" (TX10 19).2.1 (TX10 19).2.2.1 ∈ TB) (hdg : decode b pc = .ok (.putfield index, 3)) (kk : ∀ (H1 : Heap) (locs1 : List Loc), In E ad V1 s H1 locs1 → W p l e R s m args below meth c H1 locs1 cells slots Q (F0 m (pc + 3) ls rest)) : W p l e R s m args below meth c H locs cells slots Q (F0 m pc ls (.int x :: .ref (ad 253) :: rest)) := by
  subst he
  exact r_put (v := upd (V 253) 8 x) (ty := .int) hC hI tyX10 tyX10_ok nmX10 (by decide) (ce_253 _) rfl in_X10 19 (by decide) hl rfl rfl (by decide +kernel) rfl rfl (Nat.le_of_ble_eq_true rfl) (fun _ => rfl) hdg kk
theorem g_253_size0 (hC : Cx p s m args c meth E ow b n ret) (hI : In E ad V s H locs) (hl : Cond.fieldLink ow index "LetterRepositoryModel" (TX10 20).2.1 (TX10 20).2.2.1 ∈ TB) (hdg : decode b pc = .ok (.getfield index, 3)) (kk : W p l e R s m args below meth c H locs cells slots Q (F0 m (pc + 3) ls (.int (V 253 9) :: rest))) : W p l e R s m args below meth c H locs cells slots Q (F0 m pc ls (.ref (ad 253) :: rest)) :=
  r_get hC hI (by decide) (ce_253 _) rfl in_X10 20 (by decide) hl rfl rfl hdg kk
theorem p_253_size0 {x : Int32} (hC : Cx p s m args c meth E ow b n ret) (hI : In E ad V s H locs) (he : V1 = stv V 253 9 x) (hl : Cond.fieldLink ow index "LetterRepositoryModel" (TX10 20).2.1 (TX10 20).2.2.1 ∈ TB) (hdg : decode b pc = .ok (.putfield index, 3)) (kk : ∀ (H1 : Heap) (locs1 : List Loc), In E ad V1 s H1 locs1 → W p l e R s m args below meth c H1 locs1 cells slots Q (F0 m (pc + 3) ls rest)) : W p l e R s m args below meth c H locs cells slots Q (F0 m pc ls (.int x :: .ref (ad 253) :: rest)) := by
  subst he
  exact r_put (v := upd (V 253) 9 x) (ty := .int) hC hI tyX10 tyX10_ok nmX10 (by decide) (ce_253 _) rfl in_X10 20 (by decide) hl rfl rfl (by decide +kernel) rfl rfl (Nat.le_of_ble_eq_true rfl) (fun _ => rfl) hdg kk
theorem g_253_isWrong (hC : Cx p s m args c meth E ow b n ret) (hI : In E ad V s H locs) (hl : Cond.fieldLink ow index "LetterRepositoryModel" (TX10 21).2.1 (TX10 21).2.2.1 ∈ TB) (hdg : decode b pc = .ok (.getfield index, 3)) (kk : W p l e R s m args below meth c H locs cells slots Q (F0 m (pc + 3) ls (.int (V 253 10) :: rest))) : W p l e R s m args below meth c H locs cells slots Q (F0 m pc ls (.ref (ad 253) :: rest)) :=
  r_get hC hI (by decide) (ce_253 _) rfl in_X10 21 (by decide) hl rfl rfl hdg kk
theorem p_253_isWrong {x : Int32} (hC : Cx p s m args c meth E ow b n ret) (hI : In E ad V s H locs) (hb : x = 0 ∨ x = 1) (he : V1 = stv V 253 10 x) (hl : Cond.fieldLink ow index "LetterRepositoryModel" (TX10 21).2.1 (TX10 21).2.2.1 ∈ TB) (hdg : decode b pc = .ok (.putfield index, 3)) (kk : ∀ (H1 : Heap) (locs1 : List Loc), In E ad V1 s H1 locs1 → W p l e R s m args below meth c H1 locs1 cells slots Q (F0 m (pc + 3) ls rest)) : W p l e R s m args below meth c H locs cells slots Q (F0 m pc ls (.int x :: .ref (ad 253) :: rest)) := by
  subst he
  exact r_put (v := upd (V 253) 10 x) (ty := .boolean) hC hI tyX10 tyX10_ok nmX10 (by decide) (ce_253 _) rfl in_X10 21 (by decide) hl rfl rfl (by decide +kernel) (bo_n hb) (bo_f hb) (Nat.le_of_ble_eq_true rfl) (fun _ => rfl) hdg kk
theorem ce_254 (sa : Nat → Nat) (v : Nat → Int32) : cell E (adx ad sa) 254 v = .inl (eC E 0, 361, .inl v) := rfl
theorem ra_254 {x : Int32} (hC : Cx p s m args c meth E ow b n ret) (hI : In E ad V s H locs) (hin : vp_in x 361) (hdg : decode b pc = .ok (.iaload, 1)) (kk : W p l e R s m args below meth c H locs cells slots Q (F0 m (pc + 1) ls (.int (V 254 x.toNatClampNeg) :: rest))) : W p l e R s m args below meth c H locs cells slots Q (F0 m pc ls (.int x :: .ref (ad 254) :: rest)) :=
  r_iald hC hI (by decide) ce_254 hin hdg kk
theorem wa_254 {x z : Int32} (hC : Cx p s m args c meth E ow b n ret) (hI : In E ad V s H locs) (hin : vp_in x 361) (he : V1 = stv V 254 x.toNatClampNeg z) (hdg : decode b pc = .ok (.iastore, 1)) (kk : ∀ (H1 : Heap) (locs1 : List Loc), In E ad V1 s H1 locs1 → W p l e R s m args below meth c H1 locs1 cells slots Q (F0 m (pc + 1) ls rest)) : W p l e R s m args below meth c H locs cells slots Q (F0 m pc ls (.int z :: .int x :: .ref (ad 254) :: rest)) := by
  subst he
  exact r_iast hC hI (by decide) ce_254 hin hdg kk
theorem ce_255 (sa : Nat → Nat) (v : Nat → Int32) : cell E (adx ad sa) 255 v = .inl (eC E 0, 361, .inl v) := rfl
theorem ra_255 {x : Int32} (hC : Cx p s m args c meth E ow b n ret) (hI : In E ad V s H locs) (hin : vp_in x 361) (hdg : decode b pc = .ok (.iaload, 1)) (kk : W p l e R s m args below meth c H locs cells slots Q (F0 m (pc + 1) ls (.int (V 255 x.toNatClampNeg) :: rest))) : W p l e R s m args below meth c H locs cells slots Q (F0 m pc ls (.int x :: .ref (ad 255) :: rest)) :=
  r_iald hC hI (by decide) ce_255 hin hdg kk
theorem wa_255 {x z : Int32} (hC : Cx p s m args c meth E ow b n ret) (hI : In E ad V s H locs) (hin : vp_in x 361) (he : V1 = stv V 255 x.toNatClampNeg z) (hdg : decode b pc = .ok (.iastore, 1)) (kk : ∀ (H1 : Heap) (locs1 : List Loc), In E ad V1 s H1 locs1 → W p l e R s m args below meth c H1 locs1 cells slots Q (F0 m (pc + 1) ls rest)) : W p l e R s m args below meth c H locs cells slots Q (F0 m pc ls (.int z :: .int x :: .ref (ad 255) :: rest)) := by
  subst he
  exact r_iast hC hI (by decide) ce_255 hin hdg kk
theorem ce_256 (sa : Nat → Nat) (v : Nat → Int32) : cell E (adx ad sa) 256 v = .inl (eC E 0, 361, .inl v) := rfl
theorem ra_256 {x : Int32} (hC : Cx p s m args c meth E ow b n ret) (hI : In E ad V s H locs) (hin : vp_in x 361) (hdg : decode b pc = .ok (.iaload, 1)) (kk : W p l e R s m args below meth c H locs cells slots Q (F0 m (pc + 1) ls (.int (V 256 x.toNatClampNeg) :: rest))) : W p l e R s m args below meth c H locs cells slots Q (F0 m pc ls (.int x :: .ref (ad 256) :: rest)) :=
  r_iald hC hI (by decide) ce_256 hin hdg kk
theorem wa_256 {x z : Int32} (hC : Cx p s m args c meth E ow b n ret) (hI : In E ad V s H locs) (hin : vp_in x 361) (he : V1 = stv V 256 x.toNatClampNeg z) (hdg : decode b pc = .ok (.iastore, 1)) (kk : ∀ (H1 : Heap) (locs1 : List Loc), In E ad V1 s H1 locs1 → W p l e R s m args below meth c H1 locs1 cells slots Q (F0 m (pc + 1) ls rest)) : W p l e R s m args below meth c H locs cells slots Q (F0 m pc ls (.int z :: .int x :: .ref (ad 256) :: rest)) := by
  subst he
  exact r_iast hC hI (by decide) ce_256 hin hdg kk
theorem ce_257 (sa : Nat → Nat) (v : Nat → Int32) : cell E (adx ad sa) 257 v = .inl (eC E 0, 2888, .inl v) := rfl
theorem ra_257 {x : Int32} (hC : Cx p s m args c meth E ow b n ret) (hI : In E ad V s H locs) (hin : vp_in x 2888) (hdg : decode b pc = .ok (.iaload, 1)) (kk : W p l e R s m args below meth c H locs cells slots Q (F0 m (pc + 1) ls (.int (V 257 x.toNatClampNeg) :: rest))) : W p l e R s m args below meth c H locs cells slots Q (F0 m pc ls (.int x :: .ref (ad 257) :: rest)) :=
  r_iald hC hI (by decide) ce_257 hin hdg kk
theorem wa_257 {x z : Int32} (hC : Cx p s m args c meth E ow b n ret) (hI : In E ad V s H locs) (hin : vp_in x 2888) (he : V1 = stv V 257 x.toNatClampNeg z) (hdg : decode b pc = .ok (.iastore, 1)) (kk : ∀ (H1 : Heap) (locs1 : List Loc), In E ad V1 s H1 locs1 → W p l e R s m args below meth c H1 locs1 cells slots Q (F0 m (pc + 1) ls rest)) : W p l e R s m args below meth c H locs cells slots Q (F0 m pc ls (.int z :: .int x :: .ref (ad 257) :: rest)) := by
  subst he
  exact r_iast hC hI (by decide) ce_257 hin hdg kk
theorem ce_258 (sa : Nat → Nat) (v : Nat → Int32) : cell E (adx ad sa) 258 v = .inl (eC E 0, 60, .inl v) := rfl
theorem ra_258 {x : Int32} (hC : Cx p s m args c meth E ow b n ret) (hI : In E ad V s H locs) (hin : vp_in x 60) (hdg : decode b pc = .ok (.iaload, 1)) (kk : W p l e R s m args below meth c H locs cells slots Q (F0 m (pc + 1) ls (.int (V 258 x.toNatClampNeg) :: rest))) : W p l e R s m args below meth c H locs cells slots Q (F0 m pc ls (.int x :: .ref (ad 258) :: rest)) :=
  r_iald hC hI (by decide) ce_258 hin hdg kk
theorem wa_258 {x z : Int32} (hC : Cx p s m args c meth E ow b n ret) (hI : In E ad V s H locs) (hin : vp_in x 60) (he : V1 = stv V 258 x.toNatClampNeg z) (hdg : decode b pc = .ok (.iastore, 1)) (kk : ∀ (H1 : Heap) (locs1 : List Loc), In E ad V1 s H1 locs1 → W p l e R s m args below meth c H1 locs1 cells slots Q (F0 m (pc + 1) ls rest)) : W p l e R s m args below meth c H locs cells slots Q (F0 m pc ls (.int z :: .int x :: .ref (ad 258) :: rest)) := by
  subst he
  exact r_iast hC hI (by decide) ce_258 hin hdg kk
theorem ce_259 (sa : Nat → Nat) (v : Nat → Int32) : cell E (adx ad sa) 259 v = .inl (eC E 0, 24, .inl v) := rfl
theorem ra_259 {x : Int32} (hC : Cx p s m args c meth E ow b n ret) (hI : In E ad V s H locs) (hin : vp_in x 24) (hdg : decode b pc = .ok (.iaload, 1)) (kk : W p l e R s m args below meth c H locs cells slots Q (F0 m (pc + 1) ls (.int (V 259 x.toNatClampNeg) :: rest))) : W p l e R s m args below meth c H locs cells slots Q (F0 m pc ls (.int x :: .ref (ad 259) :: rest)) :=
  r_iald hC hI (by decide) ce_259 hin hdg kk
theorem wa_259 {x z : Int32} (hC : Cx p s m args c meth E ow b n ret) (hI : In E ad V s H locs) (hin : vp_in x 24) (he : V1 = stv V 259 x.toNatClampNeg z) (hdg : decode b pc = .ok (.iastore, 1)) (kk : ∀ (H1 : Heap) (locs1 : List Loc), In E ad V1 s H1 locs1 → W p l e R s m args below meth c H1 locs1 cells slots Q (F0 m (pc + 1) ls rest)) : W p l e R s m args below meth c H locs cells slots Q (F0 m pc ls (.int z :: .int x :: .ref (ad 259) :: rest)) := by
  subst he
  exact r_iast hC hI (by decide) ce_259 hin hdg kk
theorem ce_260 (sa : Nat → Nat) (v : Nat → Int32) : cell E (adx ad sa) 260 v = .inl (eC E 0, 24, .inl v) := rfl
theorem ra_260 {x : Int32} (hC : Cx p s m args c meth E ow b n ret) (hI : In E ad V s H locs) (hin : vp_in x 24) (hdg : decode b pc = .ok (.iaload, 1)) (kk : W p l e R s m args below meth c H locs cells slots Q (F0 m (pc + 1) ls (.int (V 260 x.toNatClampNeg) :: rest))) : W p l e R s m args below meth c H locs cells slots Q (F0 m pc ls (.int x :: .ref (ad 260) :: rest)) :=
  r_iald hC hI (by decide) ce_260 hin hdg kk
theorem wa_260 {x z : Int32} (hC : Cx p s m args c meth E ow b n ret) (hI : In E ad V s H locs) (hin : vp_in x 24) (he : V1 = stv V 260 x.toNatClampNeg z) (hdg : decode b pc = .ok (.iastore, 1)) (kk : ∀ (H1 : Heap) (locs1 : List Loc), In E ad V1 s H1 locs1 → W p l e R s m args below meth c H1 locs1 cells slots Q (F0 m (pc + 1) ls rest)) : W p l e R s m args below meth c H locs cells slots Q (F0 m pc ls (.int z :: .int x :: .ref (ad 260) :: rest)) := by
  subst he
  exact r_iast hC hI (by decide) ce_260 hin hdg kk
theorem ce_261 (sa : Nat → Nat) (v : Nat → Int32) : cell E (adx ad sa) 261 v = .inl (eC E 0, 40, .inl v) := rfl
theorem ra_261 {x : Int32} (hC : Cx p s m args c meth E ow b n ret) (hI : In E ad V s H locs) (hin : vp_in x 40) (hdg : decode b pc = .ok (.iaload, 1)) (kk : W p l e R s m args below meth c H locs cells slots Q (F0 m (pc + 1) ls (.int (V 261 x.toNatClampNeg) :: rest))) : W p l e R s m args below meth c H locs cells slots Q (F0 m pc ls (.int x :: .ref (ad 261) :: rest)) :=
  r_iald hC hI (by decide) ce_261 hin hdg kk
theorem wa_261 {x z : Int32} (hC : Cx p s m args c meth E ow b n ret) (hI : In E ad V s H locs) (hin : vp_in x 40) (he : V1 = stv V 261 x.toNatClampNeg z) (hdg : decode b pc = .ok (.iastore, 1)) (kk : ∀ (H1 : Heap) (locs1 : List Loc), In E ad V1 s H1 locs1 → W p l e R s m args below meth c H1 locs1 cells slots Q (F0 m (pc + 1) ls rest)) : W p l e R s m args below meth c H locs cells slots Q (F0 m pc ls (.int z :: .int x :: .ref (ad 261) :: rest)) := by
  subst he
  exact r_iast hC hI (by decide) ce_261 hin hdg kk
theorem ce_262 (sa : Nat → Nat) (v : Nat → Int32) : cell E (adx ad sa) 262 v = .inl (eC E 2, 78, .inl v) := rfl
theorem ra_262 {x : Int32} (hC : Cx p s m args c meth E ow b n ret) (hI : In E ad V s H locs) (hin : vp_in x 78) (hdg : decode b pc = .ok (.caload, 1)) (kk : W p l e R s m args below meth c H locs cells slots Q (F0 m (pc + 1) ls (.int (V 262 x.toNatClampNeg) :: rest))) : W p l e R s m args below meth c H locs cells slots Q (F0 m pc ls (.int x :: .ref (ad 262) :: rest)) :=
  r_cald hC hI (by decide) ce_262 hin hdg kk
theorem ce_263 (sa : Nat → Nat) (v : Nat → Int32) : cell E (adx ad sa) 263 v = .inl (eC E 0, 14, .inl v) := rfl
theorem ra_263 {x : Int32} (hC : Cx p s m args c meth E ow b n ret) (hI : In E ad V s H locs) (hin : vp_in x 14) (hdg : decode b pc = .ok (.iaload, 1)) (kk : W p l e R s m args below meth c H locs cells slots Q (F0 m (pc + 1) ls (.int (V 263 x.toNatClampNeg) :: rest))) : W p l e R s m args below meth c H locs cells slots Q (F0 m pc ls (.int x :: .ref (ad 263) :: rest)) :=
  r_iald hC hI (by decide) ce_263 hin hdg kk
theorem wa_263 {x z : Int32} (hC : Cx p s m args c meth E ow b n ret) (hI : In E ad V s H locs) (hin : vp_in x 14) (he : V1 = stv V 263 x.toNatClampNeg z) (hdg : decode b pc = .ok (.iastore, 1)) (kk : ∀ (H1 : Heap) (locs1 : List Loc), In E ad V1 s H1 locs1 → W p l e R s m args below meth c H1 locs1 cells slots Q (F0 m (pc + 1) ls rest)) : W p l e R s m args below meth c H locs cells slots Q (F0 m pc ls (.int z :: .int x :: .ref (ad 263) :: rest)) := by
  subst he
  exact r_iast hC hI (by decide) ce_263 hin hdg kk
theorem ce_264 (sa : Nat → Nat) (v : Nat → Int32) : cell E (adx ad sa) 264 v = .inl (eC E 0, 244, .inl v) := rfl
theorem ra_264 {x : Int32} (hC : Cx p s m args c meth E ow b n ret) (hI : In E ad V s H locs) (hin : vp_in x 244) (hdg : decode b pc = .ok (.iaload, 1)) (kk : W p l e R s m args below meth c H locs cells slots Q (F0 m (pc + 1) ls (.int (V 264 x.toNatClampNeg) :: rest))) : W p l e R s m args below meth c H locs cells slots Q (F0 m pc ls (.int x :: .ref (ad 264) :: rest)) :=
  r_iald hC hI (by decide) ce_264 hin hdg kk
theorem wa_264 {x z : Int32} (hC : Cx p s m args c meth E ow b n ret) (hI : In E ad V s H locs) (hin : vp_in x 244) (he : V1 = stv V 264 x.toNatClampNeg z) (hdg : decode b pc = .ok (.iastore, 1)) (kk : ∀ (H1 : Heap) (locs1 : List Loc), In E ad V1 s H1 locs1 → W p l e R s m args below meth c H1 locs1 cells slots Q (F0 m (pc + 1) ls rest)) : W p l e R s m args below meth c H locs cells slots Q (F0 m pc ls (.int z :: .int x :: .ref (ad 264) :: rest)) := by
  subst he
  exact r_iast hC hI (by decide) ce_264 hin hdg kk
end R04
