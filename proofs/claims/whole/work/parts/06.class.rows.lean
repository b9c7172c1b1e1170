theorem in_X1 : ∀ w ∈ u_ws RX1 TX1 3, w ∈ TB := by
  intro w hw
  obtain ⟨k, hk, rfl⟩ := List.mem_map.mp hw
  have hk := List.mem_range.mp hk
  rcases Nat.eq_or_lt_of_le (Nat.le_of_lt_succ hk) with rfl | hk
  · first | exact tw_1_158 | exact tw_1_160 | exact tw_1_162
  rcases Nat.eq_or_lt_of_le (Nat.le_of_lt_succ hk) with rfl | hk
  · first | exact tw_1_158 | exact tw_1_160 | exact tw_1_162
  rcases Nat.eq_or_lt_of_le (Nat.le_of_lt_succ hk) with rfl | hk
  · first | exact tw_1_158 | exact tw_1_160 | exact tw_1_162
  exact absurd hk (Nat.not_lt_zero _)
theorem in_X2 : ∀ w ∈ u_ws RX2 TX2 3, w ∈ TB := by
  intro w hw
  obtain ⟨k, hk, rfl⟩ := List.mem_map.mp hw
  have hk := List.mem_range.mp hk
  rcases Nat.eq_or_lt_of_le (Nat.le_of_lt_succ hk) with rfl | hk
  · first | exact tw_1_130 | exact tw_1_132 | exact tw_1_134
  rcases Nat.eq_or_lt_of_le (Nat.le_of_lt_succ hk) with rfl | hk
  · first | exact tw_1_130 | exact tw_1_132 | exact tw_1_134
  rcases Nat.eq_or_lt_of_le (Nat.le_of_lt_succ hk) with rfl | hk
  · first | exact tw_1_130 | exact tw_1_132 | exact tw_1_134
  exact absurd hk (Nat.not_lt_zero _)
theorem in_X4 : ∀ w ∈ u_ws RX4 TX4 4, w ∈ TB := by
  intro w hw
  obtain ⟨k, hk, rfl⟩ := List.mem_map.mp hw
  have hk := List.mem_range.mp hk
  rcases Nat.eq_or_lt_of_le (Nat.le_of_lt_succ hk) with rfl | hk
  · first | exact tw_1_171 | exact tw_1_173 | exact tw_1_175 | exact tw_1_177
  rcases Nat.eq_or_lt_of_le (Nat.le_of_lt_succ hk) with rfl | hk
  · first | exact tw_1_171 | exact tw_1_173 | exact tw_1_175 | exact tw_1_177
  rcases Nat.eq_or_lt_of_le (Nat.le_of_lt_succ hk) with rfl | hk
  · first | exact tw_1_171 | exact tw_1_173 | exact tw_1_175 | exact tw_1_177
  rcases Nat.eq_or_lt_of_le (Nat.le_of_lt_succ hk) with rfl | hk
  · first | exact tw_1_171 | exact tw_1_173 | exact tw_1_175 | exact tw_1_177
  exact absurd hk (Nat.not_lt_zero _)
theorem in_X6 : ∀ w ∈ u_ws RX6 TX6 8, w ∈ TB := by
  intro w hw
  obtain ⟨k, hk, rfl⟩ := List.mem_map.mp hw
  have hk := List.mem_range.mp hk
  rcases Nat.eq_or_lt_of_le (Nat.le_of_lt_succ hk) with rfl | hk
  · first | exact tw_1_80 | exact tw_1_82 | exact tw_1_84 | exact tw_1_86 | exact tw_1_88 | exact tw_1_90 | exact tw_1_92 | exact tw_1_94
  rcases Nat.eq_or_lt_of_le (Nat.le_of_lt_succ hk) with rfl | hk
  · first | exact tw_1_80 | exact tw_1_82 | exact tw_1_84 | exact tw_1_86 | exact tw_1_88 | exact tw_1_90 | exact tw_1_92 | exact tw_1_94
  rcases Nat.eq_or_lt_of_le (Nat.le_of_lt_succ hk) with rfl | hk
  · first | exact tw_1_80 | exact tw_1_82 | exact tw_1_84 | exact tw_1_86 | exact tw_1_88 | exact tw_1_90 | exact tw_1_92 | exact tw_1_94
  rcases Nat.eq_or_lt_of_le (Nat.le_of_lt_succ hk) with rfl | hk
  · first | exact tw_1_80 | exact tw_1_82 | exact tw_1_84 | exact tw_1_86 | exact tw_1_88 | exact tw_1_90 | exact tw_1_92 | exact tw_1_94
  rcases Nat.eq_or_lt_of_le (Nat.le_of_lt_succ hk) with rfl | hk
  · first | exact tw_1_80 | exact tw_1_82 | exact tw_1_84 | exact tw_1_86 | exact tw_1_88 | exact tw_1_90 | exact tw_1_92 | exact tw_1_94
  rcases Nat.eq_or_lt_of_le (Nat.le_of_lt_succ hk) with rfl | hk
  · first | exact tw_1_80 | exact tw_1_82 | exact tw_1_84 | exact tw_1_86 | exact tw_1_88 | exact tw_1_90 | exact tw_1_92 | exact tw_1_94
  rcases Nat.eq_or_lt_of_le (Nat.le_of_lt_succ hk) with rfl | hk
  · first | exact tw_1_80 | exact tw_1_82 | exact tw_1_84 | exact tw_1_86 | exact tw_1_88 | exact tw_1_90 | exact tw_1_92 | exact tw_1_94
  rcases Nat.eq_or_lt_of_le (Nat.le_of_lt_succ hk) with rfl | hk
  · first | exact tw_1_80 | exact tw_1_82 | exact tw_1_84 | exact tw_1_86 | exact tw_1_88 | exact tw_1_90 | exact tw_1_92 | exact tw_1_94
  exact absurd hk (Nat.not_lt_zero _)
theorem in_X7 : ∀ w ∈ u_ws RX7 TX7 1, w ∈ TB := by
  intro w hw
  obtain ⟨k, hk, rfl⟩ := List.mem_map.mp hw
  have hk := List.mem_range.mp hk
  rcases Nat.eq_or_lt_of_le (Nat.le_of_lt_succ hk) with rfl | hk
  · first | exact tw_1_61
  exact absurd hk (Nat.not_lt_zero _)
theorem in_X8 : ∀ w ∈ u_ws RX8 TX8 5, w ∈ TB := by
  intro w hw
  obtain ⟨k, hk, rfl⟩ := List.mem_map.mp hw
  have hk := List.mem_range.mp hk
  rcases Nat.eq_or_lt_of_le (Nat.le_of_lt_succ hk) with rfl | hk
  · first | exact tw_1_106 | exact tw_1_108 | exact tw_1_110 | exact tw_1_112 | exact tw_1_114
  rcases Nat.eq_or_lt_of_le (Nat.le_of_lt_succ hk) with rfl | hk
  · first | exact tw_1_106 | exact tw_1_108 | exact tw_1_110 | exact tw_1_112 | exact tw_1_114
  rcases Nat.eq_or_lt_of_le (Nat.le_of_lt_succ hk) with rfl | hk
  · first | exact tw_1_106 | exact tw_1_108 | exact tw_1_110 | exact tw_1_112 | exact tw_1_114
  rcases Nat.eq_or_lt_of_le (Nat.le_of_lt_succ hk) with rfl | hk
  · first | exact tw_1_106 | exact tw_1_108 | exact tw_1_110 | exact tw_1_112 | exact tw_1_114
  rcases Nat.eq_or_lt_of_le (Nat.le_of_lt_succ hk) with rfl | hk
  · first | exact tw_1_106 | exact tw_1_108 | exact tw_1_110 | exact tw_1_112 | exact tw_1_114
  exact absurd hk (Nat.not_lt_zero _)
theorem in_X9 : ∀ w ∈ u_ws RX9 TX9 9, w ∈ TB := by
  intro w hw
  obtain ⟨k, hk, rfl⟩ := List.mem_map.mp hw
  have hk := List.mem_range.mp hk
  rcases Nat.eq_or_lt_of_le (Nat.le_of_lt_succ hk) with rfl | hk
  · first | exact tw_1_222 | exact tw_1_224 | exact tw_1_226 | exact tw_1_228 | exact tw_1_230 | exact tw_1_232 | exact tw_1_234 | exact tw_1_236 | exact tw_1_238
  rcases Nat.eq_or_lt_of_le (Nat.le_of_lt_succ hk) with rfl | hk
  · first | exact tw_1_222 | exact tw_1_224 | exact tw_1_226 | exact tw_1_228 | exact tw_1_230 | exact tw_1_232 | exact tw_1_234 | exact tw_1_236 | exact tw_1_238
  rcases Nat.eq_or_lt_of_le (Nat.le_of_lt_succ hk) with rfl | hk
  · first | exact tw_1_222 | exact tw_1_224 | exact tw_1_226 | exact tw_1_228 | exact tw_1_230 | exact tw_1_232 | exact tw_1_234 | exact tw_1_236 | exact tw_1_238
  rcases Nat.eq_or_lt_of_le (Nat.le_of_lt_succ hk) with rfl | hk
  · first | exact tw_1_222 | exact tw_1_224 | exact tw_1_226 | exact tw_1_228 | exact tw_1_230 | exact tw_1_232 | exact tw_1_234 | exact tw_1_236 | exact tw_1_238
  rcases Nat.eq_or_lt_of_le (Nat.le_of_lt_succ hk) with rfl | hk
  · first | exact tw_1_222 | exact tw_1_224 | exact tw_1_226 | exact tw_1_228 | exact tw_1_230 | exact tw_1_232 | exact tw_1_234 | exact tw_1_236 | exact tw_1_238
  rcases Nat.eq_or_lt_of_le (Nat.le_of_lt_succ hk) with rfl | hk
  · first | exact tw_1_222 | exact tw_1_224 | exact tw_1_226 | exact tw_1_228 | exact tw_1_230 | exact tw_1_232 | exact tw_1_234 | exact tw_1_236 | exact tw_1_238
  rcases Nat.eq_or_lt_of_le (Nat.le_of_lt_succ hk) with rfl | hk
  · first | exact tw_1_222 | exact tw_1_224 | exact tw_1_226 | exact tw_1_228 | exact tw_1_230 | exact tw_1_232 | exact tw_1_234 | exact tw_1_236 | exact tw_1_238
  rcases Nat.eq_or_lt_of_le (Nat.le_of_lt_succ hk) with rfl | hk
  · first | exact tw_1_222 | exact tw_1_224 | exact tw_1_226 | exact tw_1_228 | exact tw_1_230 | exact tw_1_232 | exact tw_1_234 | exact tw_1_236 | exact tw_1_238
  rcases Nat.eq_or_lt_of_le (Nat.le_of_lt_succ hk) with rfl | hk
  · first | exact tw_1_222 | exact tw_1_224 | exact tw_1_226 | exact tw_1_228 | exact tw_1_230 | exact tw_1_232 | exact tw_1_234 | exact tw_1_236 | exact tw_1_238
  exact absurd hk (Nat.not_lt_zero _)
theorem rm_ok {d a b : Nat} (h1 : a ≤ d) (h2 : b ≤ 40 * d) : a ≤ (rmd d).frames ∧ b ≤ (rmd d).locals := ⟨h1, h2⟩
theorem adx_lo {ad sa : Nat → Nat} {i : Nat} (h : i < 250) : adx ad sa i = ad i := adx_ok ⟨by omega, by omega, by omega⟩
def RowAt (E : En) (ad : Nat → Nat) (i N : Nat) : Prop := (okc i ∧ okc (i + 1)) ∧ N < 2 ^ 31 ∧ (∀ sa v, cell E (adx ad sa) i v = .inr (8, [.ref (ad (i + 1))])) ∧ ∀ sa v, cell E (adx ad sa) (i + 1) v = .inl (eC E 0, N, .inl v)
/-- what is known of the statics of the class and of the JDK -/
def MSGS : List (Nat × String) := [(205, "no such author"), (255, "the field would be a conflict"), (321, "no such character of the line"), (328, "no such character in programs"), (332, "the buffer is full"), (342, "the program is malformed"), (360, "a command failed"), (370, "no change can be undone"), (382, "there is no saved copy"), (390, "no such branch or field"), (395, "an argument is out of range"), (400, "no such revision or tag"), (405, "the store does not allow it now"), (410, "no such branch"), (418, "no such field"), (423, "no such revision"), (425, "there is none")]
def kindNames : List String := ["EDIT", "REVERT", "COMMIT", "BRANCH", "CLOSE", "MERGE", "OURS", "THEIRS", "PICK", "RESET", "TAG", "UNTAG", "ARCHIVE"]
def refusalNames : List String := ["NOTHING", "INDEX", "ARGUMENT", "ELEMENT", "STATE"]
/-- the texts that the class reads: the forms of the commands, and four that it appends -/
def textOf (i : Nat) : List Int32 := ([[101, 100, 105, 116, 32, 35, 35, 36], [114, 101, 118, 101, 114, 116, 32, 35], [99, 111, 109, 109, 105, 116, 32, 35, 32, 35], [98, 114, 97, 110, 99, 104, 32, 42], [99, 108, 111, 115, 101, 32, 35], [109, 101, 114, 103, 101, 32, 35, 35], [111, 117, 114, 115, 32, 35, 35], [116, 104, 101, 105, 114, 115, 32, 35, 35], [112, 105, 99, 107, 32, 35, 32, 42], [114, 101, 115, 101, 116, 32, 35, 32, 42], [116, 97, 103, 32, 94, 32, 42], [117, 110, 116, 97, 103, 32, 94], [97, 114, 99, 104, 105, 118, 101], [32, 64], [32, 60], [43], [32, 33]] : List (List Int32)).getD i []
def EXL : List String := ["java/lang/IndexOutOfBoundsException", "java/lang/IllegalArgumentException", "java/util/NoSuchElementException", "java/lang/IllegalStateException"]
def swOf (i : Nat) : Int32 := if i < 12 then nI (i + 1) else 0
def SFc (E : En) (U : State) (H : Heap) : Prop :=
  va_En "LetterRepository$Refusal" "LLetterRepository$Refusal;" refusalNames [] (eR E) (ours E) U H ∧
  va_En "LetterRepository$Kind" "LLetterRepository$Kind;" kindNames [("java/lang/Enum", "ordinal", "I", [0, 1, 2, 3, 4, 5, 6, 7, 8, 9, 10, 11, 12])] (eK E) (ours E) U H ∧
  (va_Z "LetterRepository" "KINDS" "[LLetterRepository$Kind;" (.ref (eA E 2 0)) (ours E) U H ∧ va_T (.object "LetterRepository$Kind") (eA E 2 0) 13 (fun j => .ref (eK E j)) (ours E) U H) ∧
  (va_Z "LetterRepository$1" "$SwitchMap$LetterRepository$Kind" "[I" (.ref (eA E 2 1)) (ours E) U H ∧ va_T .int (eA E 2 1) 13 (fun j => .int (swOf j)) (ours E) U H) ∧
  (vx_Zq Bundle.tN "UNASSIGNED_STACK" Bundle.steD (ours E) U H ∧ vx_Zq Bundle.tN "SUPPRESSED_SENTINEL" Bundle.listD (ours E) U H) ∧
  (∀ q ∈ MSGS, ∃ a, vk_R "LetterRepository" q.1 q.2 a U) ∧
  va_Ef 13 "LetterRepository$Kind" "form" "Ljava/lang/String;" (fun i => .ref (eA E 3 i)) (eK E) (ours E) U H ∧
  vk_S 17 ((List.range 17).map fun i => (textOf i).length) ((List.range 17).map textOf) (eA E 3) (eA E 4) (ours E) U H ∧
  (vk_R "LetterRepository" 301 " @" (eA E 3 13) U ∧ vk_R "LetterRepository" 306 " <" (eA E 3 14) U ∧ vk_R "LetterRepository" 312 "+" (eA E 3 15) U ∧ vk_R "LetterRepository" 314 " !" (eA E 3 16) U) ∧
  va_Z "java/lang/String" "COMPACT_STRINGS" "Z" (.int 1) (ours E) U H ∧
  (va_Z "java/lang/Integer" "DigitOnes" "[B" (.ref (eA E 2 2)) (ours E) U H ∧ va_T .byte (eA E 2 2) 100 (fun j => .int (nI (48 + j % 10))) (ours E) U H) ∧
  (va_Z "java/lang/Integer" "DigitTens" "[B" (.ref (eA E 2 3)) (ours E) U H ∧ va_T .byte (eA E 2 3) 100 (fun j => .int (nI (48 + j / 10))) (ours E) U H) ∧
  (∃ o : Option Nat, va_Z "jdk/internal/util/Preconditions" "SIOOBE_FORMATTER" "Ljava/util/function/BiFunction;" (va_rf o) (ours E) U H) ∧
  (∀ C ∈ EXL, ∀ D ∈ EXL, C ≠ D → va_Nc C D U) ∧ va_AO "LetterRepository$Store" U ∧ va_AO "LetterRepository$Command" U
/-- what is known of the statics of the class and of the JDK -/
def SF (E : En) : Prop := ∀ (U : State) (H : Heap), eS E U H → SFc E U H
def om {α : Type} (o : Option Nat) (a : α) (k : Nat → α) : α := match o with
  | none => a
  | some x => k x
theorem gon {α : Type} {a z : α} {k : Nat → α} (hf : om none a k = z) : a = z := hf
theorem gos {α : Type} {a z : α} {k : Nat → α} {x : Nat} (hf : om (some x) a k = z) : k x = z := hf
def cpOk (sp dp n : Int32) (n0 n1 : Nat) : Bool := decide (0 ≤ sp) && decide (0 ≤ dp) && decide (0 ≤ n) && decide (sp.toNatClampNeg + n.toNatClampNeg ≤ n0) && decide (dp.toNatClampNeg + n.toNatClampNeg ≤ n1)
theorem nle {x : Int32} (h : 0 ≤ x) : ¬ x < 0 := by
  rw [Int32.le_iff_toInt_le] at h
  rw [Int32.lt_iff_toInt_lt]
  omega
section R06
variable {p : Program} {l : Launch} {e : Env} {R : Room} {s : State} {m : MethodId} {args : Array Value} {below : List Frame} {meth : Method} {c : Code} {H : Heap} {locs : List Loc} {cells slots : Nat} {Q : State → Prop}
variable {E : En} {ad : Nat → Nat} {V V1 Vz : Mem} {ow : String} {b : ByteArray} {n index : Nat} {ret : Option FieldType} {pc : Nat} {ls : Array Slot} {rest : List Value}
theorem r_aretE {o r : Nat} {nm : String} (hC : Cx p s m args c meth E ow b n (some (.object nm))) (hI : In E ad V s H locs) (hf : some (o, V) = some (r, Vz)) (hd : decode b pc = .ok (.areturn, 1)) : W p l e R s m args below meth c H locs cells slots (MQ below (QR E ad (some (.ref (eR E r))) Vz) args s cells slots (ours E)) (F0 m pc ls [.ref (eR E o)]) := by
  cases hf
  exact W.aret hC.1 hC.2.1 hC.2.2.2.2.2.2.2.2.2.1 (.inl ⟨_, rfl⟩) (.inr ⟨_, rfl⟩) (fun t ht _ => ⟨⟨rfl, by rw [ht]; exact hI.1⟩, hI.2.F ht⟩) hI.2.2.2 hd hC.2.2.2.2.2.2.2.2.2.2.1
theorem r_aretN {r : Option Nat} {t : Nat → Nat} {nm : String} (hC : Cx p s m args c meth E ow b n (some (.object nm))) (hI : In E ad V s H locs) (hf : some ((none : Option Nat), V) = some (r, Vz)) (hd : decode b pc = .ok (.areturn, 1)) : W p l e R s m args below meth c H locs cells slots (MQ below (QR E ad (some (va_rf (r.map t))) Vz) args s cells slots (ours E)) (F0 m pc ls [.null]) := by
  cases hf
  exact W.aret hC.1 hC.2.1 hC.2.2.2.2.2.2.2.2.2.1 (.inl ⟨_, rfl⟩) (.inl rfl) (fun t ht _ => ⟨⟨rfl, by rw [ht]; exact hI.1⟩, hI.2.F ht⟩) hI.2.2.2 hd hC.2.2.2.2.2.2.2.2.2.2.1
theorem r_aretQ {k : Nat} {r : Option Nat} {t : Nat → Nat} {nm : String} (hC : Cx p s m args c meth E ow b n (some (.object nm))) (hI : In E ad V s H locs) (hf : some (some k, V) = some (r, Vz)) (hd : decode b pc = .ok (.areturn, 1)) : W p l e R s m args below meth c H locs cells slots (MQ below (QR E ad (some (va_rf (r.map t))) Vz) args s cells slots (ours E)) (F0 m pc ls [.ref (t k)]) := by
  cases hf
  exact W.aret hC.1 hC.2.1 hC.2.2.2.2.2.2.2.2.2.1 (.inl ⟨_, rfl⟩) (.inr ⟨_, rfl⟩) (fun t ht _ => ⟨⟨rfl, by rw [ht]; exact hI.1⟩, hI.2.F ht⟩) hI.2.2.2 hd hC.2.2.2.2.2.2.2.2.2.2.1
theorem sfR (hS : SF E) (hC : Cx p s m args c meth E ow b n ret) : va_En "LetterRepository$Refusal" "LLetterRepository$Refusal;" refusalNames [] (eR E) (ours E) s s.heap := (hS s s.heap hC.2.2.2.2.2.2.2.1).1
theorem sfK (hS : SF E) (hC : Cx p s m args c meth E ow b n ret) : va_En "LetterRepository$Kind" "LLetterRepository$Kind;" kindNames [("java/lang/Enum", "ordinal", "I", [0, 1, 2, 3, 4, 5, 6, 7, 8, 9, 10, 11, 12])] (eK E) (ours E) s s.heap := (hS s s.heap hC.2.2.2.2.2.2.2.1).2.1
theorem r_gsR (i : Nat) (hS : SF E) (hC : Cx p s m args c meth E ow b n ret) (hI : In E ad V s H locs) (hi : i < 5) (hl : Cond.fieldLink ow index "LetterRepository$Refusal" (refusalNames.getD i "") "LLetterRepository$Refusal;" ∈ TB) (hdg : decode b pc = .ok (.getstatic index, 3)) (kk : W p l e R s m args below meth c H locs cells slots Q (F0 m (pc + 3) ls (.ref (eR E i) :: rest))) : W p l e R s m args below meth c H locs cells slots Q (F0 m pc ls rest) :=
  va_gets hC.1 hC.2.1 ((sfR hS hC).1 i hi).1 hI.2 hC.2.2.2.1 (hC.2.2.2.2.1 _ hl) (fun _ h => h) hdg kk
theorem r_gsK (i : Nat) (hS : SF E) (hC : Cx p s m args c meth E ow b n ret) (hI : In E ad V s H locs) (hi : i < 13) (hl : Cond.fieldLink ow index "LetterRepository$Kind" (kindNames.getD i "") "LLetterRepository$Kind;" ∈ TB) (hdg : decode b pc = .ok (.getstatic index, 3)) (kk : W p l e R s m args below meth c H locs cells slots Q (F0 m (pc + 3) ls (.ref (eK E i) :: rest))) : W p l e R s m args below meth c H locs cells slots Q (F0 m pc ls rest) :=
  va_gets hC.1 hC.2.1 ((sfK hS hC).1 i hi).1 hI.2 hC.2.2.2.1 (hC.2.2.2.2.1 _ hl) (fun _ h => h) hdg kk
theorem r_acR_eq {x y : Nat} {off : Int} {tgt : Nat} (hS : SF E) (hC : Cx p s m args c meth E ow b n ret) (hx : x < 5) (hy : y < 5) (hdg : decode b pc = .ok (.if_acmp .eq off, 3)) (ht : (pc : Int) + off = (tgt : Int)) (kt : x = y → W p l e R s m args below meth c H locs cells slots Q (F0 m tgt ls rest)) (kf : ¬ x = y → W p l e R s m args below meth c H locs cells slots Q (F0 m (pc + 3) ls rest)) : W p l e R s m args below meth c H locs cells slots Q (F0 m pc ls (.ref (eR E y) :: .ref (eR E x) :: rest)) :=
  lv_acmp_eq (rx := some (eR E x)) (ry := some (eR E y)) hC.1 hC.2.1 hdg ht (fun h => kt ((sfR hS hC).2 x y hx hy (Option.some.inj h))) (fun h => kf (fun z => h (by rw [z])))
theorem r_acR_ne {x y : Nat} {off : Int} {tgt : Nat} (hS : SF E) (hC : Cx p s m args c meth E ow b n ret) (hx : x < 5) (hy : y < 5) (hdg : decode b pc = .ok (.if_acmp .ne off, 3)) (ht : (pc : Int) + off = (tgt : Int)) (kt : ¬ x = y → W p l e R s m args below meth c H locs cells slots Q (F0 m tgt ls rest)) (kf : x = y → W p l e R s m args below meth c H locs cells slots Q (F0 m (pc + 3) ls rest)) : W p l e R s m args below meth c H locs cells slots Q (F0 m pc ls (.ref (eR E y) :: .ref (eR E x) :: rest)) :=
  lv_acmp_ne (rx := some (eR E x)) (ry := some (eR E y)) hC.1 hC.2.1 hdg ht (fun h => kt (fun z => h (by rw [z]))) (fun h => kf ((sfR hS hC).2 x y hx hy (Option.some.inj h)))
theorem r_gsSw (hS : SF E) (hC : Cx p s m args c meth E ow b n ret) (hI : In E ad V s H locs) (hl : Cond.fieldLink ow index "LetterRepository$1" "$SwitchMap$LetterRepository$Kind" "[I" ∈ TB) (hdg : decode b pc = .ok (.getstatic index, 3)) (kk : W p l e R s m args below meth c H locs cells slots Q (F0 m (pc + 3) ls (.ref (eA E 2 1) :: rest))) : W p l e R s m args below meth c H locs cells slots Q (F0 m pc ls rest) :=
  va_gets hC.1 hC.2.1 ((hS s s.heap hC.2.2.2.2.2.2.2.1).2.2.2.1).1 hI.2 hC.2.2.2.1 (hC.2.2.2.2.1 _ hl) (fun _ h => h) hdg kk
theorem r_swld {x : Int32} (hS : SF E) (hC : Cx p s m args c meth E ow b n ret) (hI : In E ad V s H locs) (hin : vp_in x 13) (hdg : decode b pc = .ok (.iaload, 1)) (kk : W p l e R s m args below meth c H locs cells slots Q (F0 m (pc + 1) ls (.int (swOf x.toNatClampNeg) :: rest))) : W p l e R s m args below meth c H locs cells slots Q (F0 m pc ls (.int x :: .ref (eA E 2 1) :: rest)) :=
  va_ti hC.1 hC.2.1 ((hS s s.heap hC.2.2.2.2.2.2.2.1).2.2.2.1).2 hI.2 hin rfl hdg kk
theorem r_mmin {x y : Int32} (hC : Cx p s m args c meth E ow b n ret) (hsz : ls.size = n) (hl : Cond.methodLink ow index Lib.Math.min.name ∈ TB) (hR : 1 ≤ R.frames ∧ (rest.map fun v => v.category).sum + 13 ≤ R.locals) (hcs : cells ≤ R.cells ∧ slots ≤ R.slots) (hdg : decode b pc = .ok (.invokestatic index, 3)) (kk : W p l e R s m args below meth c H locs cells slots Q (F0 m (pc + 3) ls (.int (if y < x then y else x) :: rest))) : W p l e R s m args below meth c H locs cells slots Q (F0 m pc ls (.int y :: .int x :: rest)) :=
  va_mmin hC.1 hC.2.1 (hC.2.2.1.trans hsz.symm) hC.2.2.2.1 (hC.2.2.2.2.1 _ hl) (hC.2.2.2.2.1 _ tw_2_30) (hC.2.2.2.2.1 _ tw_1_23) (hC.2.2.2.2.1 _ tw_2_31) hR.1 hR.2 hcs.1 hcs.2 hdg kk
theorem r_rowc {i N : Nat} (hr : RowAt E ad i N) (hC : Cx p s m args c meth E ow b n ret) (hI : In E ad V s H locs) (hl : Cond.fieldLink ow index "LetterRepository$Row" "cells" "[I" ∈ TB) (hdg : decode b pc = .ok (.getfield index, 3)) (kk : W p l e R s m args below meth c H locs cells slots Q (F0 m (pc + 3) ls (.ref (ad (i + 1)) :: rest))) : W p l e R s m args below meth c H locs cells slots Q (F0 m pc ls (.ref (ad i) :: rest)) :=
  r_get hC hI (T := TX7) hr.1.1 (fun sa => hr.2.2.1 sa _) rfl in_X7 0 (by decide) hl rfl rfl hdg kk
theorem r_rowld {i N : Nat} (hr : RowAt E ad i N) {x : Int32} (hC : Cx p s m args c meth E ow b n ret) (hI : In E ad V s H locs) (hin : vp_in x N) (hdg : decode b pc = .ok (.iaload, 1)) (kk : W p l e R s m args below meth c H locs cells slots Q (F0 m (pc + 1) ls (.int (V (i + 1) x.toNatClampNeg) :: rest))) : W p l e R s m args below meth c H locs cells slots Q (F0 m pc ls (.int x :: .ref (ad (i + 1)) :: rest)) :=
  r_iald hC hI hr.1.2 hr.2.2.2 hin hdg kk
theorem r_rowst {i N : Nat} (hr : RowAt E ad i N) {x z : Int32} (hC : Cx p s m args c meth E ow b n ret) (hI : In E ad V s H locs) (hin : vp_in x N) (he : V1 = stv V (i + 1) x.toNatClampNeg z) (hdg : decode b pc = .ok (.iastore, 1)) (kk : ∀ (H1 : Heap) (locs1 : List Loc), In E ad V1 s H1 locs1 → W p l e R s m args below meth c H1 locs1 cells slots Q (F0 m (pc + 1) ls rest)) : W p l e R s m args below meth c H locs cells slots Q (F0 m pc ls (.int z :: .int x :: .ref (ad (i + 1)) :: rest)) := by
  subst he
  exact r_iast hC hI hr.1.2 hr.2.2.2 hin hdg kk
theorem r_rowlen {i N : Nat} (hr : RowAt E ad i N) (hC : Cx p s m args c meth E ow b n ret) (hI : In E ad V s H locs) (hdg : decode b pc = .ok (.arraylength, 1)) (kk : W p l e R s m args below meth c H locs cells slots Q (F0 m (pc + 1) ls (.int (nI N) :: rest))) : W p l e R s m args below meth c H locs cells slots Q (F0 m pc ls (.ref (ad (i + 1)) :: rest)) :=
  r_alen hC hI hr.1.2 hr.2.2.2 hdg kk
theorem r_rowcp {i N i2 N2 : Nat} (hr : RowAt E ad i N) (hr2 : RowAt E ad i2 N2) {sp dp k : Int32} (hC : Cx p s m args c meth E ow b n ret) (hI : In E ad V s H locs) (hsz : ls.size = n) (hin : cpOk sp dp k N2 N = true) (he : V1 = va_up V (i + 1) (va_cpy (V (i2 + 1)) (V (i + 1)) sp.toNatClampNeg dp.toNatClampNeg k.toNatClampNeg)) (hl : Cond.methodLink ow index arraycopyName ∈ TB) (hR : 1 ≤ R.frames ∧ (rest.map fun v => v.category).sum + (nativeFrameWords "java/lang/System" "arraycopy" 5 + 11) ≤ R.locals) (hdg : decode b pc = .ok (.invokestatic index, 3)) (kk : ∀ (H1 : Heap) (locs1 : List Loc), In E ad V1 s H1 locs1 → W p l e R s m args below meth c H1 locs1 cells slots Q (F0 m (pc + 3) ls rest)) : W p l e R s m args below meth c H locs cells slots Q (F0 m pc ls (.int k :: .int dp :: .ref (ad (i + 1)) :: .int sp :: .ref (ad (i2 + 1)) :: rest)) := by
  subst he
  simp only [cpOk, Bool.and_eq_true, decide_eq_true_eq] at hin
  obtain ⟨⟨⟨⟨h1, h2⟩, h3⟩, h4⟩, h5⟩ := hin
  obtain ⟨⟨sa, hP, hD, hA⟩, hS⟩ := hI
  refine va_copyi hC.1 hC.2.1 (hC.2.2.1.trans hsz.symm) hC.2.2.2.1 (hC.2.2.2.2.1 _ hl) (hC.2.2.2.2.1 _ tw_2_34) (hC.2.2.2.2.1 _ tw_2_33) (hC.2.2.2.2.1 _ tw_1_24) hC.2.2.2.2.2.1 hP hD hS (i2 + 1) (i + 1) 0 0 ((world_get hr2.1.2).trans (by rw [hr2.2.2.2])) ((world_get hr.1.2).trans (by rw [hr.2.2.2])) rfl rfl rfl (nle h1) (nle h2) (nle h3) h4 h5 (fun _ _ => rfl) hR.1 hR.2 hdg (fun H1 locs1 hP hD hS => kk H1 locs1 ⟨⟨sa, ?_, ?_, hA⟩, hS⟩)
  · rw [← hr.2.2.2 sa, world_set hr.1.2] at hP; exact hP
  · rw [← hr.2.2.2 sa, world_set hr.1.2] at hD; exact hD

theorem ce_0 (v : Nat → Int32) : ∀ sa, cell E (adx ad sa) 0 v = .inr (9, [.ref (ad 1), .ref (ad 14), .ref (ad 16), .ref (ad 18), .int (v 0)]) := fun _ => rfl
theorem g_0_revisions (hC : Cx p s m args c meth E ow b n ret) (hI : In E ad V s H locs) (hl : Cond.fieldLink ow index "LetterRepository$Store" (TX8 0).2.1 (TX8 0).2.2.1 ∈ TB) (hdg : decode b pc = .ok (.getfield index, 3)) (kk : W p l e R s m args below meth c H locs cells slots Q (F0 m (pc + 3) ls (.ref (ad 1) :: rest))) : W p l e R s m args below meth c H locs cells slots Q (F0 m pc ls (.ref (ad 0) :: rest)) :=
  r_get hC hI (T := TX8) (by decide) (ce_0 _) rfl in_X8 0 (by decide) hl rfl rfl hdg kk
theorem gN_0_revisions {host : String} (hC : Cx p s m args c meth E ow b n ret) (hI : In E ad V s H locs) (hl : Cond.fieldLinkNest ow index "LetterRepository$Store" (TX8 0).2.1 (TX8 0).2.2.1 host ∈ NB) (hdg : decode b pc = .ok (.getfield index, 3)) (kk : W p l e R s m args below meth c H locs cells slots Q (F0 m (pc + 3) ls (.ref (ad 1) :: rest))) : W p l e R s m args below meth c H locs cells slots Q (F0 m pc ls (.ref (ad 0) :: rest)) :=
  r_getN hC hI (T := TX8) (by decide) (ce_0 _) rfl in_X8 0 (by decide) hl rfl rfl hdg kk
theorem g_0_heads (hC : Cx p s m args c meth E ow b n ret) (hI : In E ad V s H locs) (hl : Cond.fieldLink ow index "LetterRepository$Store" (TX8 1).2.1 (TX8 1).2.2.1 ∈ TB) (hdg : decode b pc = .ok (.getfield index, 3)) (kk : W p l e R s m args below meth c H locs cells slots Q (F0 m (pc + 3) ls (.ref (ad 14) :: rest))) : W p l e R s m args below meth c H locs cells slots Q (F0 m pc ls (.ref (ad 0) :: rest)) :=
  r_get hC hI (T := TX8) (by decide) (ce_0 _) rfl in_X8 1 (by decide) hl rfl rfl hdg kk
theorem gN_0_heads {host : String} (hC : Cx p s m args c meth E ow b n ret) (hI : In E ad V s H locs) (hl : Cond.fieldLinkNest ow index "LetterRepository$Store" (TX8 1).2.1 (TX8 1).2.2.1 host ∈ NB) (hdg : decode b pc = .ok (.getfield index, 3)) (kk : W p l e R s m args below meth c H locs cells slots Q (F0 m (pc + 3) ls (.ref (ad 14) :: rest))) : W p l e R s m args below meth c H locs cells slots Q (F0 m pc ls (.ref (ad 0) :: rest)) :=
  r_getN hC hI (T := TX8) (by decide) (ce_0 _) rfl in_X8 1 (by decide) hl rfl rfl hdg kk
theorem g_0_working (hC : Cx p s m args c meth E ow b n ret) (hI : In E ad V s H locs) (hl : Cond.fieldLink ow index "LetterRepository$Store" (TX8 2).2.1 (TX8 2).2.2.1 ∈ TB) (hdg : decode b pc = .ok (.getfield index, 3)) (kk : W p l e R s m args below meth c H locs cells slots Q (F0 m (pc + 3) ls (.ref (ad 16) :: rest))) : W p l e R s m args below meth c H locs cells slots Q (F0 m pc ls (.ref (ad 0) :: rest)) :=
  r_get hC hI (T := TX8) (by decide) (ce_0 _) rfl in_X8 2 (by decide) hl rfl rfl hdg kk
theorem gN_0_working {host : String} (hC : Cx p s m args c meth E ow b n ret) (hI : In E ad V s H locs) (hl : Cond.fieldLinkNest ow index "LetterRepository$Store" (TX8 2).2.1 (TX8 2).2.2.1 host ∈ NB) (hdg : decode b pc = .ok (.getfield index, 3)) (kk : W p l e R s m args below meth c H locs cells slots Q (F0 m (pc + 3) ls (.ref (ad 16) :: rest))) : W p l e R s m args below meth c H locs cells slots Q (F0 m pc ls (.ref (ad 0) :: rest)) :=
  r_getN hC hI (T := TX8) (by decide) (ce_0 _) rfl in_X8 2 (by decide) hl rfl rfl hdg kk
theorem g_0_tags (hC : Cx p s m args c meth E ow b n ret) (hI : In E ad V s H locs) (hl : Cond.fieldLink ow index "LetterRepository$Store" (TX8 3).2.1 (TX8 3).2.2.1 ∈ TB) (hdg : decode b pc = .ok (.getfield index, 3)) (kk : W p l e R s m args below meth c H locs cells slots Q (F0 m (pc + 3) ls (.ref (ad 18) :: rest))) : W p l e R s m args below meth c H locs cells slots Q (F0 m pc ls (.ref (ad 0) :: rest)) :=
  r_get hC hI (T := TX8) (by decide) (ce_0 _) rfl in_X8 3 (by decide) hl rfl rfl hdg kk
theorem gN_0_tags {host : String} (hC : Cx p s m args c meth E ow b n ret) (hI : In E ad V s H locs) (hl : Cond.fieldLinkNest ow index "LetterRepository$Store" (TX8 3).2.1 (TX8 3).2.2.1 host ∈ NB) (hdg : decode b pc = .ok (.getfield index, 3)) (kk : W p l e R s m args below meth c H locs cells slots Q (F0 m (pc + 3) ls (.ref (ad 18) :: rest))) : W p l e R s m args below meth c H locs cells slots Q (F0 m pc ls (.ref (ad 0) :: rest)) :=
  r_getN hC hI (T := TX8) (by decide) (ce_0 _) rfl in_X8 3 (by decide) hl rfl rfl hdg kk
theorem g_0_branchCount (hC : Cx p s m args c meth E ow b n ret) (hI : In E ad V s H locs) (hl : Cond.fieldLink ow index "LetterRepository$Store" (TX8 4).2.1 (TX8 4).2.2.1 ∈ TB) (hdg : decode b pc = .ok (.getfield index, 3)) (kk : W p l e R s m args below meth c H locs cells slots Q (F0 m (pc + 3) ls (.int (V 0 0) :: rest))) : W p l e R s m args below meth c H locs cells slots Q (F0 m pc ls (.ref (ad 0) :: rest)) :=
  r_get hC hI (T := TX8) (by decide) (ce_0 _) rfl in_X8 4 (by decide) hl rfl rfl hdg kk
theorem p_0_branchCount {x : Int32} (hC : Cx p s m args c meth E ow b n ret) (hI : In E ad V s H locs) (he : V1 = stv V 0 0 x) (hl : Cond.fieldLink ow index "LetterRepository$Store" (TX8 4).2.1 (TX8 4).2.2.1 ∈ TB) (hdg : decode b pc = .ok (.putfield index, 3)) (kk : ∀ (H1 : Heap) (locs1 : List Loc), In E ad V1 s H1 locs1 → W p l e R s m args below meth c H1 locs1 cells slots Q (F0 m (pc + 3) ls rest)) : W p l e R s m args below meth c H locs cells slots Q (F0 m pc ls (.int x :: .ref (ad 0) :: rest)) := by
  subst he
  exact r_put (v := upd (V 0) 0 x) (ty := .int) hC hI tyX8 tyX8_ok nmX8 (by decide) (ce_0 _) rfl in_X8 4 (by decide) hl rfl rfl (by decide +kernel) rfl rfl (Nat.le_of_ble_eq_true rfl) (fun sa => (ce_0 _ sa).trans rfl) hdg kk
theorem gN_0_branchCount {host : String} (hC : Cx p s m args c meth E ow b n ret) (hI : In E ad V s H locs) (hl : Cond.fieldLinkNest ow index "LetterRepository$Store" (TX8 4).2.1 (TX8 4).2.2.1 host ∈ NB) (hdg : decode b pc = .ok (.getfield index, 3)) (kk : W p l e R s m args below meth c H locs cells slots Q (F0 m (pc + 3) ls (.int (V 0 0) :: rest))) : W p l e R s m args below meth c H locs cells slots Q (F0 m pc ls (.ref (ad 0) :: rest)) :=
  r_getN hC hI (T := TX8) (by decide) (ce_0 _) rfl in_X8 4 (by decide) hl rfl rfl hdg kk
theorem pN_0_branchCount {host : String} {x : Int32} (hC : Cx p s m args c meth E ow b n ret) (hI : In E ad V s H locs) (he : V1 = stv V 0 0 x) (hl : Cond.fieldLinkNest ow index "LetterRepository$Store" (TX8 4).2.1 (TX8 4).2.2.1 host ∈ NB) (hdg : decode b pc = .ok (.putfield index, 3)) (kk : ∀ (H1 : Heap) (locs1 : List Loc), In E ad V1 s H1 locs1 → W p l e R s m args below meth c H1 locs1 cells slots Q (F0 m (pc + 3) ls rest)) : W p l e R s m args below meth c H locs cells slots Q (F0 m pc ls (.int x :: .ref (ad 0) :: rest)) := by
  subst he
  exact r_putN (v := upd (V 0) 0 x) (ty := .int) hC hI tyX8 tyX8_ok nmX8 (by decide) (ce_0 _) rfl in_X8 4 (by decide) hl rfl rfl (by decide +kernel) rfl rfl (Nat.le_of_ble_eq_true rfl) (fun sa => (ce_0 _ sa).trans rfl) hdg kk
theorem ce_1 (v : Nat → Int32) : ∀ sa, cell E (adx ad sa) 1 v = .inr (7, [.ref (ad 2), .ref (ad 4), .ref (ad 6), .ref (ad 8), .ref (ad 10), .ref (ad 12), .int (v 0), .int (v 1)]) := fun _ => rfl
theorem g_1_firstParents (hC : Cx p s m args c meth E ow b n ret) (hI : In E ad V s H locs) (hl : Cond.fieldLink ow index "LetterRepository$Revisions" (TX6 0).2.1 (TX6 0).2.2.1 ∈ TB) (hdg : decode b pc = .ok (.getfield index, 3)) (kk : W p l e R s m args below meth c H locs cells slots Q (F0 m (pc + 3) ls (.ref (ad 2) :: rest))) : W p l e R s m args below meth c H locs cells slots Q (F0 m pc ls (.ref (ad 1) :: rest)) :=
  r_get hC hI (T := TX6) (by decide) (ce_1 _) rfl in_X6 0 (by decide) hl rfl rfl hdg kk
theorem gN_1_firstParents {host : String} (hC : Cx p s m args c meth E ow b n ret) (hI : In E ad V s H locs) (hl : Cond.fieldLinkNest ow index "LetterRepository$Revisions" (TX6 0).2.1 (TX6 0).2.2.1 host ∈ NB) (hdg : decode b pc = .ok (.getfield index, 3)) (kk : W p l e R s m args below meth c H locs cells slots Q (F0 m (pc + 3) ls (.ref (ad 2) :: rest))) : W p l e R s m args below meth c H locs cells slots Q (F0 m pc ls (.ref (ad 1) :: rest)) :=
  r_getN hC hI (T := TX6) (by decide) (ce_1 _) rfl in_X6 0 (by decide) hl rfl rfl hdg kk
theorem g_1_secondParents (hC : Cx p s m args c meth E ow b n ret) (hI : In E ad V s H locs) (hl : Cond.fieldLink ow index "LetterRepository$Revisions" (TX6 1).2.1 (TX6 1).2.2.1 ∈ TB) (hdg : decode b pc = .ok (.getfield index, 3)) (kk : W p l e R s m args below meth c H locs cells slots Q (F0 m (pc + 3) ls (.ref (ad 4) :: rest))) : W p l e R s m args below meth c H locs cells slots Q (F0 m pc ls (.ref (ad 1) :: rest)) :=
  r_get hC hI (T := TX6) (by decide) (ce_1 _) rfl in_X6 1 (by decide) hl rfl rfl hdg kk
theorem gN_1_secondParents {host : String} (hC : Cx p s m args c meth E ow b n ret) (hI : In E ad V s H locs) (hl : Cond.fieldLinkNest ow index "LetterRepository$Revisions" (TX6 1).2.1 (TX6 1).2.2.1 host ∈ NB) (hdg : decode b pc = .ok (.getfield index, 3)) (kk : W p l e R s m args below meth c H locs cells slots Q (F0 m (pc + 3) ls (.ref (ad 4) :: rest))) : W p l e R s m args below meth c H locs cells slots Q (F0 m pc ls (.ref (ad 1) :: rest)) :=
  r_getN hC hI (T := TX6) (by decide) (ce_1 _) rfl in_X6 1 (by decide) hl rfl rfl hdg kk
theorem g_1_authors (hC : Cx p s m args c meth E ow b n ret) (hI : In E ad V s H locs) (hl : Cond.fieldLink ow index "LetterRepository$Revisions" (TX6 2).2.1 (TX6 2).2.2.1 ∈ TB) (hdg : decode b pc = .ok (.getfield index, 3)) (kk : W p l e R s m args below meth c H locs cells slots Q (F0 m (pc + 3) ls (.ref (ad 6) :: rest))) : W p l e R s m args below meth c H locs cells slots Q (F0 m pc ls (.ref (ad 1) :: rest)) :=
  r_get hC hI (T := TX6) (by decide) (ce_1 _) rfl in_X6 2 (by decide) hl rfl rfl hdg kk
theorem gN_1_authors {host : String} (hC : Cx p s m args c meth E ow b n ret) (hI : In E ad V s H locs) (hl : Cond.fieldLinkNest ow index "LetterRepository$Revisions" (TX6 2).2.1 (TX6 2).2.2.1 host ∈ NB) (hdg : decode b pc = .ok (.getfield index, 3)) (kk : W p l e R s m args below meth c H locs cells slots Q (F0 m (pc + 3) ls (.ref (ad 6) :: rest))) : W p l e R s m args below meth c H locs cells slots Q (F0 m pc ls (.ref (ad 1) :: rest)) :=
  r_getN hC hI (T := TX6) (by decide) (ce_1 _) rfl in_X6 2 (by decide) hl rfl rfl hdg kk
theorem g_1_generations (hC : Cx p s m args c meth E ow b n ret) (hI : In E ad V s H locs) (hl : Cond.fieldLink ow index "LetterRepository$Revisions" (TX6 3).2.1 (TX6 3).2.2.1 ∈ TB) (hdg : decode b pc = .ok (.getfield index, 3)) (kk : W p l e R s m args below meth c H locs cells slots Q (F0 m (pc + 3) ls (.ref (ad 8) :: rest))) : W p l e R s m args below meth c H locs cells slots Q (F0 m pc ls (.ref (ad 1) :: rest)) :=
  r_get hC hI (T := TX6) (by decide) (ce_1 _) rfl in_X6 3 (by decide) hl rfl rfl hdg kk
theorem gN_1_generations {host : String} (hC : Cx p s m args c meth E ow b n ret) (hI : In E ad V s H locs) (hl : Cond.fieldLinkNest ow index "LetterRepository$Revisions" (TX6 3).2.1 (TX6 3).2.2.1 host ∈ NB) (hdg : decode b pc = .ok (.getfield index, 3)) (kk : W p l e R s m args below meth c H locs cells slots Q (F0 m (pc + 3) ls (.ref (ad 8) :: rest))) : W p l e R s m args below meth c H locs cells slots Q (F0 m pc ls (.ref (ad 1) :: rest)) :=
  r_getN hC hI (T := TX6) (by decide) (ce_1 _) rfl in_X6 3 (by decide) hl rfl rfl hdg kk
theorem g_1_ancestorSets (hC : Cx p s m args c meth E ow b n ret) (hI : In E ad V s H locs) (hl : Cond.fieldLink ow index "LetterRepository$Revisions" (TX6 4).2.1 (TX6 4).2.2.1 ∈ TB) (hdg : decode b pc = .ok (.getfield index, 3)) (kk : W p l e R s m args below meth c H locs cells slots Q (F0 m (pc + 3) ls (.ref (ad 10) :: rest))) : W p l e R s m args below meth c H locs cells slots Q (F0 m pc ls (.ref (ad 1) :: rest)) :=
  r_get hC hI (T := TX6) (by decide) (ce_1 _) rfl in_X6 4 (by decide) hl rfl rfl hdg kk
theorem gN_1_ancestorSets {host : String} (hC : Cx p s m args c meth E ow b n ret) (hI : In E ad V s H locs) (hl : Cond.fieldLinkNest ow index "LetterRepository$Revisions" (TX6 4).2.1 (TX6 4).2.2.1 host ∈ NB) (hdg : decode b pc = .ok (.getfield index, 3)) (kk : W p l e R s m args below meth c H locs cells slots Q (F0 m (pc + 3) ls (.ref (ad 10) :: rest))) : W p l e R s m args below meth c H locs cells slots Q (F0 m pc ls (.ref (ad 1) :: rest)) :=
  r_getN hC hI (T := TX6) (by decide) (ce_1 _) rfl in_X6 4 (by decide) hl rfl rfl hdg kk
theorem g_1_letters (hC : Cx p s m args c meth E ow b n ret) (hI : In E ad V s H locs) (hl : Cond.fieldLink ow index "LetterRepository$Revisions" (TX6 5).2.1 (TX6 5).2.2.1 ∈ TB) (hdg : decode b pc = .ok (.getfield index, 3)) (kk : W p l e R s m args below meth c H locs cells slots Q (F0 m (pc + 3) ls (.ref (ad 12) :: rest))) : W p l e R s m args below meth c H locs cells slots Q (F0 m pc ls (.ref (ad 1) :: rest)) :=
  r_get hC hI (T := TX6) (by decide) (ce_1 _) rfl in_X6 5 (by decide) hl rfl rfl hdg kk
theorem gN_1_letters {host : String} (hC : Cx p s m args c meth E ow b n ret) (hI : In E ad V s H locs) (hl : Cond.fieldLinkNest ow index "LetterRepository$Revisions" (TX6 5).2.1 (TX6 5).2.2.1 host ∈ NB) (hdg : decode b pc = .ok (.getfield index, 3)) (kk : W p l e R s m args below meth c H locs cells slots Q (F0 m (pc + 3) ls (.ref (ad 12) :: rest))) : W p l e R s m args below meth c H locs cells slots Q (F0 m pc ls (.ref (ad 1) :: rest)) :=
  r_getN hC hI (T := TX6) (by decide) (ce_1 _) rfl in_X6 5 (by decide) hl rfl rfl hdg kk
theorem g_1_archived (hC : Cx p s m args c meth E ow b n ret) (hI : In E ad V s H locs) (hl : Cond.fieldLink ow index "LetterRepository$Revisions" (TX6 6).2.1 (TX6 6).2.2.1 ∈ TB) (hdg : decode b pc = .ok (.getfield index, 3)) (kk : W p l e R s m args below meth c H locs cells slots Q (F0 m (pc + 3) ls (.int (V 1 0) :: rest))) : W p l e R s m args below meth c H locs cells slots Q (F0 m pc ls (.ref (ad 1) :: rest)) :=
  r_get hC hI (T := TX6) (by decide) (ce_1 _) rfl in_X6 6 (by decide) hl rfl rfl hdg kk
theorem p_1_archived {x : Int32} (hC : Cx p s m args c meth E ow b n ret) (hI : In E ad V s H locs) (he : V1 = stv V 1 0 x) (hl : Cond.fieldLink ow index "LetterRepository$Revisions" (TX6 6).2.1 (TX6 6).2.2.1 ∈ TB) (hdg : decode b pc = .ok (.putfield index, 3)) (kk : ∀ (H1 : Heap) (locs1 : List Loc), In E ad V1 s H1 locs1 → W p l e R s m args below meth c H1 locs1 cells slots Q (F0 m (pc + 3) ls rest)) : W p l e R s m args below meth c H locs cells slots Q (F0 m pc ls (.int x :: .ref (ad 1) :: rest)) := by
  subst he
  exact r_put (v := upd (V 1) 0 x) (ty := .int) hC hI tyX6 tyX6_ok nmX6 (by decide) (ce_1 _) rfl in_X6 6 (by decide) hl rfl rfl (by decide +kernel) rfl rfl (Nat.le_of_ble_eq_true rfl) (fun sa => (ce_1 _ sa).trans rfl) hdg kk
theorem gN_1_archived {host : String} (hC : Cx p s m args c meth E ow b n ret) (hI : In E ad V s H locs) (hl : Cond.fieldLinkNest ow index "LetterRepository$Revisions" (TX6 6).2.1 (TX6 6).2.2.1 host ∈ NB) (hdg : decode b pc = .ok (.getfield index, 3)) (kk : W p l e R s m args below meth c H locs cells slots Q (F0 m (pc + 3) ls (.int (V 1 0) :: rest))) : W p l e R s m args below meth c H locs cells slots Q (F0 m pc ls (.ref (ad 1) :: rest)) :=
  r_getN hC hI (T := TX6) (by decide) (ce_1 _) rfl in_X6 6 (by decide) hl rfl rfl hdg kk
theorem pN_1_archived {host : String} {x : Int32} (hC : Cx p s m args c meth E ow b n ret) (hI : In E ad V s H locs) (he : V1 = stv V 1 0 x) (hl : Cond.fieldLinkNest ow index "LetterRepository$Revisions" (TX6 6).2.1 (TX6 6).2.2.1 host ∈ NB) (hdg : decode b pc = .ok (.putfield index, 3)) (kk : ∀ (H1 : Heap) (locs1 : List Loc), In E ad V1 s H1 locs1 → W p l e R s m args below meth c H1 locs1 cells slots Q (F0 m (pc + 3) ls rest)) : W p l e R s m args below meth c H locs cells slots Q (F0 m pc ls (.int x :: .ref (ad 1) :: rest)) := by
  subst he
  exact r_putN (v := upd (V 1) 0 x) (ty := .int) hC hI tyX6 tyX6_ok nmX6 (by decide) (ce_1 _) rfl in_X6 6 (by decide) hl rfl rfl (by decide +kernel) rfl rfl (Nat.le_of_ble_eq_true rfl) (fun sa => (ce_1 _ sa).trans rfl) hdg kk
theorem g_1_count (hC : Cx p s m args c meth E ow b n ret) (hI : In E ad V s H locs) (hl : Cond.fieldLink ow index "LetterRepository$Revisions" (TX6 7).2.1 (TX6 7).2.2.1 ∈ TB) (hdg : decode b pc = .ok (.getfield index, 3)) (kk : W p l e R s m args below meth c H locs cells slots Q (F0 m (pc + 3) ls (.int (V 1 1) :: rest))) : W p l e R s m args below meth c H locs cells slots Q (F0 m pc ls (.ref (ad 1) :: rest)) :=
  r_get hC hI (T := TX6) (by decide) (ce_1 _) rfl in_X6 7 (by decide) hl rfl rfl hdg kk
theorem p_1_count {x : Int32} (hC : Cx p s m args c meth E ow b n ret) (hI : In E ad V s H locs) (he : V1 = stv V 1 1 x) (hl : Cond.fieldLink ow index "LetterRepository$Revisions" (TX6 7).2.1 (TX6 7).2.2.1 ∈ TB) (hdg : decode b pc = .ok (.putfield index, 3)) (kk : ∀ (H1 : Heap) (locs1 : List Loc), In E ad V1 s H1 locs1 → W p l e R s m args below meth c H1 locs1 cells slots Q (F0 m (pc + 3) ls rest)) : W p l e R s m args below meth c H locs cells slots Q (F0 m pc ls (.int x :: .ref (ad 1) :: rest)) := by
  subst he
  exact r_put (v := upd (V 1) 1 x) (ty := .int) hC hI tyX6 tyX6_ok nmX6 (by decide) (ce_1 _) rfl in_X6 7 (by decide) hl rfl rfl (by decide +kernel) rfl rfl (Nat.le_of_ble_eq_true rfl) (fun sa => (ce_1 _ sa).trans rfl) hdg kk
theorem gN_1_count {host : String} (hC : Cx p s m args c meth E ow b n ret) (hI : In E ad V s H locs) (hl : Cond.fieldLinkNest ow index "LetterRepository$Revisions" (TX6 7).2.1 (TX6 7).2.2.1 host ∈ NB) (hdg : decode b pc = .ok (.getfield index, 3)) (kk : W p l e R s m args below meth c H locs cells slots Q (F0 m (pc + 3) ls (.int (V 1 1) :: rest))) : W p l e R s m args below meth c H locs cells slots Q (F0 m pc ls (.ref (ad 1) :: rest)) :=
  r_getN hC hI (T := TX6) (by decide) (ce_1 _) rfl in_X6 7 (by decide) hl rfl rfl hdg kk
theorem pN_1_count {host : String} {x : Int32} (hC : Cx p s m args c meth E ow b n ret) (hI : In E ad V s H locs) (he : V1 = stv V 1 1 x) (hl : Cond.fieldLinkNest ow index "LetterRepository$Revisions" (TX6 7).2.1 (TX6 7).2.2.1 host ∈ NB) (hdg : decode b pc = .ok (.putfield index, 3)) (kk : ∀ (H1 : Heap) (locs1 : List Loc), In E ad V1 s H1 locs1 → W p l e R s m args below meth c H1 locs1 cells slots Q (F0 m (pc + 3) ls rest)) : W p l e R s m args below meth c H locs cells slots Q (F0 m pc ls (.int x :: .ref (ad 1) :: rest)) := by
  subst he
  exact r_putN (v := upd (V 1) 1 x) (ty := .int) hC hI tyX6 tyX6_ok nmX6 (by decide) (ce_1 _) rfl in_X6 7 (by decide) hl rfl rfl (by decide +kernel) rfl rfl (Nat.le_of_ble_eq_true rfl) (fun sa => (ce_1 _ sa).trans rfl) hdg kk
theorem ce_220 (v : Nat → Int32) : ∀ sa, cell E (adx ad sa) 220 v = .inr (5, [.ref (ad 221), .int (v 0), .int (v 1)]) := fun _ => rfl
theorem g_220_slots (hC : Cx p s m args c meth E ow b n ret) (hI : In E ad V s H locs) (hl : Cond.fieldLink ow index "LetterRepository$History" (TX2 0).2.1 (TX2 0).2.2.1 ∈ TB) (hdg : decode b pc = .ok (.getfield index, 3)) (kk : W p l e R s m args below meth c H locs cells slots Q (F0 m (pc + 3) ls (.ref (ad 221) :: rest))) : W p l e R s m args below meth c H locs cells slots Q (F0 m pc ls (.ref (ad 220) :: rest)) :=
  r_get hC hI (T := TX2) (by decide) (ce_220 _) rfl in_X2 0 (by decide) hl rfl rfl hdg kk
theorem gN_220_slots {host : String} (hC : Cx p s m args c meth E ow b n ret) (hI : In E ad V s H locs) (hl : Cond.fieldLinkNest ow index "LetterRepository$History" (TX2 0).2.1 (TX2 0).2.2.1 host ∈ NB) (hdg : decode b pc = .ok (.getfield index, 3)) (kk : W p l e R s m args below meth c H locs cells slots Q (F0 m (pc + 3) ls (.ref (ad 221) :: rest))) : W p l e R s m args below meth c H locs cells slots Q (F0 m pc ls (.ref (ad 220) :: rest)) :=
  r_getN hC hI (T := TX2) (by decide) (ce_220 _) rfl in_X2 0 (by decide) hl rfl rfl hdg kk
theorem g_220_spare (hC : Cx p s m args c meth E ow b n ret) (hI : In E ad V s H locs) (hl : Cond.fieldLink ow index "LetterRepository$History" (TX2 1).2.1 (TX2 1).2.2.1 ∈ TB) (hdg : decode b pc = .ok (.getfield index, 3)) (kk : W p l e R s m args below meth c H locs cells slots Q (F0 m (pc + 3) ls (.int (V 220 0) :: rest))) : W p l e R s m args below meth c H locs cells slots Q (F0 m pc ls (.ref (ad 220) :: rest)) :=
  r_get hC hI (T := TX2) (by decide) (ce_220 _) rfl in_X2 1 (by decide) hl rfl rfl hdg kk
theorem p_220_spare {x : Int32} (hC : Cx p s m args c meth E ow b n ret) (hI : In E ad V s H locs) (he : V1 = stv V 220 0 x) (hl : Cond.fieldLink ow index "LetterRepository$History" (TX2 1).2.1 (TX2 1).2.2.1 ∈ TB) (hdg : decode b pc = .ok (.putfield index, 3)) (kk : ∀ (H1 : Heap) (locs1 : List Loc), In E ad V1 s H1 locs1 → W p l e R s m args below meth c H1 locs1 cells slots Q (F0 m (pc + 3) ls rest)) : W p l e R s m args below meth c H locs cells slots Q (F0 m pc ls (.int x :: .ref (ad 220) :: rest)) := by
  subst he
  exact r_put (v := upd (V 220) 0 x) (ty := .int) hC hI tyX2 tyX2_ok nmX2 (by decide) (ce_220 _) rfl in_X2 1 (by decide) hl rfl rfl (by decide +kernel) rfl rfl (Nat.le_of_ble_eq_true rfl) (fun sa => (ce_220 _ sa).trans rfl) hdg kk
theorem gN_220_spare {host : String} (hC : Cx p s m args c meth E ow b n ret) (hI : In E ad V s H locs) (hl : Cond.fieldLinkNest ow index "LetterRepository$History" (TX2 1).2.1 (TX2 1).2.2.1 host ∈ NB) (hdg : decode b pc = .ok (.getfield index, 3)) (kk : W p l e R s m args below meth c H locs cells slots Q (F0 m (pc + 3) ls (.int (V 220 0) :: rest))) : W p l e R s m args below meth c H locs cells slots Q (F0 m pc ls (.ref (ad 220) :: rest)) :=
  r_getN hC hI (T := TX2) (by decide) (ce_220 _) rfl in_X2 1 (by decide) hl rfl rfl hdg kk
theorem pN_220_spare {host : String} {x : Int32} (hC : Cx p s m args c meth E ow b n ret) (hI : In E ad V s H locs) (he : V1 = stv V 220 0 x) (hl : Cond.fieldLinkNest ow index "LetterRepository$History" (TX2 1).2.1 (TX2 1).2.2.1 host ∈ NB) (hdg : decode b pc = .ok (.putfield index, 3)) (kk : ∀ (H1 : Heap) (locs1 : List Loc), In E ad V1 s H1 locs1 → W p l e R s m args below meth c H1 locs1 cells slots Q (F0 m (pc + 3) ls rest)) : W p l e R s m args below meth c H locs cells slots Q (F0 m pc ls (.int x :: .ref (ad 220) :: rest)) := by
  subst he
  exact r_putN (v := upd (V 220) 0 x) (ty := .int) hC hI tyX2 tyX2_ok nmX2 (by decide) (ce_220 _) rfl in_X2 1 (by decide) hl rfl rfl (by decide +kernel) rfl rfl (Nat.le_of_ble_eq_true rfl) (fun sa => (ce_220 _ sa).trans rfl) hdg kk
theorem g_220_count (hC : Cx p s m args c meth E ow b n ret) (hI : In E ad V s H locs) (hl : Cond.fieldLink ow index "LetterRepository$History" (TX2 2).2.1 (TX2 2).2.2.1 ∈ TB) (hdg : decode b pc = .ok (.getfield index, 3)) (kk : W p l e R s m args below meth c H locs cells slots Q (F0 m (pc + 3) ls (.int (V 220 1) :: rest))) : W p l e R s m args below meth c H locs cells slots Q (F0 m pc ls (.ref (ad 220) :: rest)) :=
  r_get hC hI (T := TX2) (by decide) (ce_220 _) rfl in_X2 2 (by decide) hl rfl rfl hdg kk
theorem p_220_count {x : Int32} (hC : Cx p s m args c meth E ow b n ret) (hI : In E ad V s H locs) (he : V1 = stv V 220 1 x) (hl : Cond.fieldLink ow index "LetterRepository$History" (TX2 2).2.1 (TX2 2).2.2.1 ∈ TB) (hdg : decode b pc = .ok (.putfield index, 3)) (kk : ∀ (H1 : Heap) (locs1 : List Loc), In E ad V1 s H1 locs1 → W p l e R s m args below meth c H1 locs1 cells slots Q (F0 m (pc + 3) ls rest)) : W p l e R s m args below meth c H locs cells slots Q (F0 m pc ls (.int x :: .ref (ad 220) :: rest)) := by
  subst he
  exact r_put (v := upd (V 220) 1 x) (ty := .int) hC hI tyX2 tyX2_ok nmX2 (by decide) (ce_220 _) rfl in_X2 2 (by decide) hl rfl rfl (by decide +kernel) rfl rfl (Nat.le_of_ble_eq_true rfl) (fun sa => (ce_220 _ sa).trans rfl) hdg kk
theorem gN_220_count {host : String} (hC : Cx p s m args c meth E ow b n ret) (hI : In E ad V s H locs) (hl : Cond.fieldLinkNest ow index "LetterRepository$History" (TX2 2).2.1 (TX2 2).2.2.1 host ∈ NB) (hdg : decode b pc = .ok (.getfield index, 3)) (kk : W p l e R s m args below meth c H locs cells slots Q (F0 m (pc + 3) ls (.int (V 220 1) :: rest))) : W p l e R s m args below meth c H locs cells slots Q (F0 m pc ls (.ref (ad 220) :: rest)) :=
  r_getN hC hI (T := TX2) (by decide) (ce_220 _) rfl in_X2 2 (by decide) hl rfl rfl hdg kk
theorem pN_220_count {host : String} {x : Int32} (hC : Cx p s m args c meth E ow b n ret) (hI : In E ad V s H locs) (he : V1 = stv V 220 1 x) (hl : Cond.fieldLinkNest ow index "LetterRepository$History" (TX2 2).2.1 (TX2 2).2.2.1 host ∈ NB) (hdg : decode b pc = .ok (.putfield index, 3)) (kk : ∀ (H1 : Heap) (locs1 : List Loc), In E ad V1 s H1 locs1 → W p l e R s m args below meth c H1 locs1 cells slots Q (F0 m (pc + 3) ls rest)) : W p l e R s m args below meth c H locs cells slots Q (F0 m pc ls (.int x :: .ref (ad 220) :: rest)) := by
  subst he
  exact r_putN (v := upd (V 220) 1 x) (ty := .int) hC hI tyX2 tyX2_ok nmX2 (by decide) (ce_220 _) rfl in_X2 2 (by decide) hl rfl rfl (by decide +kernel) rfl rfl (Nat.le_of_ble_eq_true rfl) (fun sa => (ce_220 _ sa).trans rfl) hdg kk
theorem ce_222 (v : Nat → Int32) : ∀ sa, cell E (adx ad sa) 222 v = .inr (6, [.ref (ad 223), .int (v 0), .int (v 1), .int (v 2)]) := fun _ => rfl
theorem g_222_commands (hC : Cx p s m args c meth E ow b n ret) (hI : In E ad V s H locs) (hl : Cond.fieldLink ow index "LetterRepository$Program" (TX4 0).2.1 (TX4 0).2.2.1 ∈ TB) (hdg : decode b pc = .ok (.getfield index, 3)) (kk : W p l e R s m args below meth c H locs cells slots Q (F0 m (pc + 3) ls (.ref (ad 223) :: rest))) : W p l e R s m args below meth c H locs cells slots Q (F0 m pc ls (.ref (ad 222) :: rest)) :=
  r_get hC hI (T := TX4) (by decide) (ce_222 _) rfl in_X4 0 (by decide) hl rfl rfl hdg kk
theorem gN_222_commands {host : String} (hC : Cx p s m args c meth E ow b n ret) (hI : In E ad V s H locs) (hl : Cond.fieldLinkNest ow index "LetterRepository$Program" (TX4 0).2.1 (TX4 0).2.2.1 host ∈ NB) (hdg : decode b pc = .ok (.getfield index, 3)) (kk : W p l e R s m args below meth c H locs cells slots Q (F0 m (pc + 3) ls (.ref (ad 223) :: rest))) : W p l e R s m args below meth c H locs cells slots Q (F0 m pc ls (.ref (ad 222) :: rest)) :=
  r_getN hC hI (T := TX4) (by decide) (ce_222 _) rfl in_X4 0 (by decide) hl rfl rfl hdg kk
theorem g_222_count (hC : Cx p s m args c meth E ow b n ret) (hI : In E ad V s H locs) (hl : Cond.fieldLink ow index "LetterRepository$Program" (TX4 1).2.1 (TX4 1).2.2.1 ∈ TB) (hdg : decode b pc = .ok (.getfield index, 3)) (kk : W p l e R s m args below meth c H locs cells slots Q (F0 m (pc + 3) ls (.int (V 222 0) :: rest))) : W p l e R s m args below meth c H locs cells slots Q (F0 m pc ls (.ref (ad 222) :: rest)) :=
  r_get hC hI (T := TX4) (by decide) (ce_222 _) rfl in_X4 1 (by decide) hl rfl rfl hdg kk
theorem p_222_count {x : Int32} (hC : Cx p s m args c meth E ow b n ret) (hI : In E ad V s H locs) (he : V1 = stv V 222 0 x) (hl : Cond.fieldLink ow index "LetterRepository$Program" (TX4 1).2.1 (TX4 1).2.2.1 ∈ TB) (hdg : decode b pc = .ok (.putfield index, 3)) (kk : ∀ (H1 : Heap) (locs1 : List Loc), In E ad V1 s H1 locs1 → W p l e R s m args below meth c H1 locs1 cells slots Q (F0 m (pc + 3) ls rest)) : W p l e R s m args below meth c H locs cells slots Q (F0 m pc ls (.int x :: .ref (ad 222) :: rest)) := by
  subst he
  exact r_put (v := upd (V 222) 0 x) (ty := .int) hC hI tyX4 tyX4_ok nmX4 (by decide) (ce_222 _) rfl in_X4 1 (by decide) hl rfl rfl (by decide +kernel) rfl rfl (Nat.le_of_ble_eq_true rfl) (fun sa => (ce_222 _ sa).trans rfl) hdg kk
theorem gN_222_count {host : String} (hC : Cx p s m args c meth E ow b n ret) (hI : In E ad V s H locs) (hl : Cond.fieldLinkNest ow index "LetterRepository$Program" (TX4 1).2.1 (TX4 1).2.2.1 host ∈ NB) (hdg : decode b pc = .ok (.getfield index, 3)) (kk : W p l e R s m args below meth c H locs cells slots Q (F0 m (pc + 3) ls (.int (V 222 0) :: rest))) : W p l e R s m args below meth c H locs cells slots Q (F0 m pc ls (.ref (ad 222) :: rest)) :=
  r_getN hC hI (T := TX4) (by decide) (ce_222 _) rfl in_X4 1 (by decide) hl rfl rfl hdg kk
theorem pN_222_count {host : String} {x : Int32} (hC : Cx p s m args c meth E ow b n ret) (hI : In E ad V s H locs) (he : V1 = stv V 222 0 x) (hl : Cond.fieldLinkNest ow index "LetterRepository$Program" (TX4 1).2.1 (TX4 1).2.2.1 host ∈ NB) (hdg : decode b pc = .ok (.putfield index, 3)) (kk : ∀ (H1 : Heap) (locs1 : List Loc), In E ad V1 s H1 locs1 → W p l e R s m args below meth c H1 locs1 cells slots Q (F0 m (pc + 3) ls rest)) : W p l e R s m args below meth c H locs cells slots Q (F0 m pc ls (.int x :: .ref (ad 222) :: rest)) := by
  subst he
  exact r_putN (v := upd (V 222) 0 x) (ty := .int) hC hI tyX4 tyX4_ok nmX4 (by decide) (ce_222 _) rfl in_X4 1 (by decide) hl rfl rfl (by decide +kernel) rfl rfl (Nat.le_of_ble_eq_true rfl) (fun sa => (ce_222 _ sa).trans rfl) hdg kk
theorem g_222_error (hC : Cx p s m args c meth E ow b n ret) (hI : In E ad V s H locs) (hl : Cond.fieldLink ow index "LetterRepository$Program" (TX4 2).2.1 (TX4 2).2.2.1 ∈ TB) (hdg : decode b pc = .ok (.getfield index, 3)) (kk : W p l e R s m args below meth c H locs cells slots Q (F0 m (pc + 3) ls (.int (V 222 1) :: rest))) : W p l e R s m args below meth c H locs cells slots Q (F0 m pc ls (.ref (ad 222) :: rest)) :=
  r_get hC hI (T := TX4) (by decide) (ce_222 _) rfl in_X4 2 (by decide) hl rfl rfl hdg kk
theorem p_222_error {x : Int32} (hC : Cx p s m args c meth E ow b n ret) (hI : In E ad V s H locs) (he : V1 = stv V 222 1 x) (hl : Cond.fieldLink ow index "LetterRepository$Program" (TX4 2).2.1 (TX4 2).2.2.1 ∈ TB) (hdg : decode b pc = .ok (.putfield index, 3)) (kk : ∀ (H1 : Heap) (locs1 : List Loc), In E ad V1 s H1 locs1 → W p l e R s m args below meth c H1 locs1 cells slots Q (F0 m (pc + 3) ls rest)) : W p l e R s m args below meth c H locs cells slots Q (F0 m pc ls (.int x :: .ref (ad 222) :: rest)) := by
  subst he
  exact r_put (v := upd (V 222) 1 x) (ty := .int) hC hI tyX4 tyX4_ok nmX4 (by decide) (ce_222 _) rfl in_X4 2 (by decide) hl rfl rfl (by decide +kernel) rfl rfl (Nat.le_of_ble_eq_true rfl) (fun sa => (ce_222 _ sa).trans rfl) hdg kk
theorem gN_222_error {host : String} (hC : Cx p s m args c meth E ow b n ret) (hI : In E ad V s H locs) (hl : Cond.fieldLinkNest ow index "LetterRepository$Program" (TX4 2).2.1 (TX4 2).2.2.1 host ∈ NB) (hdg : decode b pc = .ok (.getfield index, 3)) (kk : W p l e R s m args below meth c H locs cells slots Q (F0 m (pc + 3) ls (.int (V 222 1) :: rest))) : W p l e R s m args below meth c H locs cells slots Q (F0 m pc ls (.ref (ad 222) :: rest)) :=
  r_getN hC hI (T := TX4) (by decide) (ce_222 _) rfl in_X4 2 (by decide) hl rfl rfl hdg kk
theorem pN_222_error {host : String} {x : Int32} (hC : Cx p s m args c meth E ow b n ret) (hI : In E ad V s H locs) (he : V1 = stv V 222 1 x) (hl : Cond.fieldLinkNest ow index "LetterRepository$Program" (TX4 2).2.1 (TX4 2).2.2.1 host ∈ NB) (hdg : decode b pc = .ok (.putfield index, 3)) (kk : ∀ (H1 : Heap) (locs1 : List Loc), In E ad V1 s H1 locs1 → W p l e R s m args below meth c H1 locs1 cells slots Q (F0 m (pc + 3) ls rest)) : W p l e R s m args below meth c H locs cells slots Q (F0 m pc ls (.int x :: .ref (ad 222) :: rest)) := by
  subst he
  exact r_putN (v := upd (V 222) 1 x) (ty := .int) hC hI tyX4 tyX4_ok nmX4 (by decide) (ce_222 _) rfl in_X4 2 (by decide) hl rfl rfl (by decide +kernel) rfl rfl (Nat.le_of_ble_eq_true rfl) (fun sa => (ce_222 _ sa).trans rfl) hdg kk
theorem g_222_position (hC : Cx p s m args c meth E ow b n ret) (hI : In E ad V s H locs) (hl : Cond.fieldLink ow index "LetterRepository$Program" (TX4 3).2.1 (TX4 3).2.2.1 ∈ TB) (hdg : decode b pc = .ok (.getfield index, 3)) (kk : W p l e R s m args below meth c H locs cells slots Q (F0 m (pc + 3) ls (.int (V 222 2) :: rest))) : W p l e R s m args below meth c H locs cells slots Q (F0 m pc ls (.ref (ad 222) :: rest)) :=
  r_get hC hI (T := TX4) (by decide) (ce_222 _) rfl in_X4 3 (by decide) hl rfl rfl hdg kk
theorem p_222_position {x : Int32} (hC : Cx p s m args c meth E ow b n ret) (hI : In E ad V s H locs) (he : V1 = stv V 222 2 x) (hl : Cond.fieldLink ow index "LetterRepository$Program" (TX4 3).2.1 (TX4 3).2.2.1 ∈ TB) (hdg : decode b pc = .ok (.putfield index, 3)) (kk : ∀ (H1 : Heap) (locs1 : List Loc), In E ad V1 s H1 locs1 → W p l e R s m args below meth c H1 locs1 cells slots Q (F0 m (pc + 3) ls rest)) : W p l e R s m args below meth c H locs cells slots Q (F0 m pc ls (.int x :: .ref (ad 222) :: rest)) := by
  subst he
  exact r_put (v := upd (V 222) 2 x) (ty := .int) hC hI tyX4 tyX4_ok nmX4 (by decide) (ce_222 _) rfl in_X4 3 (by decide) hl rfl rfl (by decide +kernel) rfl rfl (Nat.le_of_ble_eq_true rfl) (fun sa => (ce_222 _ sa).trans rfl) hdg kk
theorem gN_222_position {host : String} (hC : Cx p s m args c meth E ow b n ret) (hI : In E ad V s H locs) (hl : Cond.fieldLinkNest ow index "LetterRepository$Program" (TX4 3).2.1 (TX4 3).2.2.1 host ∈ NB) (hdg : decode b pc = .ok (.getfield index, 3)) (kk : W p l e R s m args below meth c H locs cells slots Q (F0 m (pc + 3) ls (.int (V 222 2) :: rest))) : W p l e R s m args below meth c H locs cells slots Q (F0 m pc ls (.ref (ad 222) :: rest)) :=
  r_getN hC hI (T := TX4) (by decide) (ce_222 _) rfl in_X4 3 (by decide) hl rfl rfl hdg kk
theorem pN_222_position {host : String} {x : Int32} (hC : Cx p s m args c meth E ow b n ret) (hI : In E ad V s H locs) (he : V1 = stv V 222 2 x) (hl : Cond.fieldLinkNest ow index "LetterRepository$Program" (TX4 3).2.1 (TX4 3).2.2.1 host ∈ NB) (hdg : decode b pc = .ok (.putfield index, 3)) (kk : ∀ (H1 : Heap) (locs1 : List Loc), In E ad V1 s H1 locs1 → W p l e R s m args below meth c H1 locs1 cells slots Q (F0 m (pc + 3) ls rest)) : W p l e R s m args below meth c H locs cells slots Q (F0 m pc ls (.int x :: .ref (ad 222) :: rest)) := by
  subst he
  exact r_putN (v := upd (V 222) 2 x) (ty := .int) hC hI tyX4 tyX4_ok nmX4 (by decide) (ce_222 _) rfl in_X4 3 (by decide) hl rfl rfl (by decide +kernel) rfl rfl (Nat.le_of_ble_eq_true rfl) (fun sa => (ce_222 _ sa).trans rfl) hdg kk
theorem ce_248 (v : Nat → Int32) : ∀ sa, cell E (adx ad sa) 248 v = .inr (10, [.ref (ad 0), .ref (ad 20), .ref (ad 220), .ref (ad 222), .ref (ad 249), .ref (ad 251), .int (v 0), .int (v 1), .int (v 2)]) := fun _ => rfl
theorem g_248_store (hC : Cx p s m args c meth E ow b n ret) (hI : In E ad V s H locs) (hl : Cond.fieldLink ow index "LetterRepository" (TX9 0).2.1 (TX9 0).2.2.1 ∈ TB) (hdg : decode b pc = .ok (.getfield index, 3)) (kk : W p l e R s m args below meth c H locs cells slots Q (F0 m (pc + 3) ls (.ref (ad 0) :: rest))) : W p l e R s m args below meth c H locs cells slots Q (F0 m pc ls (.ref (ad 248) :: rest)) :=
  r_get hC hI (T := TX9) (by decide) (ce_248 _) rfl in_X9 0 (by decide) hl rfl rfl hdg kk
theorem gN_248_store {host : String} (hC : Cx p s m args c meth E ow b n ret) (hI : In E ad V s H locs) (hl : Cond.fieldLinkNest ow index "LetterRepository" (TX9 0).2.1 (TX9 0).2.2.1 host ∈ NB) (hdg : decode b pc = .ok (.getfield index, 3)) (kk : W p l e R s m args below meth c H locs cells slots Q (F0 m (pc + 3) ls (.ref (ad 0) :: rest))) : W p l e R s m args below meth c H locs cells slots Q (F0 m pc ls (.ref (ad 248) :: rest)) :=
  r_getN hC hI (T := TX9) (by decide) (ce_248 _) rfl in_X9 0 (by decide) hl rfl rfl hdg kk
theorem g_248_savedCopy (hC : Cx p s m args c meth E ow b n ret) (hI : In E ad V s H locs) (hl : Cond.fieldLink ow index "LetterRepository" (TX9 1).2.1 (TX9 1).2.2.1 ∈ TB) (hdg : decode b pc = .ok (.getfield index, 3)) (kk : W p l e R s m args below meth c H locs cells slots Q (F0 m (pc + 3) ls (.ref (ad 20) :: rest))) : W p l e R s m args below meth c H locs cells slots Q (F0 m pc ls (.ref (ad 248) :: rest)) :=
  r_get hC hI (T := TX9) (by decide) (ce_248 _) rfl in_X9 1 (by decide) hl rfl rfl hdg kk
theorem gN_248_savedCopy {host : String} (hC : Cx p s m args c meth E ow b n ret) (hI : In E ad V s H locs) (hl : Cond.fieldLinkNest ow index "LetterRepository" (TX9 1).2.1 (TX9 1).2.2.1 host ∈ NB) (hdg : decode b pc = .ok (.getfield index, 3)) (kk : W p l e R s m args below meth c H locs cells slots Q (F0 m (pc + 3) ls (.ref (ad 20) :: rest))) : W p l e R s m args below meth c H locs cells slots Q (F0 m pc ls (.ref (ad 248) :: rest)) :=
  r_getN hC hI (T := TX9) (by decide) (ce_248 _) rfl in_X9 1 (by decide) hl rfl rfl hdg kk
theorem g_248_history (hC : Cx p s m args c meth E ow b n ret) (hI : In E ad V s H locs) (hl : Cond.fieldLink ow index "LetterRepository" (TX9 2).2.1 (TX9 2).2.2.1 ∈ TB) (hdg : decode b pc = .ok (.getfield index, 3)) (kk : W p l e R s m args below meth c H locs cells slots Q (F0 m (pc + 3) ls (.ref (ad 220) :: rest))) : W p l e R s m args below meth c H locs cells slots Q (F0 m pc ls (.ref (ad 248) :: rest)) :=
  r_get hC hI (T := TX9) (by decide) (ce_248 _) rfl in_X9 2 (by decide) hl rfl rfl hdg kk
theorem gN_248_history {host : String} (hC : Cx p s m args c meth E ow b n ret) (hI : In E ad V s H locs) (hl : Cond.fieldLinkNest ow index "LetterRepository" (TX9 2).2.1 (TX9 2).2.2.1 host ∈ NB) (hdg : decode b pc = .ok (.getfield index, 3)) (kk : W p l e R s m args below meth c H locs cells slots Q (F0 m (pc + 3) ls (.ref (ad 220) :: rest))) : W p l e R s m args below meth c H locs cells slots Q (F0 m pc ls (.ref (ad 248) :: rest)) :=
  r_getN hC hI (T := TX9) (by decide) (ce_248 _) rfl in_X9 2 (by decide) hl rfl rfl hdg kk
theorem g_248_program (hC : Cx p s m args c meth E ow b n ret) (hI : In E ad V s H locs) (hl : Cond.fieldLink ow index "LetterRepository" (TX9 3).2.1 (TX9 3).2.2.1 ∈ TB) (hdg : decode b pc = .ok (.getfield index, 3)) (kk : W p l e R s m args below meth c H locs cells slots Q (F0 m (pc + 3) ls (.ref (ad 222) :: rest))) : W p l e R s m args below meth c H locs cells slots Q (F0 m pc ls (.ref (ad 248) :: rest)) :=
  r_get hC hI (T := TX9) (by decide) (ce_248 _) rfl in_X9 3 (by decide) hl rfl rfl hdg kk
theorem gN_248_program {host : String} (hC : Cx p s m args c meth E ow b n ret) (hI : In E ad V s H locs) (hl : Cond.fieldLinkNest ow index "LetterRepository" (TX9 3).2.1 (TX9 3).2.2.1 host ∈ NB) (hdg : decode b pc = .ok (.getfield index, 3)) (kk : W p l e R s m args below meth c H locs cells slots Q (F0 m (pc + 3) ls (.ref (ad 222) :: rest))) : W p l e R s m args below meth c H locs cells slots Q (F0 m pc ls (.ref (ad 248) :: rest)) :=
  r_getN hC hI (T := TX9) (by decide) (ce_248 _) rfl in_X9 3 (by decide) hl rfl rfl hdg kk
theorem g_248_input (hC : Cx p s m args c meth E ow b n ret) (hI : In E ad V s H locs) (hl : Cond.fieldLink ow index "LetterRepository" (TX9 4).2.1 (TX9 4).2.2.1 ∈ TB) (hdg : decode b pc = .ok (.getfield index, 3)) (kk : W p l e R s m args below meth c H locs cells slots Q (F0 m (pc + 3) ls (.ref (ad 249) :: rest))) : W p l e R s m args below meth c H locs cells slots Q (F0 m pc ls (.ref (ad 248) :: rest)) :=
  r_get hC hI (T := TX9) (by decide) (ce_248 _) rfl in_X9 4 (by decide) hl rfl rfl hdg kk
theorem gN_248_input {host : String} (hC : Cx p s m args c meth E ow b n ret) (hI : In E ad V s H locs) (hl : Cond.fieldLinkNest ow index "LetterRepository" (TX9 4).2.1 (TX9 4).2.2.1 host ∈ NB) (hdg : decode b pc = .ok (.getfield index, 3)) (kk : W p l e R s m args below meth c H locs cells slots Q (F0 m (pc + 3) ls (.ref (ad 249) :: rest))) : W p l e R s m args below meth c H locs cells slots Q (F0 m pc ls (.ref (ad 248) :: rest)) :=
  r_getN hC hI (T := TX9) (by decide) (ce_248 _) rfl in_X9 4 (by decide) hl rfl rfl hdg kk
theorem g_248_line (hC : Cx p s m args c meth E ow b n ret) (hI : In E ad V s H locs) (hl : Cond.fieldLink ow index "LetterRepository" (TX9 5).2.1 (TX9 5).2.2.1 ∈ TB) (hdg : decode b pc = .ok (.getfield index, 3)) (kk : W p l e R s m args below meth c H locs cells slots Q (F0 m (pc + 3) ls (.ref (ad 251) :: rest))) : W p l e R s m args below meth c H locs cells slots Q (F0 m pc ls (.ref (ad 248) :: rest)) :=
  r_get hC hI (T := TX9) (by decide) (ce_248 _) rfl in_X9 5 (by decide) hl rfl rfl hdg kk
theorem gN_248_line {host : String} (hC : Cx p s m args c meth E ow b n ret) (hI : In E ad V s H locs) (hl : Cond.fieldLinkNest ow index "LetterRepository" (TX9 5).2.1 (TX9 5).2.2.1 host ∈ NB) (hdg : decode b pc = .ok (.getfield index, 3)) (kk : W p l e R s m args below meth c H locs cells slots Q (F0 m (pc + 3) ls (.ref (ad 251) :: rest))) : W p l e R s m args below meth c H locs cells slots Q (F0 m pc ls (.ref (ad 248) :: rest)) :=
  r_getN hC hI (T := TX9) (by decide) (ce_248 _) rfl in_X9 5 (by decide) hl rfl rfl hdg kk
theorem g_248_hasSavedCopy (hC : Cx p s m args c meth E ow b n ret) (hI : In E ad V s H locs) (hl : Cond.fieldLink ow index "LetterRepository" (TX9 6).2.1 (TX9 6).2.2.1 ∈ TB) (hdg : decode b pc = .ok (.getfield index, 3)) (kk : W p l e R s m args below meth c H locs cells slots Q (F0 m (pc + 3) ls (.int (V 248 0) :: rest))) : W p l e R s m args below meth c H locs cells slots Q (F0 m pc ls (.ref (ad 248) :: rest)) :=
  r_get hC hI (T := TX9) (by decide) (ce_248 _) rfl in_X9 6 (by decide) hl rfl rfl hdg kk
theorem p_248_hasSavedCopy {x : Int32} (hC : Cx p s m args c meth E ow b n ret) (hI : In E ad V s H locs) (hb : x = 0 ∨ x = 1) (he : V1 = stv V 248 0 x) (hl : Cond.fieldLink ow index "LetterRepository" (TX9 6).2.1 (TX9 6).2.2.1 ∈ TB) (hdg : decode b pc = .ok (.putfield index, 3)) (kk : ∀ (H1 : Heap) (locs1 : List Loc), In E ad V1 s H1 locs1 → W p l e R s m args below meth c H1 locs1 cells slots Q (F0 m (pc + 3) ls rest)) : W p l e R s m args below meth c H locs cells slots Q (F0 m pc ls (.int x :: .ref (ad 248) :: rest)) := by
  subst he
  exact r_put (v := upd (V 248) 0 x) (ty := .boolean) hC hI tyX9 tyX9_ok nmX9 (by decide) (ce_248 _) rfl in_X9 6 (by decide) hl rfl rfl (by decide +kernel) (bo_n hb) (bo_f hb) (Nat.le_of_ble_eq_true rfl) (fun sa => (ce_248 _ sa).trans rfl) hdg kk
theorem gN_248_hasSavedCopy {host : String} (hC : Cx p s m args c meth E ow b n ret) (hI : In E ad V s H locs) (hl : Cond.fieldLinkNest ow index "LetterRepository" (TX9 6).2.1 (TX9 6).2.2.1 host ∈ NB) (hdg : decode b pc = .ok (.getfield index, 3)) (kk : W p l e R s m args below meth c H locs cells slots Q (F0 m (pc + 3) ls (.int (V 248 0) :: rest))) : W p l e R s m args below meth c H locs cells slots Q (F0 m pc ls (.ref (ad 248) :: rest)) :=
  r_getN hC hI (T := TX9) (by decide) (ce_248 _) rfl in_X9 6 (by decide) hl rfl rfl hdg kk
theorem pN_248_hasSavedCopy {host : String} {x : Int32} (hC : Cx p s m args c meth E ow b n ret) (hI : In E ad V s H locs) (hb : x = 0 ∨ x = 1) (he : V1 = stv V 248 0 x) (hl : Cond.fieldLinkNest ow index "LetterRepository" (TX9 6).2.1 (TX9 6).2.2.1 host ∈ NB) (hdg : decode b pc = .ok (.putfield index, 3)) (kk : ∀ (H1 : Heap) (locs1 : List Loc), In E ad V1 s H1 locs1 → W p l e R s m args below meth c H1 locs1 cells slots Q (F0 m (pc + 3) ls rest)) : W p l e R s m args below meth c H locs cells slots Q (F0 m pc ls (.int x :: .ref (ad 248) :: rest)) := by
  subst he
  exact r_putN (v := upd (V 248) 0 x) (ty := .boolean) hC hI tyX9 tyX9_ok nmX9 (by decide) (ce_248 _) rfl in_X9 6 (by decide) hl rfl rfl (by decide +kernel) (bo_n hb) (bo_f hb) (Nat.le_of_ble_eq_true rfl) (fun sa => (ce_248 _ sa).trans rfl) hdg kk
theorem g_248_storedErrorPosition (hC : Cx p s m args c meth E ow b n ret) (hI : In E ad V s H locs) (hl : Cond.fieldLink ow index "LetterRepository" (TX9 7).2.1 (TX9 7).2.2.1 ∈ TB) (hdg : decode b pc = .ok (.getfield index, 3)) (kk : W p l e R s m args below meth c H locs cells slots Q (F0 m (pc + 3) ls (.int (V 248 1) :: rest))) : W p l e R s m args below meth c H locs cells slots Q (F0 m pc ls (.ref (ad 248) :: rest)) :=
  r_get hC hI (T := TX9) (by decide) (ce_248 _) rfl in_X9 7 (by decide) hl rfl rfl hdg kk
theorem p_248_storedErrorPosition {x : Int32} (hC : Cx p s m args c meth E ow b n ret) (hI : In E ad V s H locs) (he : V1 = stv V 248 1 x) (hl : Cond.fieldLink ow index "LetterRepository" (TX9 7).2.1 (TX9 7).2.2.1 ∈ TB) (hdg : decode b pc = .ok (.putfield index, 3)) (kk : ∀ (H1 : Heap) (locs1 : List Loc), In E ad V1 s H1 locs1 → W p l e R s m args below meth c H1 locs1 cells slots Q (F0 m (pc + 3) ls rest)) : W p l e R s m args below meth c H locs cells slots Q (F0 m pc ls (.int x :: .ref (ad 248) :: rest)) := by
  subst he
  exact r_put (v := upd (V 248) 1 x) (ty := .int) hC hI tyX9 tyX9_ok nmX9 (by decide) (ce_248 _) rfl in_X9 7 (by decide) hl rfl rfl (by decide +kernel) rfl rfl (Nat.le_of_ble_eq_true rfl) (fun sa => (ce_248 _ sa).trans rfl) hdg kk
theorem gN_248_storedErrorPosition {host : String} (hC : Cx p s m args c meth E ow b n ret) (hI : In E ad V s H locs) (hl : Cond.fieldLinkNest ow index "LetterRepository" (TX9 7).2.1 (TX9 7).2.2.1 host ∈ NB) (hdg : decode b pc = .ok (.getfield index, 3)) (kk : W p l e R s m args below meth c H locs cells slots Q (F0 m (pc + 3) ls (.int (V 248 1) :: rest))) : W p l e R s m args below meth c H locs cells slots Q (F0 m pc ls (.ref (ad 248) :: rest)) :=
  r_getN hC hI (T := TX9) (by decide) (ce_248 _) rfl in_X9 7 (by decide) hl rfl rfl hdg kk
theorem pN_248_storedErrorPosition {host : String} {x : Int32} (hC : Cx p s m args c meth E ow b n ret) (hI : In E ad V s H locs) (he : V1 = stv V 248 1 x) (hl : Cond.fieldLinkNest ow index "LetterRepository" (TX9 7).2.1 (TX9 7).2.2.1 host ∈ NB) (hdg : decode b pc = .ok (.putfield index, 3)) (kk : ∀ (H1 : Heap) (locs1 : List Loc), In E ad V1 s H1 locs1 → W p l e R s m args below meth c H1 locs1 cells slots Q (F0 m (pc + 3) ls rest)) : W p l e R s m args below meth c H locs cells slots Q (F0 m pc ls (.int x :: .ref (ad 248) :: rest)) := by
  subst he
  exact r_putN (v := upd (V 248) 1 x) (ty := .int) hC hI tyX9 tyX9_ok nmX9 (by decide) (ce_248 _) rfl in_X9 7 (by decide) hl rfl rfl (by decide +kernel) rfl rfl (Nat.le_of_ble_eq_true rfl) (fun sa => (ce_248 _ sa).trans rfl) hdg kk
theorem g_248_storedFailedCommand (hC : Cx p s m args c meth E ow b n ret) (hI : In E ad V s H locs) (hl : Cond.fieldLink ow index "LetterRepository" (TX9 8).2.1 (TX9 8).2.2.1 ∈ TB) (hdg : decode b pc = .ok (.getfield index, 3)) (kk : W p l e R s m args below meth c H locs cells slots Q (F0 m (pc + 3) ls (.int (V 248 2) :: rest))) : W p l e R s m args below meth c H locs cells slots Q (F0 m pc ls (.ref (ad 248) :: rest)) :=
  r_get hC hI (T := TX9) (by decide) (ce_248 _) rfl in_X9 8 (by decide) hl rfl rfl hdg kk
theorem p_248_storedFailedCommand {x : Int32} (hC : Cx p s m args c meth E ow b n ret) (hI : In E ad V s H locs) (he : V1 = stv V 248 2 x) (hl : Cond.fieldLink ow index "LetterRepository" (TX9 8).2.1 (TX9 8).2.2.1 ∈ TB) (hdg : decode b pc = .ok (.putfield index, 3)) (kk : ∀ (H1 : Heap) (locs1 : List Loc), In E ad V1 s H1 locs1 → W p l e R s m args below meth c H1 locs1 cells slots Q (F0 m (pc + 3) ls rest)) : W p l e R s m args below meth c H locs cells slots Q (F0 m pc ls (.int x :: .ref (ad 248) :: rest)) := by
  subst he
  exact r_put (v := upd (V 248) 2 x) (ty := .int) hC hI tyX9 tyX9_ok nmX9 (by decide) (ce_248 _) rfl in_X9 8 (by decide) hl rfl rfl (by decide +kernel) rfl rfl (Nat.le_of_ble_eq_true rfl) (fun sa => (ce_248 _ sa).trans rfl) hdg kk
theorem gN_248_storedFailedCommand {host : String} (hC : Cx p s m args c meth E ow b n ret) (hI : In E ad V s H locs) (hl : Cond.fieldLinkNest ow index "LetterRepository" (TX9 8).2.1 (TX9 8).2.2.1 host ∈ NB) (hdg : decode b pc = .ok (.getfield index, 3)) (kk : W p l e R s m args below meth c H locs cells slots Q (F0 m (pc + 3) ls (.int (V 248 2) :: rest))) : W p l e R s m args below meth c H locs cells slots Q (F0 m pc ls (.ref (ad 248) :: rest)) :=
  r_getN hC hI (T := TX9) (by decide) (ce_248 _) rfl in_X9 8 (by decide) hl rfl rfl hdg kk
theorem pN_248_storedFailedCommand {host : String} {x : Int32} (hC : Cx p s m args c meth E ow b n ret) (hI : In E ad V s H locs) (he : V1 = stv V 248 2 x) (hl : Cond.fieldLinkNest ow index "LetterRepository" (TX9 8).2.1 (TX9 8).2.2.1 host ∈ NB) (hdg : decode b pc = .ok (.putfield index, 3)) (kk : ∀ (H1 : Heap) (locs1 : List Loc), In E ad V1 s H1 locs1 → W p l e R s m args below meth c H1 locs1 cells slots Q (F0 m (pc + 3) ls rest)) : W p l e R s m args below meth c H locs cells slots Q (F0 m pc ls (.int x :: .ref (ad 248) :: rest)) := by
  subst he
  exact r_putN (v := upd (V 248) 2 x) (ty := .int) hC hI tyX9 tyX9_ok nmX9 (by decide) (ce_248 _) rfl in_X9 8 (by decide) hl rfl rfl (by decide +kernel) rfl rfl (Nat.le_of_ble_eq_true rfl) (fun sa => (ce_248 _ sa).trans rfl) hdg kk
theorem row_2 : RowAt E ad 2 24 := ⟨⟨by decide, by decide⟩, by decide, fun _ _ => rfl, fun _ _ => rfl⟩
theorem row_4 : RowAt E ad 4 24 := ⟨⟨by decide, by decide⟩, by decide, fun _ _ => rfl, fun _ _ => rfl⟩
theorem row_6 : RowAt E ad 6 24 := ⟨⟨by decide, by decide⟩, by decide, fun _ _ => rfl, fun _ _ => rfl⟩
theorem row_8 : RowAt E ad 8 24 := ⟨⟨by decide, by decide⟩, by decide, fun _ _ => rfl, fun _ _ => rfl⟩
theorem row_10 : RowAt E ad 10 24 := ⟨⟨by decide, by decide⟩, by decide, fun _ _ => rfl, fun _ _ => rfl⟩
theorem row_12 : RowAt E ad 12 192 := ⟨⟨by decide, by decide⟩, by decide, fun _ _ => rfl, fun _ _ => rfl⟩
theorem row_14 : RowAt E ad 14 5 := ⟨⟨by decide, by decide⟩, by decide, fun _ _ => rfl, fun _ _ => rfl⟩
theorem row_16 : RowAt E ad 16 40 := ⟨⟨by decide, by decide⟩, by decide, fun _ _ => rfl, fun _ _ => rfl⟩
theorem row_18 : RowAt E ad 18 26 := ⟨⟨by decide, by decide⟩, by decide, fun _ _ => rfl, fun _ _ => rfl⟩
theorem ceS_0 {k : Nat} (hk : k < 11) (v : Nat → Int32) : ∀ sa, cell E (adx ad sa) (20 * k) v = .inr (9, [.ref (ad (20 * k + 1)), .ref (ad (20 * k + 14)), .ref (ad (20 * k + 16)), .ref (ad (20 * k + 18)), .int (v 0)]) := by
  intro sa
  have h1 : 20 * k < 220 := by omega
  have h2 : (20 * k) % 20 = 0 := by omega
  have h3 : 20 * k - 0 = 20 * k := by omega
  unfold cell
  rw [if_pos h1, h2, h3]
  simp (disch := omega) [stCell, rowLen, adx_lo]
theorem ceS_1 {k : Nat} (hk : k < 11) (v : Nat → Int32) : ∀ sa, cell E (adx ad sa) (20 * k + 1) v = .inr (7, [.ref (ad (20 * k + 2)), .ref (ad (20 * k + 4)), .ref (ad (20 * k + 6)), .ref (ad (20 * k + 8)), .ref (ad (20 * k + 10)), .ref (ad (20 * k + 12)), .int (v 0), .int (v 1)]) := by
  intro sa
  have h1 : 20 * k + 1 < 220 := by omega
  have h2 : (20 * k + 1) % 20 = 1 := by omega
  have h3 : 20 * k + 1 - 1 = 20 * k := by omega
  unfold cell
  rw [if_pos h1, h2, h3]
  simp (disch := omega) [stCell, rowLen, adx_lo]
theorem ceS_2 {k : Nat} (hk : k < 11) (v : Nat → Int32) : ∀ sa, cell E (adx ad sa) (20 * k + 2) v = .inr (8, [.ref (ad (20 * k + 2 + 1))]) := by
  intro sa
  have h1 : 20 * k + 2 < 220 := by omega
  have h2 : (20 * k + 2) % 20 = 2 := by omega
  have h3 : 20 * k + 2 - 2 = 20 * k := by omega
  unfold cell
  rw [if_pos h1, h2, h3]
  simp (disch := omega) [stCell, rowLen, adx_lo]
theorem ceS_3 {k : Nat} (hk : k < 11) (v : Nat → Int32) : ∀ sa, cell E (adx ad sa) (20 * k + 3) v = .inl (eC E 0, 24, .inl v) := by
  intro sa
  have h1 : 20 * k + 3 < 220 := by omega
  have h2 : (20 * k + 3) % 20 = 3 := by omega
  have h3 : 20 * k + 3 - 3 = 20 * k := by omega
  unfold cell
  rw [if_pos h1, h2, h3]
  simp (disch := omega) [stCell, rowLen, adx_lo]
theorem ceS_4 {k : Nat} (hk : k < 11) (v : Nat → Int32) : ∀ sa, cell E (adx ad sa) (20 * k + 4) v = .inr (8, [.ref (ad (20 * k + 4 + 1))]) := by
  intro sa
  have h1 : 20 * k + 4 < 220 := by omega
  have h2 : (20 * k + 4) % 20 = 4 := by omega
  have h3 : 20 * k + 4 - 4 = 20 * k := by omega
  unfold cell
  rw [if_pos h1, h2, h3]
  simp (disch := omega) [stCell, rowLen, adx_lo]
theorem ceS_5 {k : Nat} (hk : k < 11) (v : Nat → Int32) : ∀ sa, cell E (adx ad sa) (20 * k + 5) v = .inl (eC E 0, 24, .inl v) := by
  intro sa
  have h1 : 20 * k + 5 < 220 := by omega
  have h2 : (20 * k + 5) % 20 = 5 := by omega
  have h3 : 20 * k + 5 - 5 = 20 * k := by omega
  unfold cell
  rw [if_pos h1, h2, h3]
  simp (disch := omega) [stCell, rowLen, adx_lo]
theorem ceS_6 {k : Nat} (hk : k < 11) (v : Nat → Int32) : ∀ sa, cell E (adx ad sa) (20 * k + 6) v = .inr (8, [.ref (ad (20 * k + 6 + 1))]) := by
  intro sa
  have h1 : 20 * k + 6 < 220 := by omega
  have h2 : (20 * k + 6) % 20 = 6 := by omega
  have h3 : 20 * k + 6 - 6 = 20 * k := by omega
  unfold cell
  rw [if_pos h1, h2, h3]
  simp (disch := omega) [stCell, rowLen, adx_lo]
theorem ceS_7 {k : Nat} (hk : k < 11) (v : Nat → Int32) : ∀ sa, cell E (adx ad sa) (20 * k + 7) v = .inl (eC E 0, 24, .inl v) := by
  intro sa
  have h1 : 20 * k + 7 < 220 := by omega
  have h2 : (20 * k + 7) % 20 = 7 := by omega
  have h3 : 20 * k + 7 - 7 = 20 * k := by omega
  unfold cell
  rw [if_pos h1, h2, h3]
  simp (disch := omega) [stCell, rowLen, adx_lo]
theorem ceS_8 {k : Nat} (hk : k < 11) (v : Nat → Int32) : ∀ sa, cell E (adx ad sa) (20 * k + 8) v = .inr (8, [.ref (ad (20 * k + 8 + 1))]) := by
  intro sa
  have h1 : 20 * k + 8 < 220 := by omega
  have h2 : (20 * k + 8) % 20 = 8 := by omega
  have h3 : 20 * k + 8 - 8 = 20 * k := by omega
  unfold cell
  rw [if_pos h1, h2, h3]
  simp (disch := omega) [stCell, rowLen, adx_lo]
theorem ceS_9 {k : Nat} (hk : k < 11) (v : Nat → Int32) : ∀ sa, cell E (adx ad sa) (20 * k + 9) v = .inl (eC E 0, 24, .inl v) := by
  intro sa
  have h1 : 20 * k + 9 < 220 := by omega
  have h2 : (20 * k + 9) % 20 = 9 := by omega
  have h3 : 20 * k + 9 - 9 = 20 * k := by omega
  unfold cell
  rw [if_pos h1, h2, h3]
  simp (disch := omega) [stCell, rowLen, adx_lo]
theorem ceS_10 {k : Nat} (hk : k < 11) (v : Nat → Int32) : ∀ sa, cell E (adx ad sa) (20 * k + 10) v = .inr (8, [.ref (ad (20 * k + 10 + 1))]) := by
  intro sa
  have h1 : 20 * k + 10 < 220 := by omega
  have h2 : (20 * k + 10) % 20 = 10 := by omega
  have h3 : 20 * k + 10 - 10 = 20 * k := by omega
  unfold cell
  rw [if_pos h1, h2, h3]
  simp (disch := omega) [stCell, rowLen, adx_lo]
theorem ceS_11 {k : Nat} (hk : k < 11) (v : Nat → Int32) : ∀ sa, cell E (adx ad sa) (20 * k + 11) v = .inl (eC E 0, 24, .inl v) := by
  intro sa
  have h1 : 20 * k + 11 < 220 := by omega
  have h2 : (20 * k + 11) % 20 = 11 := by omega
  have h3 : 20 * k + 11 - 11 = 20 * k := by omega
  unfold cell
  rw [if_pos h1, h2, h3]
  simp (disch := omega) [stCell, rowLen, adx_lo]
theorem ceS_12 {k : Nat} (hk : k < 11) (v : Nat → Int32) : ∀ sa, cell E (adx ad sa) (20 * k + 12) v = .inr (8, [.ref (ad (20 * k + 12 + 1))]) := by
  intro sa
  have h1 : 20 * k + 12 < 220 := by omega
  have h2 : (20 * k + 12) % 20 = 12 := by omega
  have h3 : 20 * k + 12 - 12 = 20 * k := by omega
  unfold cell
  rw [if_pos h1, h2, h3]
  simp (disch := omega) [stCell, rowLen, adx_lo]
theorem ceS_13 {k : Nat} (hk : k < 11) (v : Nat → Int32) : ∀ sa, cell E (adx ad sa) (20 * k + 13) v = .inl (eC E 0, 192, .inl v) := by
  intro sa
  have h1 : 20 * k + 13 < 220 := by omega
  have h2 : (20 * k + 13) % 20 = 13 := by omega
  have h3 : 20 * k + 13 - 13 = 20 * k := by omega
  unfold cell
  rw [if_pos h1, h2, h3]
  simp (disch := omega) [stCell, rowLen, adx_lo]
theorem ceS_14 {k : Nat} (hk : k < 11) (v : Nat → Int32) : ∀ sa, cell E (adx ad sa) (20 * k + 14) v = .inr (8, [.ref (ad (20 * k + 14 + 1))]) := by
  intro sa
  have h1 : 20 * k + 14 < 220 := by omega
  have h2 : (20 * k + 14) % 20 = 14 := by omega
  have h3 : 20 * k + 14 - 14 = 20 * k := by omega
  unfold cell
  rw [if_pos h1, h2, h3]
  simp (disch := omega) [stCell, rowLen, adx_lo]
theorem ceS_15 {k : Nat} (hk : k < 11) (v : Nat → Int32) : ∀ sa, cell E (adx ad sa) (20 * k + 15) v = .inl (eC E 0, 5, .inl v) := by
  intro sa
  have h1 : 20 * k + 15 < 220 := by omega
  have h2 : (20 * k + 15) % 20 = 15 := by omega
  have h3 : 20 * k + 15 - 15 = 20 * k := by omega
  unfold cell
  rw [if_pos h1, h2, h3]
  simp (disch := omega) [stCell, rowLen, adx_lo]
theorem ceS_16 {k : Nat} (hk : k < 11) (v : Nat → Int32) : ∀ sa, cell E (adx ad sa) (20 * k + 16) v = .inr (8, [.ref (ad (20 * k + 16 + 1))]) := by
  intro sa
  have h1 : 20 * k + 16 < 220 := by omega
  have h2 : (20 * k + 16) % 20 = 16 := by omega
  have h3 : 20 * k + 16 - 16 = 20 * k := by omega
  unfold cell
  rw [if_pos h1, h2, h3]
  simp (disch := omega) [stCell, rowLen, adx_lo]
theorem ceS_17 {k : Nat} (hk : k < 11) (v : Nat → Int32) : ∀ sa, cell E (adx ad sa) (20 * k + 17) v = .inl (eC E 0, 40, .inl v) := by
  intro sa
  have h1 : 20 * k + 17 < 220 := by omega
  have h2 : (20 * k + 17) % 20 = 17 := by omega
  have h3 : 20 * k + 17 - 17 = 20 * k := by omega
  unfold cell
  rw [if_pos h1, h2, h3]
  simp (disch := omega) [stCell, rowLen, adx_lo]
theorem ceS_18 {k : Nat} (hk : k < 11) (v : Nat → Int32) : ∀ sa, cell E (adx ad sa) (20 * k + 18) v = .inr (8, [.ref (ad (20 * k + 18 + 1))]) := by
  intro sa
  have h1 : 20 * k + 18 < 220 := by omega
  have h2 : (20 * k + 18) % 20 = 18 := by omega
  have h3 : 20 * k + 18 - 18 = 20 * k := by omega
  unfold cell
  rw [if_pos h1, h2, h3]
  simp (disch := omega) [stCell, rowLen, adx_lo]
theorem ceS_19 {k : Nat} (hk : k < 11) (v : Nat → Int32) : ∀ sa, cell E (adx ad sa) (20 * k + 19) v = .inl (eC E 0, 26, .inl v) := by
  intro sa
  have h1 : 20 * k + 19 < 220 := by omega
  have h2 : (20 * k + 19) % 20 = 19 := by omega
  have h3 : 20 * k + 19 - 19 = 20 * k := by omega
  unfold cell
  rw [if_pos h1, h2, h3]
  simp (disch := omega) [stCell, rowLen, adx_lo]
theorem rowS_2 {k : Nat} (hk : k < 11) : RowAt E ad (20 * k + 2) 24 := ⟨⟨by omega, by omega⟩, by decide, fun sa v => (ceS_2 hk v sa).trans rfl, fun sa v => (ceS_3 hk v sa).trans rfl⟩
theorem rowS_4 {k : Nat} (hk : k < 11) : RowAt E ad (20 * k + 4) 24 := ⟨⟨by omega, by omega⟩, by decide, fun sa v => (ceS_4 hk v sa).trans rfl, fun sa v => (ceS_5 hk v sa).trans rfl⟩
theorem rowS_6 {k : Nat} (hk : k < 11) : RowAt E ad (20 * k + 6) 24 := ⟨⟨by omega, by omega⟩, by decide, fun sa v => (ceS_6 hk v sa).trans rfl, fun sa v => (ceS_7 hk v sa).trans rfl⟩
theorem rowS_8 {k : Nat} (hk : k < 11) : RowAt E ad (20 * k + 8) 24 := ⟨⟨by omega, by omega⟩, by decide, fun sa v => (ceS_8 hk v sa).trans rfl, fun sa v => (ceS_9 hk v sa).trans rfl⟩
theorem rowS_10 {k : Nat} (hk : k < 11) : RowAt E ad (20 * k + 10) 24 := ⟨⟨by omega, by omega⟩, by decide, fun sa v => (ceS_10 hk v sa).trans rfl, fun sa v => (ceS_11 hk v sa).trans rfl⟩
theorem rowS_12 {k : Nat} (hk : k < 11) : RowAt E ad (20 * k + 12) 192 := ⟨⟨by omega, by omega⟩, by decide, fun sa v => (ceS_12 hk v sa).trans rfl, fun sa v => (ceS_13 hk v sa).trans rfl⟩
theorem rowS_14 {k : Nat} (hk : k < 11) : RowAt E ad (20 * k + 14) 5 := ⟨⟨by omega, by omega⟩, by decide, fun sa v => (ceS_14 hk v sa).trans rfl, fun sa v => (ceS_15 hk v sa).trans rfl⟩
theorem rowS_16 {k : Nat} (hk : k < 11) : RowAt E ad (20 * k + 16) 40 := ⟨⟨by omega, by omega⟩, by decide, fun sa v => (ceS_16 hk v sa).trans rfl, fun sa v => (ceS_17 hk v sa).trans rfl⟩
theorem rowS_18 {k : Nat} (hk : k < 11) : RowAt E ad (20 * k + 18) 26 := ⟨⟨by omega, by omega⟩, by decide, fun sa v => (ceS_18 hk v sa).trans rfl, fun sa v => (ceS_19 hk v sa).trans rfl⟩
theorem g_S_revisions {k : Nat} (hk : k < 11) (hC : Cx p s m args c meth E ow b n ret) (hI : In E ad V s H locs) (hl : Cond.fieldLink ow index "LetterRepository$Store" (TX8 0).2.1 (TX8 0).2.2.1 ∈ TB) (hdg : decode b pc = .ok (.getfield index, 3)) (kk : W p l e R s m args below meth c H locs cells slots Q (F0 m (pc + 3) ls (.ref (ad (20 * k + 1)) :: rest))) : W p l e R s m args below meth c H locs cells slots Q (F0 m pc ls (.ref (ad (20 * k)) :: rest)) :=
  r_get hC hI (T := TX8) (by omega) (ceS_0 hk _) rfl in_X8 0 (by decide) hl rfl rfl hdg kk
theorem gN_S_revisions {k : Nat} (hk : k < 11) {host : String} (hC : Cx p s m args c meth E ow b n ret) (hI : In E ad V s H locs) (hl : Cond.fieldLinkNest ow index "LetterRepository$Store" (TX8 0).2.1 (TX8 0).2.2.1 host ∈ NB) (hdg : decode b pc = .ok (.getfield index, 3)) (kk : W p l e R s m args below meth c H locs cells slots Q (F0 m (pc + 3) ls (.ref (ad (20 * k + 1)) :: rest))) : W p l e R s m args below meth c H locs cells slots Q (F0 m pc ls (.ref (ad (20 * k)) :: rest)) :=
  r_getN hC hI (T := TX8) (by omega) (ceS_0 hk _) rfl in_X8 0 (by decide) hl rfl rfl hdg kk
theorem g_S_heads {k : Nat} (hk : k < 11) (hC : Cx p s m args c meth E ow b n ret) (hI : In E ad V s H locs) (hl : Cond.fieldLink ow index "LetterRepository$Store" (TX8 1).2.1 (TX8 1).2.2.1 ∈ TB) (hdg : decode b pc = .ok (.getfield index, 3)) (kk : W p l e R s m args below meth c H locs cells slots Q (F0 m (pc + 3) ls (.ref (ad (20 * k + 14)) :: rest))) : W p l e R s m args below meth c H locs cells slots Q (F0 m pc ls (.ref (ad (20 * k)) :: rest)) :=
  r_get hC hI (T := TX8) (by omega) (ceS_0 hk _) rfl in_X8 1 (by decide) hl rfl rfl hdg kk
theorem gN_S_heads {k : Nat} (hk : k < 11) {host : String} (hC : Cx p s m args c meth E ow b n ret) (hI : In E ad V s H locs) (hl : Cond.fieldLinkNest ow index "LetterRepository$Store" (TX8 1).2.1 (TX8 1).2.2.1 host ∈ NB) (hdg : decode b pc = .ok (.getfield index, 3)) (kk : W p l e R s m args below meth c H locs cells slots Q (F0 m (pc + 3) ls (.ref (ad (20 * k + 14)) :: rest))) : W p l e R s m args below meth c H locs cells slots Q (F0 m pc ls (.ref (ad (20 * k)) :: rest)) :=
  r_getN hC hI (T := TX8) (by omega) (ceS_0 hk _) rfl in_X8 1 (by decide) hl rfl rfl hdg kk
theorem g_S_working {k : Nat} (hk : k < 11) (hC : Cx p s m args c meth E ow b n ret) (hI : In E ad V s H locs) (hl : Cond.fieldLink ow index "LetterRepository$Store" (TX8 2).2.1 (TX8 2).2.2.1 ∈ TB) (hdg : decode b pc = .ok (.getfield index, 3)) (kk : W p l e R s m args below meth c H locs cells slots Q (F0 m (pc + 3) ls (.ref (ad (20 * k + 16)) :: rest))) : W p l e R s m args below meth c H locs cells slots Q (F0 m pc ls (.ref (ad (20 * k)) :: rest)) :=
  r_get hC hI (T := TX8) (by omega) (ceS_0 hk _) rfl in_X8 2 (by decide) hl rfl rfl hdg kk
theorem gN_S_working {k : Nat} (hk : k < 11) {host : String} (hC : Cx p s m args c meth E ow b n ret) (hI : In E ad V s H locs) (hl : Cond.fieldLinkNest ow index "LetterRepository$Store" (TX8 2).2.1 (TX8 2).2.2.1 host ∈ NB) (hdg : decode b pc = .ok (.getfield index, 3)) (kk : W p l e R s m args below meth c H locs cells slots Q (F0 m (pc + 3) ls (.ref (ad (20 * k + 16)) :: rest))) : W p l e R s m args below meth c H locs cells slots Q (F0 m pc ls (.ref (ad (20 * k)) :: rest)) :=
  r_getN hC hI (T := TX8) (by omega) (ceS_0 hk _) rfl in_X8 2 (by decide) hl rfl rfl hdg kk
theorem g_S_tags {k : Nat} (hk : k < 11) (hC : Cx p s m args c meth E ow b n ret) (hI : In E ad V s H locs) (hl : Cond.fieldLink ow index "LetterRepository$Store" (TX8 3).2.1 (TX8 3).2.2.1 ∈ TB) (hdg : decode b pc = .ok (.getfield index, 3)) (kk : W p l e R s m args below meth c H locs cells slots Q (F0 m (pc + 3) ls (.ref (ad (20 * k + 18)) :: rest))) : W p l e R s m args below meth c H locs cells slots Q (F0 m pc ls (.ref (ad (20 * k)) :: rest)) :=
  r_get hC hI (T := TX8) (by omega) (ceS_0 hk _) rfl in_X8 3 (by decide) hl rfl rfl hdg kk
theorem gN_S_tags {k : Nat} (hk : k < 11) {host : String} (hC : Cx p s m args c meth E ow b n ret) (hI : In E ad V s H locs) (hl : Cond.fieldLinkNest ow index "LetterRepository$Store" (TX8 3).2.1 (TX8 3).2.2.1 host ∈ NB) (hdg : decode b pc = .ok (.getfield index, 3)) (kk : W p l e R s m args below meth c H locs cells slots Q (F0 m (pc + 3) ls (.ref (ad (20 * k + 18)) :: rest))) : W p l e R s m args below meth c H locs cells slots Q (F0 m pc ls (.ref (ad (20 * k)) :: rest)) :=
  r_getN hC hI (T := TX8) (by omega) (ceS_0 hk _) rfl in_X8 3 (by decide) hl rfl rfl hdg kk
theorem g_S_branchCount {k : Nat} (hk : k < 11) (hC : Cx p s m args c meth E ow b n ret) (hI : In E ad V s H locs) (hl : Cond.fieldLink ow index "LetterRepository$Store" (TX8 4).2.1 (TX8 4).2.2.1 ∈ TB) (hdg : decode b pc = .ok (.getfield index, 3)) (kk : W p l e R s m args below meth c H locs cells slots Q (F0 m (pc + 3) ls (.int (V (20 * k) 0) :: rest))) : W p l e R s m args below meth c H locs cells slots Q (F0 m pc ls (.ref (ad (20 * k)) :: rest)) :=
  r_get hC hI (T := TX8) (by omega) (ceS_0 hk _) rfl in_X8 4 (by decide) hl rfl rfl hdg kk
theorem p_S_branchCount {k : Nat} (hk : k < 11) {x : Int32} (hC : Cx p s m args c meth E ow b n ret) (hI : In E ad V s H locs) (he : V1 = stv V (20 * k) 0 x) (hl : Cond.fieldLink ow index "LetterRepository$Store" (TX8 4).2.1 (TX8 4).2.2.1 ∈ TB) (hdg : decode b pc = .ok (.putfield index, 3)) (kk : ∀ (H1 : Heap) (locs1 : List Loc), In E ad V1 s H1 locs1 → W p l e R s m args below meth c H1 locs1 cells slots Q (F0 m (pc + 3) ls rest)) : W p l e R s m args below meth c H locs cells slots Q (F0 m pc ls (.int x :: .ref (ad (20 * k)) :: rest)) := by
  subst he
  exact r_put (v := upd (V (20 * k)) 0 x) (ty := .int) hC hI tyX8 tyX8_ok nmX8 (by omega) (ceS_0 hk _) rfl in_X8 4 (by decide) hl rfl rfl (by decide +kernel) rfl rfl (Nat.le_of_ble_eq_true rfl) (fun sa => (ceS_0 hk _ sa).trans rfl) hdg kk
theorem gN_S_branchCount {k : Nat} (hk : k < 11) {host : String} (hC : Cx p s m args c meth E ow b n ret) (hI : In E ad V s H locs) (hl : Cond.fieldLinkNest ow index "LetterRepository$Store" (TX8 4).2.1 (TX8 4).2.2.1 host ∈ NB) (hdg : decode b pc = .ok (.getfield index, 3)) (kk : W p l e R s m args below meth c H locs cells slots Q (F0 m (pc + 3) ls (.int (V (20 * k) 0) :: rest))) : W p l e R s m args below meth c H locs cells slots Q (F0 m pc ls (.ref (ad (20 * k)) :: rest)) :=
  r_getN hC hI (T := TX8) (by omega) (ceS_0 hk _) rfl in_X8 4 (by decide) hl rfl rfl hdg kk
theorem pN_S_branchCount {k : Nat} (hk : k < 11) {host : String} {x : Int32} (hC : Cx p s m args c meth E ow b n ret) (hI : In E ad V s H locs) (he : V1 = stv V (20 * k) 0 x) (hl : Cond.fieldLinkNest ow index "LetterRepository$Store" (TX8 4).2.1 (TX8 4).2.2.1 host ∈ NB) (hdg : decode b pc = .ok (.putfield index, 3)) (kk : ∀ (H1 : Heap) (locs1 : List Loc), In E ad V1 s H1 locs1 → W p l e R s m args below meth c H1 locs1 cells slots Q (F0 m (pc + 3) ls rest)) : W p l e R s m args below meth c H locs cells slots Q (F0 m pc ls (.int x :: .ref (ad (20 * k)) :: rest)) := by
  subst he
  exact r_putN (v := upd (V (20 * k)) 0 x) (ty := .int) hC hI tyX8 tyX8_ok nmX8 (by omega) (ceS_0 hk _) rfl in_X8 4 (by decide) hl rfl rfl (by decide +kernel) rfl rfl (Nat.le_of_ble_eq_true rfl) (fun sa => (ceS_0 hk _ sa).trans rfl) hdg kk
theorem g_S1_firstParents {k : Nat} (hk : k < 11) (hC : Cx p s m args c meth E ow b n ret) (hI : In E ad V s H locs) (hl : Cond.fieldLink ow index "LetterRepository$Revisions" (TX6 0).2.1 (TX6 0).2.2.1 ∈ TB) (hdg : decode b pc = .ok (.getfield index, 3)) (kk : W p l e R s m args below meth c H locs cells slots Q (F0 m (pc + 3) ls (.ref (ad (20 * k + 2)) :: rest))) : W p l e R s m args below meth c H locs cells slots Q (F0 m pc ls (.ref (ad (20 * k + 1)) :: rest)) :=
  r_get hC hI (T := TX6) (by omega) (ceS_1 hk _) rfl in_X6 0 (by decide) hl rfl rfl hdg kk
theorem gN_S1_firstParents {k : Nat} (hk : k < 11) {host : String} (hC : Cx p s m args c meth E ow b n ret) (hI : In E ad V s H locs) (hl : Cond.fieldLinkNest ow index "LetterRepository$Revisions" (TX6 0).2.1 (TX6 0).2.2.1 host ∈ NB) (hdg : decode b pc = .ok (.getfield index, 3)) (kk : W p l e R s m args below meth c H locs cells slots Q (F0 m (pc + 3) ls (.ref (ad (20 * k + 2)) :: rest))) : W p l e R s m args below meth c H locs cells slots Q (F0 m pc ls (.ref (ad (20 * k + 1)) :: rest)) :=
  r_getN hC hI (T := TX6) (by omega) (ceS_1 hk _) rfl in_X6 0 (by decide) hl rfl rfl hdg kk
theorem g_S1_secondParents {k : Nat} (hk : k < 11) (hC : Cx p s m args c meth E ow b n ret) (hI : In E ad V s H locs) (hl : Cond.fieldLink ow index "LetterRepository$Revisions" (TX6 1).2.1 (TX6 1).2.2.1 ∈ TB) (hdg : decode b pc = .ok (.getfield index, 3)) (kk : W p l e R s m args below meth c H locs cells slots Q (F0 m (pc + 3) ls (.ref (ad (20 * k + 4)) :: rest))) : W p l e R s m args below meth c H locs cells slots Q (F0 m pc ls (.ref (ad (20 * k + 1)) :: rest)) :=
  r_get hC hI (T := TX6) (by omega) (ceS_1 hk _) rfl in_X6 1 (by decide) hl rfl rfl hdg kk
theorem gN_S1_secondParents {k : Nat} (hk : k < 11) {host : String} (hC : Cx p s m args c meth E ow b n ret) (hI : In E ad V s H locs) (hl : Cond.fieldLinkNest ow index "LetterRepository$Revisions" (TX6 1).2.1 (TX6 1).2.2.1 host ∈ NB) (hdg : decode b pc = .ok (.getfield index, 3)) (kk : W p l e R s m args below meth c H locs cells slots Q (F0 m (pc + 3) ls (.ref (ad (20 * k + 4)) :: rest))) : W p l e R s m args below meth c H locs cells slots Q (F0 m pc ls (.ref (ad (20 * k + 1)) :: rest)) :=
  r_getN hC hI (T := TX6) (by omega) (ceS_1 hk _) rfl in_X6 1 (by decide) hl rfl rfl hdg kk
theorem g_S1_authors {k : Nat} (hk : k < 11) (hC : Cx p s m args c meth E ow b n ret) (hI : In E ad V s H locs) (hl : Cond.fieldLink ow index "LetterRepository$Revisions" (TX6 2).2.1 (TX6 2).2.2.1 ∈ TB) (hdg : decode b pc = .ok (.getfield index, 3)) (kk : W p l e R s m args below meth c H locs cells slots Q (F0 m (pc + 3) ls (.ref (ad (20 * k + 6)) :: rest))) : W p l e R s m args below meth c H locs cells slots Q (F0 m pc ls (.ref (ad (20 * k + 1)) :: rest)) :=
  r_get hC hI (T := TX6) (by omega) (ceS_1 hk _) rfl in_X6 2 (by decide) hl rfl rfl hdg kk
theorem gN_S1_authors {k : Nat} (hk : k < 11) {host : String} (hC : Cx p s m args c meth E ow b n ret) (hI : In E ad V s H locs) (hl : Cond.fieldLinkNest ow index "LetterRepository$Revisions" (TX6 2).2.1 (TX6 2).2.2.1 host ∈ NB) (hdg : decode b pc = .ok (.getfield index, 3)) (kk : W p l e R s m args below meth c H locs cells slots Q (F0 m (pc + 3) ls (.ref (ad (20 * k + 6)) :: rest))) : W p l e R s m args below meth c H locs cells slots Q (F0 m pc ls (.ref (ad (20 * k + 1)) :: rest)) :=
  r_getN hC hI (T := TX6) (by omega) (ceS_1 hk _) rfl in_X6 2 (by decide) hl rfl rfl hdg kk
theorem g_S1_generations {k : Nat} (hk : k < 11) (hC : Cx p s m args c meth E ow b n ret) (hI : In E ad V s H locs) (hl : Cond.fieldLink ow index "LetterRepository$Revisions" (TX6 3).2.1 (TX6 3).2.2.1 ∈ TB) (hdg : decode b pc = .ok (.getfield index, 3)) (kk : W p l e R s m args below meth c H locs cells slots Q (F0 m (pc + 3) ls (.ref (ad (20 * k + 8)) :: rest))) : W p l e R s m args below meth c H locs cells slots Q (F0 m pc ls (.ref (ad (20 * k + 1)) :: rest)) :=
  r_get hC hI (T := TX6) (by omega) (ceS_1 hk _) rfl in_X6 3 (by decide) hl rfl rfl hdg kk
theorem gN_S1_generations {k : Nat} (hk : k < 11) {host : String} (hC : Cx p s m args c meth E ow b n ret) (hI : In E ad V s H locs) (hl : Cond.fieldLinkNest ow index "LetterRepository$Revisions" (TX6 3).2.1 (TX6 3).2.2.1 host ∈ NB) (hdg : decode b pc = .ok (.getfield index, 3)) (kk : W p l e R s m args below meth c H locs cells slots Q (F0 m (pc + 3) ls (.ref (ad (20 * k + 8)) :: rest))) : W p l e R s m args below meth c H locs cells slots Q (F0 m pc ls (.ref (ad (20 * k + 1)) :: rest)) :=
  r_getN hC hI (T := TX6) (by omega) (ceS_1 hk _) rfl in_X6 3 (by decide) hl rfl rfl hdg kk
theorem g_S1_ancestorSets {k : Nat} (hk : k < 11) (hC : Cx p s m args c meth E ow b n ret) (hI : In E ad V s H locs) (hl : Cond.fieldLink ow index "LetterRepository$Revisions" (TX6 4).2.1 (TX6 4).2.2.1 ∈ TB) (hdg : decode b pc = .ok (.getfield index, 3)) (kk : W p l e R s m args below meth c H locs cells slots Q (F0 m (pc + 3) ls (.ref (ad (20 * k + 10)) :: rest))) : W p l e R s m args below meth c H locs cells slots Q (F0 m pc ls (.ref (ad (20 * k + 1)) :: rest)) :=
  r_get hC hI (T := TX6) (by omega) (ceS_1 hk _) rfl in_X6 4 (by decide) hl rfl rfl hdg kk
theorem gN_S1_ancestorSets {k : Nat} (hk : k < 11) {host : String} (hC : Cx p s m args c meth E ow b n ret) (hI : In E ad V s H locs) (hl : Cond.fieldLinkNest ow index "LetterRepository$Revisions" (TX6 4).2.1 (TX6 4).2.2.1 host ∈ NB) (hdg : decode b pc = .ok (.getfield index, 3)) (kk : W p l e R s m args below meth c H locs cells slots Q (F0 m (pc + 3) ls (.ref (ad (20 * k + 10)) :: rest))) : W p l e R s m args below meth c H locs cells slots Q (F0 m pc ls (.ref (ad (20 * k + 1)) :: rest)) :=
  r_getN hC hI (T := TX6) (by omega) (ceS_1 hk _) rfl in_X6 4 (by decide) hl rfl rfl hdg kk
theorem g_S1_letters {k : Nat} (hk : k < 11) (hC : Cx p s m args c meth E ow b n ret) (hI : In E ad V s H locs) (hl : Cond.fieldLink ow index "LetterRepository$Revisions" (TX6 5).2.1 (TX6 5).2.2.1 ∈ TB) (hdg : decode b pc = .ok (.getfield index, 3)) (kk : W p l e R s m args below meth c H locs cells slots Q (F0 m (pc + 3) ls (.ref (ad (20 * k + 12)) :: rest))) : W p l e R s m args below meth c H locs cells slots Q (F0 m pc ls (.ref (ad (20 * k + 1)) :: rest)) :=
  r_get hC hI (T := TX6) (by omega) (ceS_1 hk _) rfl in_X6 5 (by decide) hl rfl rfl hdg kk
theorem gN_S1_letters {k : Nat} (hk : k < 11) {host : String} (hC : Cx p s m args c meth E ow b n ret) (hI : In E ad V s H locs) (hl : Cond.fieldLinkNest ow index "LetterRepository$Revisions" (TX6 5).2.1 (TX6 5).2.2.1 host ∈ NB) (hdg : decode b pc = .ok (.getfield index, 3)) (kk : W p l e R s m args below meth c H locs cells slots Q (F0 m (pc + 3) ls (.ref (ad (20 * k + 12)) :: rest))) : W p l e R s m args below meth c H locs cells slots Q (F0 m pc ls (.ref (ad (20 * k + 1)) :: rest)) :=
  r_getN hC hI (T := TX6) (by omega) (ceS_1 hk _) rfl in_X6 5 (by decide) hl rfl rfl hdg kk
theorem g_S1_archived {k : Nat} (hk : k < 11) (hC : Cx p s m args c meth E ow b n ret) (hI : In E ad V s H locs) (hl : Cond.fieldLink ow index "LetterRepository$Revisions" (TX6 6).2.1 (TX6 6).2.2.1 ∈ TB) (hdg : decode b pc = .ok (.getfield index, 3)) (kk : W p l e R s m args below meth c H locs cells slots Q (F0 m (pc + 3) ls (.int (V (20 * k + 1) 0) :: rest))) : W p l e R s m args below meth c H locs cells slots Q (F0 m pc ls (.ref (ad (20 * k + 1)) :: rest)) :=
  r_get hC hI (T := TX6) (by omega) (ceS_1 hk _) rfl in_X6 6 (by decide) hl rfl rfl hdg kk
theorem p_S1_archived {k : Nat} (hk : k < 11) {x : Int32} (hC : Cx p s m args c meth E ow b n ret) (hI : In E ad V s H locs) (he : V1 = stv V (20 * k + 1) 0 x) (hl : Cond.fieldLink ow index "LetterRepository$Revisions" (TX6 6).2.1 (TX6 6).2.2.1 ∈ TB) (hdg : decode b pc = .ok (.putfield index, 3)) (kk : ∀ (H1 : Heap) (locs1 : List Loc), In E ad V1 s H1 locs1 → W p l e R s m args below meth c H1 locs1 cells slots Q (F0 m (pc + 3) ls rest)) : W p l e R s m args below meth c H locs cells slots Q (F0 m pc ls (.int x :: .ref (ad (20 * k + 1)) :: rest)) := by
  subst he
  exact r_put (v := upd (V (20 * k + 1)) 0 x) (ty := .int) hC hI tyX6 tyX6_ok nmX6 (by omega) (ceS_1 hk _) rfl in_X6 6 (by decide) hl rfl rfl (by decide +kernel) rfl rfl (Nat.le_of_ble_eq_true rfl) (fun sa => (ceS_1 hk _ sa).trans rfl) hdg kk
theorem gN_S1_archived {k : Nat} (hk : k < 11) {host : String} (hC : Cx p s m args c meth E ow b n ret) (hI : In E ad V s H locs) (hl : Cond.fieldLinkNest ow index "LetterRepository$Revisions" (TX6 6).2.1 (TX6 6).2.2.1 host ∈ NB) (hdg : decode b pc = .ok (.getfield index, 3)) (kk : W p l e R s m args below meth c H locs cells slots Q (F0 m (pc + 3) ls (.int (V (20 * k + 1) 0) :: rest))) : W p l e R s m args below meth c H locs cells slots Q (F0 m pc ls (.ref (ad (20 * k + 1)) :: rest)) :=
  r_getN hC hI (T := TX6) (by omega) (ceS_1 hk _) rfl in_X6 6 (by decide) hl rfl rfl hdg kk
theorem pN_S1_archived {k : Nat} (hk : k < 11) {host : String} {x : Int32} (hC : Cx p s m args c meth E ow b n ret) (hI : In E ad V s H locs) (he : V1 = stv V (20 * k + 1) 0 x) (hl : Cond.fieldLinkNest ow index "LetterRepository$Revisions" (TX6 6).2.1 (TX6 6).2.2.1 host ∈ NB) (hdg : decode b pc = .ok (.putfield index, 3)) (kk : ∀ (H1 : Heap) (locs1 : List Loc), In E ad V1 s H1 locs1 → W p l e R s m args below meth c H1 locs1 cells slots Q (F0 m (pc + 3) ls rest)) : W p l e R s m args below meth c H locs cells slots Q (F0 m pc ls (.int x :: .ref (ad (20 * k + 1)) :: rest)) := by
  subst he
  exact r_putN (v := upd (V (20 * k + 1)) 0 x) (ty := .int) hC hI tyX6 tyX6_ok nmX6 (by omega) (ceS_1 hk _) rfl in_X6 6 (by decide) hl rfl rfl (by decide +kernel) rfl rfl (Nat.le_of_ble_eq_true rfl) (fun sa => (ceS_1 hk _ sa).trans rfl) hdg kk
theorem g_S1_count {k : Nat} (hk : k < 11) (hC : Cx p s m args c meth E ow b n ret) (hI : In E ad V s H locs) (hl : Cond.fieldLink ow index "LetterRepository$Revisions" (TX6 7).2.1 (TX6 7).2.2.1 ∈ TB) (hdg : decode b pc = .ok (.getfield index, 3)) (kk : W p l e R s m args below meth c H locs cells slots Q (F0 m (pc + 3) ls (.int (V (20 * k + 1) 1) :: rest))) : W p l e R s m args below meth c H locs cells slots Q (F0 m pc ls (.ref (ad (20 * k + 1)) :: rest)) :=
  r_get hC hI (T := TX6) (by omega) (ceS_1 hk _) rfl in_X6 7 (by decide) hl rfl rfl hdg kk
theorem p_S1_count {k : Nat} (hk : k < 11) {x : Int32} (hC : Cx p s m args c meth E ow b n ret) (hI : In E ad V s H locs) (he : V1 = stv V (20 * k + 1) 1 x) (hl : Cond.fieldLink ow index "LetterRepository$Revisions" (TX6 7).2.1 (TX6 7).2.2.1 ∈ TB) (hdg : decode b pc = .ok (.putfield index, 3)) (kk : ∀ (H1 : Heap) (locs1 : List Loc), In E ad V1 s H1 locs1 → W p l e R s m args below meth c H1 locs1 cells slots Q (F0 m (pc + 3) ls rest)) : W p l e R s m args below meth c H locs cells slots Q (F0 m pc ls (.int x :: .ref (ad (20 * k + 1)) :: rest)) := by
  subst he
  exact r_put (v := upd (V (20 * k + 1)) 1 x) (ty := .int) hC hI tyX6 tyX6_ok nmX6 (by omega) (ceS_1 hk _) rfl in_X6 7 (by decide) hl rfl rfl (by decide +kernel) rfl rfl (Nat.le_of_ble_eq_true rfl) (fun sa => (ceS_1 hk _ sa).trans rfl) hdg kk
theorem gN_S1_count {k : Nat} (hk : k < 11) {host : String} (hC : Cx p s m args c meth E ow b n ret) (hI : In E ad V s H locs) (hl : Cond.fieldLinkNest ow index "LetterRepository$Revisions" (TX6 7).2.1 (TX6 7).2.2.1 host ∈ NB) (hdg : decode b pc = .ok (.getfield index, 3)) (kk : W p l e R s m args below meth c H locs cells slots Q (F0 m (pc + 3) ls (.int (V (20 * k + 1) 1) :: rest))) : W p l e R s m args below meth c H locs cells slots Q (F0 m pc ls (.ref (ad (20 * k + 1)) :: rest)) :=
  r_getN hC hI (T := TX6) (by omega) (ceS_1 hk _) rfl in_X6 7 (by decide) hl rfl rfl hdg kk
theorem pN_S1_count {k : Nat} (hk : k < 11) {host : String} {x : Int32} (hC : Cx p s m args c meth E ow b n ret) (hI : In E ad V s H locs) (he : V1 = stv V (20 * k + 1) 1 x) (hl : Cond.fieldLinkNest ow index "LetterRepository$Revisions" (TX6 7).2.1 (TX6 7).2.2.1 host ∈ NB) (hdg : decode b pc = .ok (.putfield index, 3)) (kk : ∀ (H1 : Heap) (locs1 : List Loc), In E ad V1 s H1 locs1 → W p l e R s m args below meth c H1 locs1 cells slots Q (F0 m (pc + 3) ls rest)) : W p l e R s m args below meth c H locs cells slots Q (F0 m pc ls (.int x :: .ref (ad (20 * k + 1)) :: rest)) := by
  subst he
  exact r_putN (v := upd (V (20 * k + 1)) 1 x) (ty := .int) hC hI tyX6 tyX6_ok nmX6 (by omega) (ceS_1 hk _) rfl in_X6 7 (by decide) hl rfl rfl (by decide +kernel) rfl rfl (Nat.le_of_ble_eq_true rfl) (fun sa => (ceS_1 hk _ sa).trans rfl) hdg kk
theorem ceC_0 {q : Nat} (hq : q < 8) (v : Nat → Int32) : ∀ sa, cell E (adx ad sa) (224 + 3 * q) v = .inr (4, [.ref (ad (224 + 3 * q + 1)), .ref (eK E (v 1).toNatClampNeg), .int (v 0)]) := by
  intro sa
  have h1 : ¬ 224 + 3 * q < 220 := by omega
  have h2 : 224 ≤ 224 + 3 * q ∧ 224 + 3 * q < 248 := by omega
  have h3 : (224 + 3 * q - 224) % 3 = 0 := by omega
  have h4 : 224 + 3 * q - 0 = 224 + 3 * q := by omega
  unfold cell
  rw [if_neg h1, if_pos h2, h3, h4]
  simp (disch := omega) [cmCell, adx_lo]
theorem ceC_1 {q : Nat} (hq : q < 8) (v : Nat → Int32) : ∀ sa, cell E (adx ad sa) (224 + 3 * q + 1) v = .inr (8, [.ref (ad (224 + 3 * q + 1 + 1))]) := by
  intro sa
  have h1 : ¬ 224 + 3 * q + 1 < 220 := by omega
  have h2 : 224 ≤ 224 + 3 * q + 1 ∧ 224 + 3 * q + 1 < 248 := by omega
  have h3 : (224 + 3 * q + 1 - 224) % 3 = 1 := by omega
  have h4 : 224 + 3 * q + 1 - 1 = 224 + 3 * q := by omega
  unfold cell
  rw [if_neg h1, if_pos h2, h3, h4]
  simp (disch := omega) [cmCell, adx_lo]
theorem ceC_2 {q : Nat} (hq : q < 8) (v : Nat → Int32) : ∀ sa, cell E (adx ad sa) (224 + 3 * q + 2) v = .inl (eC E 0, 3, .inl v) := by
  intro sa
  have h1 : ¬ 224 + 3 * q + 2 < 220 := by omega
  have h2 : 224 ≤ 224 + 3 * q + 2 ∧ 224 + 3 * q + 2 < 248 := by omega
  have h3 : (224 + 3 * q + 2 - 224) % 3 = 2 := by omega
  have h4 : 224 + 3 * q + 2 - 2 = 224 + 3 * q := by omega
  unfold cell
  rw [if_neg h1, if_pos h2, h3, h4]
  simp (disch := omega) [cmCell, adx_lo]
theorem rowC {q : Nat} (hq : q < 8) : RowAt E ad (224 + 3 * q + 1) 3 := ⟨⟨by omega, by omega⟩, by decide, fun sa v => ceC_1 hq v sa, fun sa v => (ceC_2 hq v sa).trans rfl⟩
theorem g_C_arguments {q : Nat} (hq : q < 8) (hC : Cx p s m args c meth E ow b n ret) (hI : In E ad V s H locs) (hl : Cond.fieldLink ow index "LetterRepository$Command" (TX1 0).2.1 (TX1 0).2.2.1 ∈ TB) (hdg : decode b pc = .ok (.getfield index, 3)) (kk : W p l e R s m args below meth c H locs cells slots Q (F0 m (pc + 3) ls (.ref (ad (224 + 3 * q + 1)) :: rest))) : W p l e R s m args below meth c H locs cells slots Q (F0 m pc ls (.ref (ad (224 + 3 * q)) :: rest)) :=
  r_get hC hI (T := TX1) (by omega) (ceC_0 hq _) rfl in_X1 0 (by decide) hl rfl rfl hdg kk
theorem gN_C_arguments {q : Nat} (hq : q < 8) {host : String} (hC : Cx p s m args c meth E ow b n ret) (hI : In E ad V s H locs) (hl : Cond.fieldLinkNest ow index "LetterRepository$Command" (TX1 0).2.1 (TX1 0).2.2.1 host ∈ NB) (hdg : decode b pc = .ok (.getfield index, 3)) (kk : W p l e R s m args below meth c H locs cells slots Q (F0 m (pc + 3) ls (.ref (ad (224 + 3 * q + 1)) :: rest))) : W p l e R s m args below meth c H locs cells slots Q (F0 m pc ls (.ref (ad (224 + 3 * q)) :: rest)) :=
  r_getN hC hI (T := TX1) (by omega) (ceC_0 hq _) rfl in_X1 0 (by decide) hl rfl rfl hdg kk
theorem g_C_kind {q : Nat} (hq : q < 8) (hC : Cx p s m args c meth E ow b n ret) (hI : In E ad V s H locs) (hl : Cond.fieldLink ow index "LetterRepository$Command" (TX1 1).2.1 (TX1 1).2.2.1 ∈ TB) (hdg : decode b pc = .ok (.getfield index, 3)) (kk : W p l e R s m args below meth c H locs cells slots Q (F0 m (pc + 3) ls (.ref (eK E (V (224 + 3 * q) 1).toNatClampNeg) :: rest))) : W p l e R s m args below meth c H locs cells slots Q (F0 m pc ls (.ref (ad (224 + 3 * q)) :: rest)) :=
  r_get hC hI (T := TX1) (by omega) (ceC_0 hq _) rfl in_X1 1 (by decide) hl rfl rfl hdg kk
theorem p_C_kind {q : Nat} (hq : q < 8) {z : Nat} (hC : Cx p s m args c meth E ow b n ret) (hI : In E ad V s H locs) (hz : z < 13) (he : V1 = stv V (224 + 3 * q) 1 (nI z)) (hl : Cond.fieldLink ow index "LetterRepository$Command" (TX1 1).2.1 (TX1 1).2.2.1 ∈ TB) (hdg : decode b pc = .ok (.putfield index, 3)) (kk : ∀ (H1 : Heap) (locs1 : List Loc), In E ad V1 s H1 locs1 → W p l e R s m args below meth c H1 locs1 cells slots Q (F0 m (pc + 3) ls rest)) : W p l e R s m args below meth c H locs cells slots Q (F0 m pc ls (.ref (eK E z) :: .ref (ad (224 + 3 * q)) :: rest)) := by
  subst he
  have hz2 : (nI z).toNatClampNeg = z := nI_clamp (by omega)
  refine r_put (v := upd (V (224 + 3 * q)) 1 (nI z)) (ty := .object "LetterRepository$Kind") hC hI tyX1 tyX1_ok nmX1 (by omega) (ceC_0 hq _) rfl in_X1 1 (by decide) hl rfl rfl (by decide +kernel) rfl rfl (Nat.le_of_ble_eq_true rfl) (fun sa => ?_) hdg kk
  rw [ceC_0 hq _ sa]
  simp [upd, hz2]
theorem gN_C_kind {q : Nat} (hq : q < 8) {host : String} (hC : Cx p s m args c meth E ow b n ret) (hI : In E ad V s H locs) (hl : Cond.fieldLinkNest ow index "LetterRepository$Command" (TX1 1).2.1 (TX1 1).2.2.1 host ∈ NB) (hdg : decode b pc = .ok (.getfield index, 3)) (kk : W p l e R s m args below meth c H locs cells slots Q (F0 m (pc + 3) ls (.ref (eK E (V (224 + 3 * q) 1).toNatClampNeg) :: rest))) : W p l e R s m args below meth c H locs cells slots Q (F0 m pc ls (.ref (ad (224 + 3 * q)) :: rest)) :=
  r_getN hC hI (T := TX1) (by omega) (ceC_0 hq _) rfl in_X1 1 (by decide) hl rfl rfl hdg kk
theorem pN_C_kind {q : Nat} (hq : q < 8) {host : String} {z : Nat} (hC : Cx p s m args c meth E ow b n ret) (hI : In E ad V s H locs) (hz : z < 13) (he : V1 = stv V (224 + 3 * q) 1 (nI z)) (hl : Cond.fieldLinkNest ow index "LetterRepository$Command" (TX1 1).2.1 (TX1 1).2.2.1 host ∈ NB) (hdg : decode b pc = .ok (.putfield index, 3)) (kk : ∀ (H1 : Heap) (locs1 : List Loc), In E ad V1 s H1 locs1 → W p l e R s m args below meth c H1 locs1 cells slots Q (F0 m (pc + 3) ls rest)) : W p l e R s m args below meth c H locs cells slots Q (F0 m pc ls (.ref (eK E z) :: .ref (ad (224 + 3 * q)) :: rest)) := by
  subst he
  have hz2 : (nI z).toNatClampNeg = z := nI_clamp (by omega)
  refine r_putN (v := upd (V (224 + 3 * q)) 1 (nI z)) (ty := .object "LetterRepository$Kind") hC hI tyX1 tyX1_ok nmX1 (by omega) (ceC_0 hq _) rfl in_X1 1 (by decide) hl rfl rfl (by decide +kernel) rfl rfl (Nat.le_of_ble_eq_true rfl) (fun sa => ?_) hdg kk
  rw [ceC_0 hq _ sa]
  simp [upd, hz2]
theorem g_C_size {q : Nat} (hq : q < 8) (hC : Cx p s m args c meth E ow b n ret) (hI : In E ad V s H locs) (hl : Cond.fieldLink ow index "LetterRepository$Command" (TX1 2).2.1 (TX1 2).2.2.1 ∈ TB) (hdg : decode b pc = .ok (.getfield index, 3)) (kk : W p l e R s m args below meth c H locs cells slots Q (F0 m (pc + 3) ls (.int (V (224 + 3 * q) 0) :: rest))) : W p l e R s m args below meth c H locs cells slots Q (F0 m pc ls (.ref (ad (224 + 3 * q)) :: rest)) :=
  r_get hC hI (T := TX1) (by omega) (ceC_0 hq _) rfl in_X1 2 (by decide) hl rfl rfl hdg kk
theorem p_C_size {q : Nat} (hq : q < 8) {x : Int32} (hC : Cx p s m args c meth E ow b n ret) (hI : In E ad V s H locs) (he : V1 = stv V (224 + 3 * q) 0 x) (hl : Cond.fieldLink ow index "LetterRepository$Command" (TX1 2).2.1 (TX1 2).2.2.1 ∈ TB) (hdg : decode b pc = .ok (.putfield index, 3)) (kk : ∀ (H1 : Heap) (locs1 : List Loc), In E ad V1 s H1 locs1 → W p l e R s m args below meth c H1 locs1 cells slots Q (F0 m (pc + 3) ls rest)) : W p l e R s m args below meth c H locs cells slots Q (F0 m pc ls (.int x :: .ref (ad (224 + 3 * q)) :: rest)) := by
  subst he
  exact r_put (v := upd (V (224 + 3 * q)) 0 x) (ty := .int) hC hI tyX1 tyX1_ok nmX1 (by omega) (ceC_0 hq _) rfl in_X1 2 (by decide) hl rfl rfl (by decide +kernel) rfl rfl (Nat.le_of_ble_eq_true rfl) (fun sa => (ceC_0 hq _ sa).trans rfl) hdg kk
theorem gN_C_size {q : Nat} (hq : q < 8) {host : String} (hC : Cx p s m args c meth E ow b n ret) (hI : In E ad V s H locs) (hl : Cond.fieldLinkNest ow index "LetterRepository$Command" (TX1 2).2.1 (TX1 2).2.2.1 host ∈ NB) (hdg : decode b pc = .ok (.getfield index, 3)) (kk : W p l e R s m args below meth c H locs cells slots Q (F0 m (pc + 3) ls (.int (V (224 + 3 * q) 0) :: rest))) : W p l e R s m args below meth c H locs cells slots Q (F0 m pc ls (.ref (ad (224 + 3 * q)) :: rest)) :=
  r_getN hC hI (T := TX1) (by omega) (ceC_0 hq _) rfl in_X1 2 (by decide) hl rfl rfl hdg kk
theorem pN_C_size {q : Nat} (hq : q < 8) {host : String} {x : Int32} (hC : Cx p s m args c meth E ow b n ret) (hI : In E ad V s H locs) (he : V1 = stv V (224 + 3 * q) 0 x) (hl : Cond.fieldLinkNest ow index "LetterRepository$Command" (TX1 2).2.1 (TX1 2).2.2.1 host ∈ NB) (hdg : decode b pc = .ok (.putfield index, 3)) (kk : ∀ (H1 : Heap) (locs1 : List Loc), In E ad V1 s H1 locs1 → W p l e R s m args below meth c H1 locs1 cells slots Q (F0 m (pc + 3) ls rest)) : W p l e R s m args below meth c H locs cells slots Q (F0 m pc ls (.int x :: .ref (ad (224 + 3 * q)) :: rest)) := by
  subst he
  exact r_putN (v := upd (V (224 + 3 * q)) 0 x) (ty := .int) hC hI tyX1 tyX1_ok nmX1 (by omega) (ceC_0 hq _) rfl in_X1 2 (by decide) hl rfl rfl (by decide +kernel) rfl rfl (Nat.le_of_ble_eq_true rfl) (fun sa => (ceC_0 hq _ sa).trans rfl) hdg kk
theorem ce_221 (sa : Nat → Nat) (v : Nat → Int32) : cell E (adx ad sa) 221 v = .inl (eC E 4, 9, .inr (.inr (.inr (.inr (fun x => some (adx ad sa (20 * (x + 2)))))))) := rfl
theorem ra_221 {x : Int32} (hC : Cx p s m args c meth E ow b n ret) (hI : In E ad V s H locs) (hin : vp_in x 9) (hdg : decode b pc = .ok (.aaload, 1)) (kk : W p l e R s m args below meth c H locs cells slots Q (F0 m (pc + 1) ls (.ref (ad (20 * (x.toNatClampNeg + 2))) :: rest))) : W p l e R s m args below meth c H locs cells slots Q (F0 m pc ls (.int x :: .ref (ad 221) :: rest)) := by
  obtain ⟨⟨sa, hP, hD, hA⟩, hS⟩ := hI
  have hlt : x.toNatClampNeg < 9 := Nat.not_le.mp fun q => hin (Or.inr q)
  have e1 : adx ad sa (20 * (x.toNatClampNeg + 2)) = ad (20 * (x.toNatClampNeg + 2)) := adx_ok (by omega)
  rw [← e1] at kk
  exact va_aldq (f := fun x => some (adx ad sa (20 * (x + 2)))) hC.1 hC.2.1 hC.2.2.2.2.2.1 hP 221 4 ((world_get (by decide)).trans (by rw [ce_221])) rfl hin hdg kk
theorem la_221 (hC : Cx p s m args c meth E ow b n ret) (hI : In E ad V s H locs) (hdg : decode b pc = .ok (.arraylength, 1)) (kk : W p l e R s m args below meth c H locs cells slots Q (F0 m (pc + 1) ls (.int (nI 9) :: rest))) : W p l e R s m args below meth c H locs cells slots Q (F0 m pc ls (.ref (ad 221) :: rest)) := by
  obtain ⟨⟨sa, hP, hD, hA⟩, hS⟩ := hI
  exact va_alen (x := (9, .inr (.inr (.inr (.inr (fun x => some (adx ad sa (20 * (x + 2))))))))) hC.1 hC.2.1 hC.2.2.2.2.2.1 hP 221 4 ((world_get (by decide)).trans (by rw [ce_221])) rfl rfl hdg kk
theorem ce_223 (sa : Nat → Nat) (v : Nat → Int32) : cell E (adx ad sa) 223 v = .inl (eC E 5, 8, .inr (.inr (.inr (.inr (fun x => some (adx ad sa (224 + 3 * x))))))) := rfl
theorem ra_223 {x : Int32} (hC : Cx p s m args c meth E ow b n ret) (hI : In E ad V s H locs) (hin : vp_in x 8) (hdg : decode b pc = .ok (.aaload, 1)) (kk : W p l e R s m args below meth c H locs cells slots Q (F0 m (pc + 1) ls (.ref (ad (224 + 3 * x.toNatClampNeg)) :: rest))) : W p l e R s m args below meth c H locs cells slots Q (F0 m pc ls (.int x :: .ref (ad 223) :: rest)) := by
  obtain ⟨⟨sa, hP, hD, hA⟩, hS⟩ := hI
  have hlt : x.toNatClampNeg < 8 := Nat.not_le.mp fun q => hin (Or.inr q)
  have e1 : adx ad sa (224 + 3 * x.toNatClampNeg) = ad (224 + 3 * x.toNatClampNeg) := adx_ok (by omega)
  rw [← e1] at kk
  exact va_aldq (f := fun x => some (adx ad sa (224 + 3 * x))) hC.1 hC.2.1 hC.2.2.2.2.2.1 hP 223 5 ((world_get (by decide)).trans (by rw [ce_223])) rfl hin hdg kk
theorem la_223 (hC : Cx p s m args c meth E ow b n ret) (hI : In E ad V s H locs) (hdg : decode b pc = .ok (.arraylength, 1)) (kk : W p l e R s m args below meth c H locs cells slots Q (F0 m (pc + 1) ls (.int (nI 8) :: rest))) : W p l e R s m args below meth c H locs cells slots Q (F0 m pc ls (.ref (ad 223) :: rest)) := by
  obtain ⟨⟨sa, hP, hD, hA⟩, hS⟩ := hI
  exact va_alen (x := (8, .inr (.inr (.inr (.inr (fun x => some (adx ad sa (224 + 3 * x)))))))) hC.1 hC.2.1 hC.2.2.2.2.2.1 hP 223 5 ((world_get (by decide)).trans (by rw [ce_223])) rfl rfl hdg kk
theorem slot_lt {x : Int32} (h : ib x 9 = true) : x.toNatClampNeg + 2 < 11 := by
  simp only [ib, Bool.and_eq_true, decide_eq_true_eq] at h; omega
theorem cmd_lt {x : Int32} (h : ib x 8 = true) : x.toNatClampNeg < 8 := by
  simp only [ib, Bool.and_eq_true, decide_eq_true_eq] at h; omega
end R06
