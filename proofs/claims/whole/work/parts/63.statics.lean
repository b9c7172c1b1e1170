/-! 63: what is given of statics at the law's entry -/
theorem tk_1 {w : Cond} (i : Nat) (h1 : tables_1_1[i]? = some w) : w ∈ tables_1 := by
  have h := List.mem_of_getElem? h1
  exact (List.mem_append_left _ h)
theorem tk_2 {w : Cond} (i : Nat) (h1 : tables_1_2[i]? = some w) : w ∈ tables_1 := by
  have h := List.mem_of_getElem? h1
  exact (List.mem_append_right _ (List.mem_append_left _ h))
theorem tk_3 {w : Cond} (i : Nat) (h1 : tables_1_3[i]? = some w) : w ∈ tables_1 := by
  have h := List.mem_of_getElem? h1
  exact (List.mem_append_right _ (List.mem_append_right _ (List.mem_append_left _ h)))
theorem tk_4 {w : Cond} (i : Nat) (h1 : tables_1_4[i]? = some w) : w ∈ tables_1 := by
  have h := List.mem_of_getElem? h1
  exact (List.mem_append_right _ (List.mem_append_right _ (List.mem_append_right _ (List.mem_append_left _ h))))
theorem tk_5 {w : Cond} (i : Nat) (h1 : tables_1_5[i]? = some w) : w ∈ tables_1 := by
  have h := List.mem_of_getElem? h1
  exact (List.mem_append_right _ (List.mem_append_right _ (List.mem_append_right _ (List.mem_append_right _ (List.mem_append_left _ h)))))
theorem tk_6 {w : Cond} (i : Nat) (h1 : tables_1_6[i]? = some w) : w ∈ tables_1 := by
  have h := List.mem_of_getElem? h1
  exact (List.mem_append_right _ (List.mem_append_right _ (List.mem_append_right _ (List.mem_append_right _ (List.mem_append_right _ (List.mem_append_left _ h))))))
theorem tk_7 {w : Cond} (i : Nat) (h1 : tables_1_7[i]? = some w) : w ∈ tables_1 := by
  have h := List.mem_of_getElem? h1
  exact (List.mem_append_right _ (List.mem_append_right _ (List.mem_append_right _ (List.mem_append_right _ (List.mem_append_right _ (List.mem_append_right _ (List.mem_append_left _ h)))))))
theorem tk_8 {w : Cond} (i : Nat) (h1 : tables_1_8[i]? = some w) : w ∈ tables_1 := by
  have h := List.mem_of_getElem? h1
  exact (List.mem_append_right _ (List.mem_append_right _ (List.mem_append_right _ (List.mem_append_right _ (List.mem_append_right _ (List.mem_append_right _ (List.mem_append_right _ (List.mem_append_left _ h))))))))
theorem tk_9 {w : Cond} (i : Nat) (h1 : tables_1_9[i]? = some w) : w ∈ tables_1 := by
  have h := List.mem_of_getElem? h1
  exact (List.mem_append_right _ (List.mem_append_right _ (List.mem_append_right _ (List.mem_append_right _ (List.mem_append_right _ (List.mem_append_right _ (List.mem_append_right _ (List.mem_append_right _ (List.mem_append_left _ h)))))))))
theorem tk_10 {w : Cond} (i : Nat) (h1 : tables_1_10[i]? = some w) : w ∈ tables_1 := by
  have h := List.mem_of_getElem? h1
  exact (List.mem_append_right _ (List.mem_append_right _ (List.mem_append_right _ (List.mem_append_right _ (List.mem_append_right _ (List.mem_append_right _ (List.mem_append_right _ (List.mem_append_right _ (List.mem_append_right _ h)))))))))
def FL : List Cond := flatC (Cond.and given_1 narrow_1)
section SS
variable {s : State} {b : Nat}
theorem fl_at (hgv : (Cond.and given_1 narrow_1).before #[Value.ref b] s = true) {w : Cond} (i : Nat) (h : FL[i]? = some w) : w.before #[Value.ref b] s = true := flat_of_before _ hgv w (List.mem_of_getElem? h)
def fk_ex_ix (i : Nat) : Nat := ([279, 288, 298, 309, 321, 334, 348, 363, 379, 396, 414, 433, 4] : List Nat).getD i 0
theorem fk_ex : ∀ i, i < 13 → FL[fk_ex_ix i]? = some (Cond.exactly (.static "LetterRepository$Kind" (kindNames.getD i "") "LLetterRepository$Kind;") "LetterRepository$Kind") := by decide +kernel
def fk_or_ix (i : Nat) : Nat := ([280, 289, 299, 310, 322, 335, 349, 364, 380, 397, 415, 434, 5] : List Nat).getD i 0
theorem fk_or : ∀ i, i < 13 → FL[fk_or_ix i]? = some (Cond.eq (.field (.static "LetterRepository$Kind" (kindNames.getD i "") "LLetterRepository$Kind;") "java/lang/Enum" "ordinal" "I") (.int (([0, 1, 2, 3, 4, 5, 6, 7, 8, 9, 10, 11, 12] : List Int32).getD i 0))) := by decide +kernel
def fr_ex_ix (i : Nat) : Nat := ([11, 8, 15, 22, 28] : List Nat).getD i 0
theorem fr_ex : ∀ i, i < 5 → FL[fr_ex_ix i]? = some (Cond.exactly (.static "LetterRepository$Refusal" (refusalNames.getD i "") "LLetterRepository$Refusal;") "LetterRepository$Refusal") := by decide +kernel
def tmT (i : Nat) : Term := if i < 13 then .string "LetterRepository$Kind" (([67, 73, 76, 79, 82, 85, 88, 91, 94, 97, 100, 103, 106] : List Nat).getD i 0) else .string "LetterRepository" (([301, 306, 312, 314] : List Nat).getD (i - 13) 0)
def fk_fo_ix (i : Nat) : Nat := ([281, 290, 300, 311, 323, 336, 350, 365, 381, 398, 416, 435, 6] : List Nat).getD i 0
theorem fk_fo : ∀ i, i < 13 → FL[fk_fo_ix i]? = some (Cond.eq (.field (.static "LetterRepository$Kind" (kindNames.getD i "") "LLetterRepository$Kind;") "LetterRepository$Kind" "form" "Ljava/lang/String;") (tmT i)) := by decide +kernel
def ft_ex_ix (i : Nat) : Nat := ([1124, 1136, 1148, 1162, 1174, 1185, 1197, 1208, 1221, 1233, 1246, 1257, 1113, 901, 907, 913, 918] : List Nat).getD i 0
theorem ft_ex : ∀ i, i < 17 → FL[ft_ex_ix i]? = some (Cond.exactly (tmT i) "java/lang/String") := by decide +kernel
def ft_co_ix (i : Nat) : Nat := ([1125, 1137, 1149, 1163, 1175, 1186, 1198, 1209, 1222, 1234, 1247, 1258, 1114, 902, 908, 914, 919] : List Nat).getD i 0
theorem ft_co : ∀ i, i < 17 → FL[ft_co_ix i]? = some (Cond.eq (.field (tmT i) "java/lang/String" "coder" "B") (.int 0)) := by decide +kernel
def ft_ar_ix (i : Nat) : Nat := ([1126, 1138, 1150, 1164, 1176, 1187, 1199, 1210, 1223, 1235, 1248, 1259, 1115, 903, 909, 915, 920] : List Nat).getD i 0
theorem ft_ar : ∀ i, i < 17 → FL[ft_ar_ix i]? = some (Cond.arrayOf (.field (tmT i) "java/lang/String" "value" "[B") .byte) := by decide +kernel
def ft_le_ix (i : Nat) : Nat := ([1127, 1139, 1151, 1165, 1177, 1188, 1200, 1211, 1224, 1236, 1249, 1260, 1116, 904, 910, 916, 921] : List Nat).getD i 0
theorem ft_le : ∀ i, i < 17 → FL[ft_le_ix i]? = some (Cond.eq (.length (.field (tmT i) "java/lang/String" "value" "[B")) (.int (Int32.ofNat ((textOf i).length)))) := by decide +kernel
def ft_el_ix (i : Nat) : Nat := ([1128, 1140, 1152, 1166, 1178, 1189, 1201, 1212, 1225, 1237, 1250, 1261, 1117, 905, 911, 917, 922] : List Nat).getD i 0
theorem ft_el : ∀ i, i < 17 → ∀ j, j < (textOf i).length → FL[ft_el_ix i + j]? = some (Cond.eq (.elem (.field (tmT i) "java/lang/String" "value" "[B") (.int (Int32.ofNat j))) (.int ((textOf i).getD j 0))) := by decide +kernel
theorem ft_ne : ∀ i, i < 17 → ∀ j, j < 17 → i ≠ j → ((textOf i).length ≠ (textOf j).length ∧ (textOf i).length < 100 ∧ (textOf j).length < 100) ∨ ((List.range 20).any fun k => decide (k < (textOf i).length) && (decide (k < (textOf j).length) && decide ((textOf i).getD k 0 ≠ (textOf j).getD k 0))) = true := by decide +kernel
def fk_ne_ix (i : Nat) : Nat := ([0, 297, 307, 318, 330, 343, 357, 372, 388, 405, 423, 442, 282, 297, 0, 308, 319, 331, 344, 358, 373, 389, 406, 424, 443, 291, 307, 308, 0, 320, 332, 345, 359, 374, 390, 407, 425, 444, 301, 318, 319, 320, 0, 333, 346, 360, 375, 391, 408, 426, 445, 312, 330, 331, 332, 333, 0, 347, 361, 376, 392, 409, 427, 446, 324, 343, 344, 345, 346, 347, 0, 362, 377, 393, 410, 428, 447, 337, 357, 358, 359, 360, 361, 362, 0, 378, 394, 411, 429, 448, 351, 372, 373, 374, 375, 376, 377, 378, 0, 395, 412, 430, 449, 366, 388, 389, 390, 391, 392, 393, 394, 395, 0, 413, 431, 450, 382, 405, 406, 407, 408, 409, 410, 411, 412, 413, 0, 432, 451, 399, 423, 424, 425, 426, 427, 428, 429, 430, 431, 432, 0, 452, 417, 442, 443, 444, 445, 446, 447, 448, 449, 450, 451, 452, 0, 436, 282, 291, 301, 312, 324, 337, 351, 366, 382, 399, 417, 436, 0] : List Nat).getD i 0
theorem fk_ne : ∀ i, i < 13 → ∀ j, j < 13 → i ≠ j → FL[fk_ne_ix (13 * i + j)]? = some (Cond.not (.eq (.static "LetterRepository$Kind" (kindNames.getD i "") "LLetterRepository$Kind;") (.static "LetterRepository$Kind" (kindNames.getD j "") "LLetterRepository$Kind;"))) ∨ FL[fk_ne_ix (13 * i + j)]? = some (Cond.not (.eq (.static "LetterRepository$Kind" (kindNames.getD j "") "LLetterRepository$Kind;") (.static "LetterRepository$Kind" (kindNames.getD i "") "LLetterRepository$Kind;"))) := by decide +kernel
def fr_ne_ix (i : Nat) : Nat := ([0, 14, 19, 26, 32, 14, 0, 18, 25, 31, 19, 18, 0, 27, 33, 26, 25, 27, 0, 34, 32, 31, 33, 34, 0] : List Nat).getD i 0
theorem fr_ne : ∀ i, i < 5 → ∀ j, j < 5 → i ≠ j → FL[fr_ne_ix (5 * i + j)]? = some (Cond.not (.eq (.static "LetterRepository$Refusal" (refusalNames.getD i "") "LLetterRepository$Refusal;") (.static "LetterRepository$Refusal" (refusalNames.getD j "") "LLetterRepository$Refusal;"))) ∨ FL[fr_ne_ix (5 * i + j)]? = some (Cond.not (.eq (.static "LetterRepository$Refusal" (refusalNames.getD j "") "LLetterRepository$Refusal;") (.static "LetterRepository$Refusal" (refusalNames.getD i "") "LLetterRepository$Refusal;"))) := by decide +kernel
theorem fa_k_ar : FL[247]? = some (Cond.arrayOf (.static "LetterRepository" "KINDS" "[LLetterRepository$Kind;") (.object "LetterRepository$Kind")) := by decide +kernel
theorem fa_k_le : FL[248]? = some (Cond.eq (.length (.static "LetterRepository" "KINDS" "[LLetterRepository$Kind;")) (.int 13)) := by decide +kernel
theorem fa_k_el : ∀ j, j < 13 → FL[250 + j]? = some (Cond.eq (.elem (.static "LetterRepository" "KINDS" "[LLetterRepository$Kind;") (.int (Int32.ofNat j))) (.static "LetterRepository$Kind" (kindNames.getD j "") "LLetterRepository$Kind;")) := by decide +kernel
theorem fa_s_ar : FL[264]? = some (Cond.arrayOf (.static "LetterRepository$1" "$SwitchMap$LetterRepository$Kind" "[I") .int) := by decide +kernel
theorem fa_s_le : FL[265]? = some (Cond.eq (.length (.static "LetterRepository$1" "$SwitchMap$LetterRepository$Kind" "[I")) (.int 13)) := by decide +kernel
theorem fa_s_el : ∀ j, j < 13 → FL[266 + j]? = some (Cond.eq (.elem (.static "LetterRepository$1" "$SwitchMap$LetterRepository$Kind" "[I") (.int (Int32.ofNat j))) (.int (swOf j))) := by decide +kernel
theorem fa_o_ar : FL[40]? = some (Cond.arrayOf (.static "java/lang/Integer" "DigitOnes" "[B") .byte) := by decide +kernel
theorem fa_o_le : FL[41]? = some (Cond.eq (.length (.static "java/lang/Integer" "DigitOnes" "[B")) (.int 100)) := by decide +kernel
theorem fa_o_el : ∀ j, j < 100 → FL[42 + j]? = some (Cond.eq (.elem (.static "java/lang/Integer" "DigitOnes" "[B") (.int (Int32.ofNat j))) (.int (nI (48 + j % 10)))) := by decide +kernel
theorem fa_t_ar : FL[143]? = some (Cond.arrayOf (.static "java/lang/Integer" "DigitTens" "[B") .byte) := by decide +kernel
theorem fa_t_le : FL[144]? = some (Cond.eq (.length (.static "java/lang/Integer" "DigitTens" "[B")) (.int 100)) := by decide +kernel
theorem fa_t_el : ∀ j, j < 100 → FL[145 + j]? = some (Cond.eq (.elem (.static "java/lang/Integer" "DigitTens" "[B") (.int (Int32.ofNat j))) (.int (nI (48 + j / 10)))) := by decide +kernel
theorem fq_u : FL[20]? = some (Cond.isRef (.static "java/lang/Throwable" "UNASSIGNED_STACK" "[Ljava/lang/StackTraceElement;")) := by decide +kernel
theorem fq_p : FL[21]? = some (Cond.isRef (.static "java/lang/Throwable" "SUPPRESSED_SENTINEL" "Ljava/util/List;")) := by decide +kernel
theorem fq_s : FL[35]? = some (Cond.isRef (.static "jdk/internal/util/Preconditions" "SIOOBE_FORMATTER" "Ljava/util/function/BiFunction;")) := by decide +kernel
theorem fq_c : FL[7]? = some (Cond.eq (.static "java/lang/String" "COMPACT_STRINGS" "Z") (.int 1)) := by decide +kernel
theorem fm_205 : FL[729]? = some (Cond.exactly (.string "LetterRepository" 205) "java/lang/String") := by decide +kernel
theorem fm_255 : FL[765]? = some (Cond.exactly (.string "LetterRepository" 255) "java/lang/String") := by decide +kernel
theorem fm_321 : FL[924]? = some (Cond.exactly (.string "LetterRepository" 321) "java/lang/String") := by decide +kernel
theorem fm_328 : FL[957]? = some (Cond.exactly (.string "LetterRepository" 328) "java/lang/String") := by decide +kernel
theorem fm_332 : FL[990]? = some (Cond.exactly (.string "LetterRepository" 332) "java/lang/String") := by decide +kernel
theorem fm_342 : FL[1012]? = some (Cond.exactly (.string "LetterRepository" 342) "java/lang/String") := by decide +kernel
theorem fm_360 : FL[1040]? = some (Cond.exactly (.string "LetterRepository" 360) "java/lang/String") := by decide +kernel
theorem fm_370 : FL[1060]? = some (Cond.exactly (.string "LetterRepository" 370) "java/lang/String") := by decide +kernel
theorem fm_382 : FL[1087]? = some (Cond.exactly (.string "LetterRepository" 382) "java/lang/String") := by decide +kernel
theorem fm_390 : FL[555]? = some (Cond.exactly (.string "LetterRepository" 390) "java/lang/String") := by decide +kernel
theorem fm_395 : FL[582]? = some (Cond.exactly (.string "LetterRepository" 395) "java/lang/String") := by decide +kernel
theorem fm_400 : FL[613]? = some (Cond.exactly (.string "LetterRepository" 400) "java/lang/String") := by decide +kernel
theorem fm_405 : FL[640]? = some (Cond.exactly (.string "LetterRepository" 405) "java/lang/String") := by decide +kernel
theorem fm_410 : FL[747]? = some (Cond.exactly (.string "LetterRepository" 410) "java/lang/String") := by decide +kernel
theorem fm_418 : FL[712]? = some (Cond.exactly (.string "LetterRepository" 418) "java/lang/String") := by decide +kernel
theorem fm_423 : FL[675]? = some (Cond.exactly (.string "LetterRepository" 423) "java/lang/String") := by decide +kernel
theorem fm_425 : FL[695]? = some (Cond.exactly (.string "LetterRepository" 425) "java/lang/String") := by decide +kernel
def fe_ix (i : Nat) : Nat := ([0, 479, 513, 496, 464, 0, 514, 497, 465, 480, 0, 498, 466, 481, 515, 0] : List Nat).getD i 0
theorem fe_ne : ∀ i, i < 4 → ∀ j, j < 4 → i ≠ j → FL[fe_ix (4 * i + j)]? = some (Cond.not (.castable (EXL.getD i "") (EXL.getD j ""))) := by decide +kernel
theorem exl_at {C : String} (h : C ∈ EXL) : ∃ i, i < 4 ∧ EXL.getD i "" = C := by
  rcases List.mem_cons.mp h with e | h
  · exact ⟨0, by omega, e.symm⟩
  rcases List.mem_cons.mp h with e | h
  · exact ⟨1, by omega, e.symm⟩
  rcases List.mem_cons.mp h with e | h
  · exact ⟨2, by omega, e.symm⟩
  rcases List.mem_cons.mp h with e | h
  · exact ⟨3, by omega, e.symm⟩
  · exact absurd h List.not_mem_nil
theorem va_Z_one {C n d : String} {v w : Value} {A : Nat → Prop} {U : State} {H : Heap} (h1 : va_Z C n d v A U H) (h2 : va_Z C n d w A U H) : v = w := by
  obtain ⟨cf, kf, fi, f, a, cell, x1, x2, x3, x4, x5, x6, x7, x8⟩ := h1
  obtain ⟨cf', kf', fi', f', a', cell', y1, y2, y3, y4, y5, y6, y7, y8⟩ := h2
  cases x1.symm.trans y1
  cases x4.symm.trans y4
  cases x5.symm.trans y5
  exact Option.some.inj (x7.symm.trans y7)
theorem ex_ev {args : Array Value} {t : Term} {C : String} (h : (Cond.exactly t C).before args s = true) : ∃ a, t.eval args s none [] s = some (.ref a) := by
  obtain ⟨a, c, cell, k, q1, -⟩ := Cond.exactly_spec h
  exact ⟨a, q1⟩
theorem el_same {args : Array Value} {t u : Term} {a : Nat} {c n d : String} (k : Int32) (ht : t.eval args s none [] s = some (.ref a)) (hu : u.eval args s none [] s = some (.ref a)) : (Term.elem (.field t c n d) (.int k)).eval args s none [] s = (Term.elem (.field u c n d) (.int k)).eval args s none [] s := by
  have e : (Term.field t c n d).eval args s none [] s = (Term.field u c n d).eval args s none [] s := (va_fe ht).trans (va_fe hu).symm
  simp only [Term.eval] at e ⊢
  rw [e]
theorem ln_same {args : Array Value} {t u : Term} {a : Nat} {c n d : String} (ht : t.eval args s none [] s = some (.ref a)) (hu : u.eval args s none [] s = some (.ref a)) : (Term.length (.field t c n d)).eval args s none [] s = (Term.length (.field u c n d)).eval args s none [] s := by
  have e : (Term.field t c n d).eval args s none [] s = (Term.field u c n d).eval args s none [] s := (va_fe ht).trans (va_fe hu).symm
  simp only [Term.eval] at e ⊢
  rw [e]
abbrev AZ (s : State) : Nat → Prop := fun q => s.heap.size ≤ q
theorem az (s : State) : ∀ a : Nat, a < s.heap.size → ¬ AZ s a := fun a h => Nat.not_le.mpr h
theorem tx_start (hgv : (Cond.and given_1 narrow_1).before #[Value.ref b] s = true) : ∃ adK adV : Nat → Nat, vk_S 17 ((List.range 17).map fun i => (textOf i).length) ((List.range 17).map textOf) adK adV (AZ s) s s.heap ∧ ∀ i : Nat, i < 17 → (tmT i).eval #[Value.ref b] s none [] s = some (.ref (adK i)) := by
  have l1 : ∀ i, i < 17 → ((List.range 17).map fun i => (textOf i).length).getD i 0 = (textOf i).length := by decide +kernel
  have l2 : ∀ i, i < 17 → ((List.range 17).map textOf).getD i [] = textOf i := by decide +kernel
  have l3 : ∀ i, i < 17 → (textOf i).length < 100 := by decide +kernel
  have h0 : ∀ i : Nat, ∃ q : Nat × Nat, i < 17 → (tmT i).eval #[Value.ref b] s none [] s = some (.ref q.1) ∧ va_O "java/lang/String" q.1 (AZ s) s s.heap ∧ va_OF "java/lang/String" "coder" "B" (.int 0) q.1 (AZ s) s s.heap ∧ va_OF "java/lang/String" "value" "[B" (.ref q.2) q.1 (AZ s) s s.heap ∧ va_T .byte q.2 (((List.range 17).map fun i => (textOf i).length).getD i 0) (fun j => .int ((((List.range 17).map textOf).getD i []).getD j 0)) (AZ s) s s.heap := by
    intro i
    by_cases hi : i < 17
    · obtain ⟨a, q1⟩ := ex_ev (fl_at hgv _ (ft_ex i hi))
      obtain ⟨t, ht, hT⟩ := va_Tof (N := (textOf i).length) (f := fun j => .int ((textOf i).getD j 0)) (A := AZ s) (by have := l3 i hi; omega) (fl_at hgv _ (ft_ar i hi)) (va_eqt (fl_at hgv _ (ft_le i hi))) (fun j hj => va_eqt (fl_at hgv _ (ft_el i hi j hj))) (az s)
      exact ⟨(a, t), fun _ => ⟨q1, va_Oof (fl_at hgv _ (ft_ex i hi)) q1 (az s), vk_OFof q1 (va_eqt (fl_at hgv _ (ft_co i hi))) (az s), vk_OFof q1 ht (az s), by rw [l1 i hi, l2 i hi]; exact hT⟩⟩
    · exact ⟨(0, 0), fun h => absurd h hi⟩
  obtain ⟨ad, had⟩ := Classical.axiomOfChoice h0
  refine ⟨fun i => (ad i).1, fun i => (ad i).2, ⟨fun i hi => (had i hi).2, fun i j hi hj e => ?_⟩, fun i hi => (had i hi).1⟩
  by_cases hij : i = j
  · exact hij
  · exfalso
    have e1 := (had i hi).1
    have e2 := (had j hj).1
    have e : (ad i).1 = (ad j).1 := e
    rw [e] at e1
    rcases ft_ne i hi j hj hij with ⟨h, h5, h6⟩ | h
    · have z := (va_eqt (fl_at hgv _ (ft_le i hi))).symm.trans ((ln_same e1 e2).trans (va_eqt (fl_at hgv _ (ft_le j hj))))
      have z : Int32.ofNat (textOf i).length = Int32.ofNat (textOf j).length := Value.int.inj (Option.some.inj z)
      exact h ((nI_eq (by omega) (by omega)).mp z)
    · obtain ⟨k, -, h4⟩ := List.any_eq_true.mp h
      obtain ⟨h1, h4⟩ := Bool.and_eq_true_iff.mp h4
      obtain ⟨h2, h3⟩ := Bool.and_eq_true_iff.mp h4
      have h1 := of_decide_eq_true h1
      have h2 := of_decide_eq_true h2
      have h3 := of_decide_eq_true h3
      have z := (va_eqt (fl_at hgv _ (ft_el i hi k h1))).symm.trans ((el_same _ e1 e2).trans (va_eqt (fl_at hgv _ (ft_el j hj k h2))))
      exact h3 (Value.int.inj (Option.some.inj z))
theorem hq_of (hts : ∀ w ∈ lw_tbl, w.before #[Value.ref b] s = true) : ∀ w ∈ tables_1, w.before #[Value.ref b] s = true := fun w hw => hts w (List.mem_append_right _ hw)
theorem en_R (hts : ∀ w ∈ lw_tbl, w.before #[Value.ref b] s = true) (hgv : (Cond.and given_1 narrow_1).before #[Value.ref b] s = true) : ∃ ad : Nat → Nat, va_En "LetterRepository$Refusal" "LLetterRepository$Refusal;" refusalNames [] ad (AZ s) s s.heap := by
  have hq := hq_of hts
  have hl : ∀ i, i < 5 → (Cond.laysStatic "LetterRepository$Refusal" (refusalNames.getD i "") "LLetterRepository$Refusal;").before #[Value.ref b] s = true := by
    intro i hi
    rcases (show i = 0 ∨ i = 1 ∨ i = 2 ∨ i = 3 ∨ i = 4 by omega) with rfl | rfl | rfl | rfl | rfl
    · exact (hq _ (tk_2 236 rfl))
    · exact (hq _ (tk_2 231 rfl))
    · exact (hq _ (tk_2 238 rfl))
    · exact (hq _ (tk_3 91 rfl))
    · exact (hq _ (tk_3 109 rfl))
  exact va_Enof hl (hq _ (tk_1 15 rfl)) (fun i hi => fl_at hgv _ (fr_ex i hi)) (fun q h => nomatch h) (fun i j hi hj hij => (fr_ne i hi j hj hij).elim (fun h => .inl (fl_at hgv _ h)) (fun h => .inr (fl_at hgv _ h))) (az s)
theorem en_K (hts : ∀ w ∈ lw_tbl, w.before #[Value.ref b] s = true) (hgv : (Cond.and given_1 narrow_1).before #[Value.ref b] s = true) : ∃ ad : Nat → Nat, va_En "LetterRepository$Kind" "LLetterRepository$Kind;" kindNames [("java/lang/Enum", "ordinal", "I", [0, 1, 2, 3, 4, 5, 6, 7, 8, 9, 10, 11, 12])] ad (AZ s) s s.heap := by
  have hq := hq_of hts
  have hl : ∀ i, i < 13 → (Cond.laysStatic "LetterRepository$Kind" (kindNames.getD i "") "LLetterRepository$Kind;").before #[Value.ref b] s = true := by
    intro i hi
    rcases (show i = 0 ∨ i = 1 ∨ i = 2 ∨ i = 3 ∨ i = 4 ∨ i = 5 ∨ i = 6 ∨ i = 7 ∨ i = 8 ∨ i = 9 ∨ i = 10 ∨ i = 11 ∨ i = 12 by omega) with rfl | rfl | rfl | rfl | rfl | rfl | rfl | rfl | rfl | rfl | rfl | rfl | rfl
    · exact (hq _ (tk_10 45 rfl))
    · exact (hq _ (tk_10 46 rfl))
    · exact (hq _ (tk_10 47 rfl))
    · exact (hq _ (tk_10 48 rfl))
    · exact (hq _ (tk_10 49 rfl))
    · exact (hq _ (tk_10 50 rfl))
    · exact (hq _ (tk_10 51 rfl))
    · exact (hq _ (tk_10 52 rfl))
    · exact (hq _ (tk_10 53 rfl))
    · exact (hq _ (tk_10 54 rfl))
    · exact (hq _ (tk_10 55 rfl))
    · exact (hq _ (tk_10 56 rfl))
    · exact (hq _ (tk_1 153 rfl))
  exact va_Enof hl (hq _ (tk_1 9 rfl)) (fun i hi => fl_at hgv _ (fk_ex i hi)) (fun q h i hi => by rw [List.mem_singleton.mp h]; exact fl_at hgv _ (fk_or i hi)) (fun i j hi hj hij => (fk_ne i hi j hj hij).elim (fun h => .inl (fl_at hgv _ h)) (fun h => .inr (fl_at hgv _ h))) (az s)
theorem kd_ev (hts : ∀ w ∈ lw_tbl, w.before #[Value.ref b] s = true) (hgv : (Cond.and given_1 narrow_1).before #[Value.ref b] s = true) {ad : Nat → Nat} (h : va_En "LetterRepository$Kind" "LLetterRepository$Kind;" kindNames [("java/lang/Enum", "ordinal", "I", [0, 1, 2, 3, 4, 5, 6, 7, 8, 9, 10, 11, 12])] ad (AZ s) s s.heap) : ∀ i, i < 13 → (Term.static "LetterRepository$Kind" (kindNames.getD i "") "LLetterRepository$Kind;").eval #[Value.ref b] s none [] s = some (.ref (ad i)) := by
  intro i hi
  have hq := hq_of hts
  obtain ⟨a, e⟩ := ex_ev (fl_at hgv _ (fk_ex i hi))
  have hl : (Cond.laysStatic "LetterRepository$Kind" (kindNames.getD i "") "LLetterRepository$Kind;").before #[Value.ref b] s = true := by
    rcases (show i = 0 ∨ i = 1 ∨ i = 2 ∨ i = 3 ∨ i = 4 ∨ i = 5 ∨ i = 6 ∨ i = 7 ∨ i = 8 ∨ i = 9 ∨ i = 10 ∨ i = 11 ∨ i = 12 by omega) with rfl | rfl | rfl | rfl | rfl | rfl | rfl | rfl | rfl | rfl | rfl | rfl | rfl
    · exact (hq _ (tk_10 45 rfl))
    · exact (hq _ (tk_10 46 rfl))
    · exact (hq _ (tk_10 47 rfl))
    · exact (hq _ (tk_10 48 rfl))
    · exact (hq _ (tk_10 49 rfl))
    · exact (hq _ (tk_10 50 rfl))
    · exact (hq _ (tk_10 51 rfl))
    · exact (hq _ (tk_10 52 rfl))
    · exact (hq _ (tk_10 53 rfl))
    · exact (hq _ (tk_10 54 rfl))
    · exact (hq _ (tk_10 55 rfl))
    · exact (hq _ (tk_10 56 rfl))
    · exact (hq _ (tk_1 153 rfl))
  have z := va_Z_one (va_Zref hl (hq _ (tk_1 9 rfl)) e (az s)) (h.1 i hi).1
  rw [e]; exact congrArg some z
theorem ar_k (hts : ∀ w ∈ lw_tbl, w.before #[Value.ref b] s = true) (hgv : (Cond.and given_1 narrow_1).before #[Value.ref b] s = true) {ad : Nat → Nat} (hev : ∀ i, i < 13 → (Term.static "LetterRepository$Kind" (kindNames.getD i "") "LLetterRepository$Kind;").eval #[Value.ref b] s none [] s = some (.ref (ad i))) : ∃ t : Nat, va_Z "LetterRepository" "KINDS" "[LLetterRepository$Kind;" (.ref t) (AZ s) s s.heap ∧ va_T (.object "LetterRepository$Kind") t 13 (fun j => .ref (ad j)) (AZ s) s s.heap := by
  have hq := hq_of hts
  obtain ⟨t, e, hT⟩ := va_Tof (N := 13) (f := fun j => .ref (ad j)) (A := AZ s) (by omega) (fl_at hgv _ fa_k_ar) (va_eqt (fl_at hgv _ fa_k_le)) (fun j hj => va_eqv (fl_at hgv _ (fa_k_el j hj)) (hev j hj)) (az s)
  exact ⟨t, va_Zref (hq _ (tk_7 33 rfl)) (hq _ (tk_1 1 rfl)) e (az s), hT⟩
theorem ar_s (hts : ∀ w ∈ lw_tbl, w.before #[Value.ref b] s = true) (hgv : (Cond.and given_1 narrow_1).before #[Value.ref b] s = true) : ∃ t : Nat, va_Z "LetterRepository$1" "$SwitchMap$LetterRepository$Kind" "[I" (.ref t) (AZ s) s s.heap ∧ va_T .int t 13 (fun j => .int (swOf j)) (AZ s) s s.heap := by
  have hq := hq_of hts
  obtain ⟨t, e, hT⟩ := va_Tof (N := 13) (f := fun j => .int (swOf j)) (A := AZ s) (by omega) (fl_at hgv _ fa_s_ar) (va_eqt (fl_at hgv _ fa_s_le)) (fun j hj => va_eqt (fl_at hgv _ (fa_s_el j hj))) (az s)
  exact ⟨t, va_Zref (hq _ (tk_7 106 rfl)) (hq _ (tk_1 33 rfl)) e (az s), hT⟩
theorem ar_o (hts : ∀ w ∈ lw_tbl, w.before #[Value.ref b] s = true) (hgv : (Cond.and given_1 narrow_1).before #[Value.ref b] s = true) : ∃ t : Nat, va_Z "java/lang/Integer" "DigitOnes" "[B" (.ref t) (AZ s) s s.heap ∧ va_T .byte t 100 (fun j => .int (nI (48 + j % 10))) (AZ s) s s.heap := by
  have hq := hq_of hts
  obtain ⟨t, e, hT⟩ := va_Tof (N := 100) (f := fun j => .int (nI (48 + j % 10))) (A := AZ s) (by omega) (fl_at hgv _ fa_o_ar) (va_eqt (fl_at hgv _ fa_o_le)) (fun j hj => va_eqt (fl_at hgv _ (fa_o_el j hj))) (az s)
  exact ⟨t, va_Zref (hq _ (tk_6 57 rfl)) (hq _ (tk_1 26 rfl)) e (az s), hT⟩
theorem ar_t (hts : ∀ w ∈ lw_tbl, w.before #[Value.ref b] s = true) (hgv : (Cond.and given_1 narrow_1).before #[Value.ref b] s = true) : ∃ t : Nat, va_Z "java/lang/Integer" "DigitTens" "[B" (.ref t) (AZ s) s s.heap ∧ va_T .byte t 100 (fun j => .int (nI (48 + j / 10))) (AZ s) s s.heap := by
  have hq := hq_of hts
  obtain ⟨t, e, hT⟩ := va_Tof (N := 100) (f := fun j => .int (nI (48 + j / 10))) (A := AZ s) (by omega) (fl_at hgv _ fa_t_ar) (va_eqt (fl_at hgv _ fa_t_le)) (fun j hj => va_eqt (fl_at hgv _ (fa_t_el j hj))) (az s)
  exact ⟨t, va_Zref (hq _ (tk_6 59 rfl)) (hq _ (tk_1 26 rfl)) e (az s), hT⟩
theorem ms_all (hts : ∀ w ∈ lw_tbl, w.before #[Value.ref b] s = true) (hgv : (Cond.and given_1 narrow_1).before #[Value.ref b] s = true) : ∀ q ∈ MSGS, ∃ a, vk_R "LetterRepository" q.1 q.2 a s := by
  have hq := hq_of hts
  have one : ∀ (k : Nat) (tx : String), (Cond.stringRef "LetterRepository" k tx).before #[Value.ref b] s = true → (Cond.exactly (.string "LetterRepository" k) "java/lang/String").before #[Value.ref b] s = true → ∃ a, vk_R "LetterRepository" k tx a s := fun k tx h1 h2 => by
    obtain ⟨a, e⟩ := ex_ev h2
    exact ⟨a, vk_R.of h1 e⟩
  exact List.forall_mem_cons.mpr ⟨one 205 "no such author" (hq _ (tk_5 25 rfl)) (fl_at hgv _ fm_205), List.forall_mem_cons.mpr ⟨one 255 "the field would be a conflict" (hq _ (tk_5 120 rfl)) (fl_at hgv _ fm_255), List.forall_mem_cons.mpr ⟨one 321 "no such character of the line" (hq _ (tk_6 237 rfl)) (fl_at hgv _ fm_321), List.forall_mem_cons.mpr ⟨one 328 "no such character in programs" (hq _ (tk_7 15 rfl)) (fl_at hgv _ fm_328), List.forall_mem_cons.mpr ⟨one 332 "the buffer is full" (hq _ (tk_7 16 rfl)) (fl_at hgv _ fm_332), List.forall_mem_cons.mpr ⟨one 342 "the program is malformed" (hq _ (tk_7 94 rfl)) (fl_at hgv _ fm_342), List.forall_mem_cons.mpr ⟨one 360 "a command failed" (hq _ (tk_7 127 rfl)) (fl_at hgv _ fm_360), List.forall_mem_cons.mpr ⟨one 370 "no change can be undone" (hq _ (tk_7 164 rfl)) (fl_at hgv _ fm_370), List.forall_mem_cons.mpr ⟨one 382 "there is no saved copy" (hq _ (tk_7 178 rfl)) (fl_at hgv _ fm_382), List.forall_mem_cons.mpr ⟨one 390 "no such branch or field" (hq _ (tk_3 47 rfl)) (fl_at hgv _ fm_390), List.forall_mem_cons.mpr ⟨one 395 "an argument is out of range" (hq _ (tk_3 83 rfl)) (fl_at hgv _ fm_395), List.forall_mem_cons.mpr ⟨one 400 "no such revision or tag" (hq _ (tk_3 101 rfl)) (fl_at hgv _ fm_400), List.forall_mem_cons.mpr ⟨one 405 "the store does not allow it now" (hq _ (tk_3 119 rfl)) (fl_at hgv _ fm_405), List.forall_mem_cons.mpr ⟨one 410 "no such branch" (hq _ (tk_5 38 rfl)) (fl_at hgv _ fm_410), List.forall_mem_cons.mpr ⟨one 418 "no such field" (hq _ (tk_4 181 rfl)) (fl_at hgv _ fm_418), List.forall_mem_cons.mpr ⟨one 423 "no such revision" (hq _ (tk_4 132 rfl)) (fl_at hgv _ fm_423), List.forall_mem_cons.mpr ⟨one 425 "there is none" (hq _ (tk_4 145 rfl)) (fl_at hgv _ fm_425), fun _ h => nomatch h⟩⟩⟩⟩⟩⟩⟩⟩⟩⟩⟩⟩⟩⟩⟩⟩⟩
end SS
abbrev mkE (D : va_G) (C : Nat → ClassId) (A : Nat → Nat → Nat) (Z : Nat) : En := (D, C, A, Z, (fun U H => SFc (D, C, A, Z, (fun _ _ => True), fun _ => True) U H), fun _ => True)
theorem mkE_SF {D : va_G} {C : Nat → ClassId} {A : Nat → Nat → Nat} {Z : Nat} : SF (mkE D C A Z) := fun U H h => h
theorem mkE_Fr {D : va_G} {C : Nat → ClassId} {A : Nat → Nat → Nat} {Z : Nat} : Fr (mkE D C A Z) := fun _ => trivial
theorem SFc_moved {E : En} {u U : State} {H : Heap} (hvm : u.vm.Alike U.vm) (hR : ∀ own k tx a, vk_R own k tx a u → vk_R own k tx a U) (h : SFc E u H) : SFc E U H := by
  obtain ⟨c1, c2, ⟨c3, c4⟩, ⟨c5, c6⟩, ⟨c7, c8⟩, c9, c10, c11, ⟨d1, d2, d3, d4⟩, c12, ⟨c13, c14⟩, ⟨c15, c16⟩, ⟨o, c17⟩, c18, c19, c20⟩ := h
  exact ⟨va_En.moved hvm c1, va_En.moved hvm c2, ⟨va_Z.moved hvm c3, va_T.moved hvm c4⟩, ⟨va_Z.moved hvm c5, va_T.moved hvm c6⟩, ⟨vx_Zq.moved hvm c7, vx_Zq.moved hvm c8⟩, fun q hq => (c9 q hq).elim fun a h => ⟨a, hR _ _ _ _ h⟩, va_Ef.moved hvm c10, vk_S.moved hvm c11, ⟨hR _ _ _ _ d1, hR _ _ _ _ d2, hR _ _ _ _ d3, hR _ _ _ _ d4⟩, va_Z.moved hvm c12, ⟨va_Z.moved hvm c13, va_T.moved hvm c14⟩, ⟨va_Z.moved hvm c15, va_T.moved hvm c16⟩, ⟨o, va_Z.moved hvm c17⟩, fun C hC D hD hne => va_Nc.moved hvm (c18 C hC D hD hne), va_AO.moved hvm c19, va_AO.moved hvm c20⟩
theorem SFc_kept {E : En} {U : State} {H H1 : Heap} (h : SFc E U H) (hq : ∀ a : Nat, a < H.size → ¬ ours E a → H1[a]? = H[a]?) : SFc E U H1 := by
  obtain ⟨c1, c2, ⟨c3, c4⟩, ⟨c5, c6⟩, ⟨c7, c8⟩, c9, c10, c11, d, c12, ⟨c13, c14⟩, ⟨c15, c16⟩, ⟨o, c17⟩, c18, c19, c20⟩ := h
  exact ⟨c1.kept hq, c2.kept hq, ⟨c3.kept hq, c4.kept hq⟩, ⟨c5.kept hq, c6.kept hq⟩, ⟨c7.kept hq, c8.kept hq⟩, c9, c10.kept hq, c11.kept hq, d, c12.kept hq, ⟨c13.kept hq, c14.kept hq⟩, ⟨c15.kept hq, c16.kept hq⟩, ⟨o, c17.kept hq⟩, c18, c19, c20⟩
theorem mkE_St {D : va_G} {C : Nat → ClassId} {A : Nat → Nat → Nat} {Z : Nat} : StOk (mkE D C A Z) :=
  ⟨fun u U H hW h => SFc_moved (E := (D, C, A, Z, (fun _ _ => True), fun _ => True)) hW.alike (fun _ _ _ _ q => vk_R.warm hW q) h, fun u U H hv h => SFc_moved (E := (D, C, A, Z, (fun _ _ => True), fun _ => True)) (by rw [hv]; exact Vm.Alike.refl _) (fun _ _ _ _ q => vk_R.same hv q) h, fun U H H1 h hq => SFc_kept (E := (D, C, A, Z, (fun _ _ => True), fun _ => True)) h hq⟩
theorem in_J0 : ∀ w ∈ u_ws RJ0 TJ0 4, w ∈ TB := by
  intro w hw
  obtain ⟨k, hk, rfl⟩ := List.mem_map.mp hw
  have hk := List.mem_range.mp hk
  rcases Nat.eq_or_lt_of_le (Nat.le_of_lt_succ hk) with rfl | hk
  · first | exact tw_6_127 | exact tw_6_129 | exact tw_6_131 | exact tw_6_133
  rcases Nat.eq_or_lt_of_le (Nat.le_of_lt_succ hk) with rfl | hk
  · first | exact tw_6_127 | exact tw_6_129 | exact tw_6_131 | exact tw_6_133
  rcases Nat.eq_or_lt_of_le (Nat.le_of_lt_succ hk) with rfl | hk
  · first | exact tw_6_127 | exact tw_6_129 | exact tw_6_131 | exact tw_6_133
  rcases Nat.eq_or_lt_of_le (Nat.le_of_lt_succ hk) with rfl | hk
  · first | exact tw_6_127 | exact tw_6_129 | exact tw_6_131 | exact tw_6_133
  exact absurd hk (Nat.not_lt_zero _)
theorem in_Jx00060 : ∀ w ∈ u_ws RJx00060 TJx00060 6, w ∈ TB := by
  intro w hw
  obtain ⟨k, hk, rfl⟩ := List.mem_map.mp hw
  have hk := List.mem_range.mp hk
  rcases Nat.eq_or_lt_of_le (Nat.le_of_lt_succ hk) with rfl | hk
  · first | exact tw_6_162 | exact tw_6_163 | exact tw_6_164 | exact tw_6_165 | exact tw_6_166 | exact tw_6_177
  rcases Nat.eq_or_lt_of_le (Nat.le_of_lt_succ hk) with rfl | hk
  · first | exact tw_6_162 | exact tw_6_163 | exact tw_6_164 | exact tw_6_165 | exact tw_6_166 | exact tw_6_177
  rcases Nat.eq_or_lt_of_le (Nat.le_of_lt_succ hk) with rfl | hk
  · first | exact tw_6_162 | exact tw_6_163 | exact tw_6_164 | exact tw_6_165 | exact tw_6_166 | exact tw_6_177
  rcases Nat.eq_or_lt_of_le (Nat.le_of_lt_succ hk) with rfl | hk
  · first | exact tw_6_162 | exact tw_6_163 | exact tw_6_164 | exact tw_6_165 | exact tw_6_166 | exact tw_6_177
  rcases Nat.eq_or_lt_of_le (Nat.le_of_lt_succ hk) with rfl | hk
  · first | exact tw_6_162 | exact tw_6_163 | exact tw_6_164 | exact tw_6_165 | exact tw_6_166 | exact tw_6_177
  rcases Nat.eq_or_lt_of_le (Nat.le_of_lt_succ hk) with rfl | hk
  · first | exact tw_6_162 | exact tw_6_163 | exact tw_6_164 | exact tw_6_165 | exact tw_6_166 | exact tw_6_177
  exact absurd hk (Nat.not_lt_zero _)
theorem in_Jx7c733 : ∀ w ∈ u_ws RJx7c733 TJx7c733 6, w ∈ TB := by
  intro w hw
  obtain ⟨k, hk, rfl⟩ := List.mem_map.mp hw
  have hk := List.mem_range.mp hk
  rcases Nat.eq_or_lt_of_le (Nat.le_of_lt_succ hk) with rfl | hk
  · first | exact tw_6_137 | exact tw_6_138 | exact tw_6_139 | exact tw_6_140 | exact tw_6_141 | exact tw_6_142
  rcases Nat.eq_or_lt_of_le (Nat.le_of_lt_succ hk) with rfl | hk
  · first | exact tw_6_137 | exact tw_6_138 | exact tw_6_139 | exact tw_6_140 | exact tw_6_141 | exact tw_6_142
  rcases Nat.eq_or_lt_of_le (Nat.le_of_lt_succ hk) with rfl | hk
  · first | exact tw_6_137 | exact tw_6_138 | exact tw_6_139 | exact tw_6_140 | exact tw_6_141 | exact tw_6_142
  rcases Nat.eq_or_lt_of_le (Nat.le_of_lt_succ hk) with rfl | hk
  · first | exact tw_6_137 | exact tw_6_138 | exact tw_6_139 | exact tw_6_140 | exact tw_6_141 | exact tw_6_142
  rcases Nat.eq_or_lt_of_le (Nat.le_of_lt_succ hk) with rfl | hk
  · first | exact tw_6_137 | exact tw_6_138 | exact tw_6_139 | exact tw_6_140 | exact tw_6_141 | exact tw_6_142
  rcases Nat.eq_or_lt_of_le (Nat.le_of_lt_succ hk) with rfl | hk
  · first | exact tw_6_137 | exact tw_6_138 | exact tw_6_139 | exact tw_6_140 | exact tw_6_141 | exact tw_6_142
  exact absurd hk (Nat.not_lt_zero _)
section KS
variable {s : State} {b : Nat}
theorem ks_all (hT : ∀ w ∈ TB, w.before #[Value.ref b] s = true) (hts : ∀ w ∈ lw_tbl, w.before #[Value.ref b] s = true) : ∃ (D : va_G) (C : Nat → ClassId), va_K D vwCl [(C 0, .int), (C 1, .byte), (C 2, .char), (C 3, .long), (C 4, .object "LetterRepository$Store"), (C 5, .object "LetterRepository$Command")] s := by
  have hq := hq_of hts
  obtain ⟨c0, i0, k0⟩ := u_known (C := RJ0) (T := TJ0) (N := 4) (n := 4) hT in_J0 (hT _ tw_6_73)
  obtain ⟨c1, i1, k1⟩ := u_known (C := RJ4) (T := TJ4) (N := 4) (n := 4) hT in_J4 (hT _ tw_1_181)
  obtain ⟨c2, i2, k2⟩ := u_known (C := RJx00060) (T := TJx00060) (N := 6) (n := 6) hT in_Jx00060 (hT _ tw_6_157)
  obtain ⟨c3, i3, k3⟩ := u_known (C := RJx7c733) (T := TJx7c733) (N := 6) (n := 6) hT in_Jx7c733 (hT _ tw_5_162)
  obtain ⟨c4, i4, k4⟩ := u_known (C := RX1) (T := TX1) (N := 3) (n := 3) hT in_X1 (hT _ tw_1_145)
  obtain ⟨c5, i5, k5⟩ := u_known (C := RX2) (T := TX2) (N := 3) (n := 3) hT in_X2 (hT _ tw_1_118)
  obtain ⟨c6, i6, k6⟩ := u_known (C := RX4) (T := TX4) (N := 4) (n := 4) hT in_X4 (hT _ tw_1_138)
  obtain ⟨c7, i7, k7⟩ := u_known (C := RX6) (T := TX6) (N := 8) (n := 8) hT in_X6 (hT _ tw_1_49)
  obtain ⟨c8, i8, k8⟩ := u_known (C := RX7) (T := TX7) (N := 1) (n := 1) hT in_X7 (hT _ tw_1_55)
  obtain ⟨c9, i9, k9⟩ := u_known (C := RX8) (T := TX8) (N := 5) (n := 5) hT in_X8 (hT _ tw_1_43)
  obtain ⟨c10, i10, k10⟩ := u_known (C := RX9) (T := TX9) (N := 9) (n := 9) hT in_X9 (hT _ tw_1_35)
  obtain ⟨c11, i11, k11⟩ := u_known (C := RX10) (T := TX10) (N := 22) (n := 22) hT in_X10 (hT _ tw_7_184)
  obtain ⟨a0, ka0, co0, x0, y0, z0⟩ := Cond.arrayClass_spec (hq _ (tk_1 64 rfl))
  obtain ⟨a1, ka1, co1, x1, y1, z1⟩ := Cond.arrayClass_spec (hq _ (tk_1 212 rfl))
  obtain ⟨a2, ka2, co2, x2, y2, z2⟩ := Cond.arrayClass_spec (hq _ (tk_8 16 rfl))
  obtain ⟨a3, ka3, co3, x3, y3, z3⟩ := Cond.arrayClass_spec (hq _ (tk_10 7 rfl))
  obtain ⟨co4, a4, ka4, w4, u4, y4, z4, x4⟩ := Cond.arrayOver_spec (hq _ (tk_1 124 rfl))
  obtain ⟨co5, a5, ka5, w5, u5, y5, z5, x5⟩ := Cond.arrayOver_spec (hq _ (tk_1 144 rfl))
  refine ⟨(fun k => ([c0, c1, c2, c3, c4, c5, c6, c7, c8, c9, c10, c11] : List ClassId).getD k c0, fun k => ([i0, i1, i2, i3, i4, i5, i6, i7, i8, i9, i10, i11] : List (Nat → Nat)).getD k i0), fun k => ([a0, a1, a2, a3, a4, a5] : List ClassId).getD k a0, fun k q hk => ?_, fun k q hk => ?_⟩
  · match k, hk with
    | 0, hk => cases hk; exact k0
    | 1, hk => cases hk; exact k1
    | 2, hk => cases hk; exact k2
    | 3, hk => cases hk; exact k3
    | 4, hk => cases hk; exact k4
    | 5, hk => cases hk; exact k5
    | 6, hk => cases hk; exact k6
    | 7, hk => cases hk; exact k7
    | 8, hk => cases hk; exact k8
    | 9, hk => cases hk; exact k9
    | 10, hk => cases hk; exact k10
    | 11, hk => cases hk; exact k11
    | k + 12, hk => exact absurd hk (by simp [vwCl])
  · match k, hk with
    | 0, hk => cases hk; exact ⟨fun n z => ⟨fun k h => (by cases h), ka0, y0, co0, z0⟩, x0⟩
    | 1, hk => cases hk; exact ⟨fun n z => ⟨fun k h => (by cases h), ka1, y1, co1, z1⟩, x1⟩
    | 2, hk => cases hk; exact ⟨fun n z => ⟨fun k h => (by cases h), ka2, y2, co2, z2⟩, x2⟩
    | 3, hk => cases hk; exact ⟨fun n z => ⟨fun k h => (by cases h), ka3, y3, co3, z3⟩, x3⟩
    | 4, hk => cases hk; exact ⟨fun n z => ⟨fun k h => (by cases h), ka4, y4, co4, z4⟩, ka4, co4, y4, z4, w4, x4⟩
    | 5, hk => cases hk; exact ⟨fun n z => ⟨fun k h => (by cases h), ka5, y5, co5, z5⟩, ka5, co5, y5, z5, w5, x5⟩
    | k + 6, hk => exact absurd hk (by simp)
/-- all that the walk needs of the start -/
theorem st_all (hts : ∀ w ∈ lw_tbl, w.before #[Value.ref b] s = true) (hgv : (Cond.and given_1 narrow_1).before #[Value.ref b] s = true) : ∃ E : En, SF E ∧ Fr E ∧ StOk E ∧ eS E s s.heap ∧ eZ E = s.heap.size ∧ va_K (eD E) vwCl (tysOf E) s := by
  have hq := hq_of hts
  have hT : ∀ w ∈ TB, w.before #[Value.ref b] s = true := fun w hw => hts w (List.mem_filter.mp hw).1
  obtain ⟨D, C, hK⟩ := ks_all hT hts
  obtain ⟨adR, eR1⟩ := en_R hts hgv
  obtain ⟨adK, eK1⟩ := en_K hts hgv
  have hev := kd_ev hts hgv eK1
  obtain ⟨t0, z0, T0⟩ := ar_k hts hgv hev
  obtain ⟨t1, z1, T1⟩ := ar_s hts hgv
  obtain ⟨t2, z2, T2⟩ := ar_o hts hgv
  obtain ⟨t3, z3, T3⟩ := ar_t hts hgv
  obtain ⟨adS, adV, tS, tE⟩ := tx_start hgv
  have ef : va_Ef 13 "LetterRepository$Kind" "form" "Ljava/lang/String;" (fun i => .ref (adS i)) adK (AZ s) s s.heap := va_Efof (nm := kindNames) (tm := tmT) hev (fun i hi => fl_at hgv _ (fk_fo i hi)) (fun i hi => tE i (by omega)) (az s)
  refine ⟨mkE D C (fun k => match k with | 0 => adK | 1 => adR | 2 => (fun i => match i with | 0 => t0 | 1 => t1 | 2 => t2 | _ => t3) | 3 => adS | _ => adV) s.heap.size, mkE_SF, mkE_Fr, mkE_St, ?_, rfl, hK⟩
  refine ⟨eR1, eK1, ⟨z0, T0⟩, ⟨z1, T1⟩, ⟨vx_Zqof (hq _ (tk_3 30 rfl)) (hq _ (tk_1 16 rfl)) (fl_at hgv _ fq_u) (az s), vx_Zqof (hq _ (tk_3 32 rfl)) (hq _ (tk_1 16 rfl)) (fl_at hgv _ fq_p) (az s)⟩, ms_all hts hgv, ef, tS, ⟨vk_R.of (hq _ (tk_6 206 rfl)) (tE 13 (by omega)), vk_R.of (hq _ (tk_6 208 rfl)) (tE 14 (by omega)), vk_R.of (hq _ (tk_6 213 rfl)) (tE 15 (by omega)), vk_R.of (hq _ (tk_6 214 rfl)) (tE 16 (by omega))⟩, va_Zof (hq _ (tk_1 190 rfl)) (hq _ (tk_1 12 rfl)) (va_eqt (fl_at hgv _ fq_c)) (az s), ⟨z2, T2⟩, ⟨z3, T3⟩, ?_, ?_, va_AO.of (hq _ (tk_1 124 rfl)), va_AO.of (hq _ (tk_1 144 rfl))⟩
  · rcases va_Zqof (hq _ (tk_5 227 rfl)) (hq _ (tk_1 30 rfl)) (fl_at hgv _ fq_s) (az s) with h | ⟨t, h⟩
    · exact ⟨none, h⟩
    · exact ⟨some t, h⟩
  · intro C hC D hD hne
    obtain ⟨i, hi, rfl⟩ := exl_at hC
    obtain ⟨j, hj, rfl⟩ := exl_at hD
    exact va_Nc.of (fl_at hgv _ (fe_ne i hi j hj (fun e => hne (by rw [e]))))
end KS
/-- a private method of the class that StringBuilder extends -/
theorem tx_sel {s : State} {args : Array Value} {y z : MethodName} (hy : y.cls ≠ "java/lang/invoke/MethodHandle" ∧ y.cls ≠ "java/lang/invoke/VarHandle") (hc : y.cls = z.cls) (hsel : (Cond.selects "java/lang/StringBuilder" z z).before args s = true) (hpriv : (Cond.privateMethod y).before args s = true) (hinst : (Cond.instanceMethod y).before args s = true) : (Cond.selects "java/lang/StringBuilder" y y).before args s = true := by
  obtain ⟨c, r, m, h1, -, hm, -, mk, hmk, hni⟩ := Cond.selects_spec hsel
  obtain ⟨my, methM, hnamed, hmethM, -, -⟩ := Cond.instanceMethod_spec hinst
  have hfound := State.methodFound?_of_named hnamed hy
  have hcls : my.cls = m.cls := Option.some.inj ((findClass_of_methodNamed hnamed).symm.trans (by rw [hc]; exact findClass_of_methodNamed hm))
  have hs : selectMethod {} s.vm c my = .method my := selectMethod_private hmethM (Cond.privateMethod_at hpriv my methM hnamed hmethM)
  simp only [Cond.before, Cond.holds, Cond.value, h1, hfound, hnamed, hs, hcls, hmk]
  simp; exact hni
theorem hts_tx {s : State} {args : Array Value} (hq : ∀ w ∈ tables_1, w.before args s = true) : ∀ w ∈ tx_sels, w.before args s = true := by
  have h0 := (hq _ (tk_5 212 rfl))
  exact List.forall_mem_cons.mpr ⟨tx_sel (y := ({ cls := "java/lang/AbstractStringBuilder", name := "ensureCapacityInternal", desc := "(I)V" } : MethodName)) (z := ({ cls := "java/lang/AbstractStringBuilder", name := "isLatin1", desc := "()Z" } : MethodName)) ⟨by decide +kernel, by decide +kernel⟩ rfl h0 (hq _ (tk_5 181 rfl)) (hq _ (tk_5 182 rfl)), List.forall_mem_cons.mpr ⟨tx_sel (y := ({ cls := "java/lang/AbstractStringBuilder", name := "newCapacity", desc := "(I)I" } : MethodName)) (z := ({ cls := "java/lang/AbstractStringBuilder", name := "isLatin1", desc := "()Z" } : MethodName)) ⟨by decide +kernel, by decide +kernel⟩ rfl h0 (hq _ (tk_5 185 rfl)) (hq _ (tk_5 186 rfl)), List.forall_mem_cons.mpr ⟨tx_sel (y := ({ cls := "java/lang/AbstractStringBuilder", name := "putStringAt", desc := "(ILjava/lang/String;)V" } : MethodName)) (z := ({ cls := "java/lang/AbstractStringBuilder", name := "isLatin1", desc := "()Z" } : MethodName)) ⟨by decide +kernel, by decide +kernel⟩ rfl h0 (hq _ (tk_6 10 rfl)) (hq _ (tk_6 11 rfl)), List.forall_mem_cons.mpr ⟨tx_sel (y := ({ cls := "java/lang/AbstractStringBuilder", name := "inflateIfNeededFor", desc := "(Ljava/lang/String;)V" } : MethodName)) (z := ({ cls := "java/lang/AbstractStringBuilder", name := "isLatin1", desc := "()Z" } : MethodName)) ⟨by decide +kernel, by decide +kernel⟩ rfl h0 (hq _ (tk_6 14 rfl)) (hq _ (tk_6 15 rfl)), fun _ h => nomatch h⟩⟩⟩⟩
