abbrev TB : List Cond := lw_tbl.filter goodWord
theorem tb_good : ∀ w ∈ TB, (w.onTables && w.keeps) = true ∨ ∃ ty, w = .arrayClass ty := fun w hw => good_of_word (List.mem_filter.mp hw).2
theorem tb_in {w : Cond} (h : w ∈ tables_1) (hg : goodWord w = true) : w ∈ TB := List.mem_filter.mpr ⟨List.mem_append_right _ h, hg⟩
theorem tb_sel {w : Cond} (h : w ∈ k2_sels lw_privs) (hg : goodWord w = true) : w ∈ TB := List.mem_filter.mpr ⟨List.mem_append_left _ (List.mem_append_right _ h), hg⟩
theorem tb_1 {w : Cond} (i : Nat) (h1 : tables_1_1[i]? = some w) (hg : goodWord w = true) : w ∈ TB := by
  have h := List.mem_of_getElem? h1
  exact tb_in (List.mem_append_left _ h) hg
theorem tb_2 {w : Cond} (i : Nat) (h1 : tables_1_2[i]? = some w) (hg : goodWord w = true) : w ∈ TB := by
  have h := List.mem_of_getElem? h1
  exact tb_in (List.mem_append_right _ (List.mem_append_left _ h)) hg
theorem tb_3 {w : Cond} (i : Nat) (h1 : tables_1_3[i]? = some w) (hg : goodWord w = true) : w ∈ TB := by
  have h := List.mem_of_getElem? h1
  exact tb_in (List.mem_append_right _ (List.mem_append_right _ (List.mem_append_left _ h))) hg
theorem tb_4 {w : Cond} (i : Nat) (h1 : tables_1_4[i]? = some w) (hg : goodWord w = true) : w ∈ TB := by
  have h := List.mem_of_getElem? h1
  exact tb_in (List.mem_append_right _ (List.mem_append_right _ (List.mem_append_right _ (List.mem_append_left _ h)))) hg
theorem tb_5 {w : Cond} (i : Nat) (h1 : tables_1_5[i]? = some w) (hg : goodWord w = true) : w ∈ TB := by
  have h := List.mem_of_getElem? h1
  exact tb_in (List.mem_append_right _ (List.mem_append_right _ (List.mem_append_right _ (List.mem_append_right _ (List.mem_append_left _ h))))) hg
theorem tb_6 {w : Cond} (i : Nat) (h1 : tables_1_6[i]? = some w) (hg : goodWord w = true) : w ∈ TB := by
  have h := List.mem_of_getElem? h1
  exact tb_in (List.mem_append_right _ (List.mem_append_right _ (List.mem_append_right _ (List.mem_append_right _ (List.mem_append_right _ (List.mem_append_left _ h)))))) hg
theorem tb_7 {w : Cond} (i : Nat) (h1 : tables_1_7[i]? = some w) (hg : goodWord w = true) : w ∈ TB := by
  have h := List.mem_of_getElem? h1
  exact tb_in (List.mem_append_right _ (List.mem_append_right _ (List.mem_append_right _ (List.mem_append_right _ (List.mem_append_right _ (List.mem_append_right _ (List.mem_append_left _ h))))))) hg
theorem tb_8 {w : Cond} (i : Nat) (h1 : tables_1_8[i]? = some w) (hg : goodWord w = true) : w ∈ TB := by
  have h := List.mem_of_getElem? h1
  exact tb_in (List.mem_append_right _ (List.mem_append_right _ (List.mem_append_right _ (List.mem_append_right _ (List.mem_append_right _ (List.mem_append_right _ (List.mem_append_right _ (List.mem_append_left _ h)))))))) hg
theorem tb_9 {w : Cond} (i : Nat) (h1 : tables_1_9[i]? = some w) (hg : goodWord w = true) : w ∈ TB := by
  have h := List.mem_of_getElem? h1
  exact tb_in (List.mem_append_right _ (List.mem_append_right _ (List.mem_append_right _ (List.mem_append_right _ (List.mem_append_right _ (List.mem_append_right _ (List.mem_append_right _ (List.mem_append_right _ (List.mem_append_left _ h))))))))) hg
theorem tb_10 {w : Cond} (i : Nat) (h1 : tables_1_10[i]? = some w) (hg : goodWord w = true) : w ∈ TB := by
  have h := List.mem_of_getElem? h1
  exact tb_in (List.mem_append_right _ (List.mem_append_right _ (List.mem_append_right _ (List.mem_append_right _ (List.mem_append_right _ (List.mem_append_right _ (List.mem_append_right _ (List.mem_append_right _ (List.mem_append_right _ h))))))))) hg
/-- the words of links to a nest mate's members: they stay true, though they aren't among the steady ones -/
def isNest : Cond → Bool
  | .fieldLinkNest .. => true
  | .methodLinkNest .. => true
  | .declares .. => true
  | .castable .. => true
  | _ => false
def NB : List Cond := tables_1.filter isNest
def NWs (U : State) : Prop := ∀ w ∈ NB, va_Nw w U
theorem NWs.warm {s U : State} (hW : s.WarmedH U.vm) (h : NWs s) : NWs U := by
  intro w hw
  have h1 := h w hw
  have h2 := (List.mem_filter.mp hw).2
  cases w <;> first | (simp [isNest] at h2; done) | exact va_Nw.warmF hW h1 | exact va_Nw.warmM hW h1 | exact va_Nw.warmD hW h1 | exact va_Nw.warmC hW h1
theorem NWs.same {s U : State} (hv : s.vm = U.vm) (h : NWs s) : NWs U := by
  intro w hw
  have h1 := h w hw
  have h2 := (List.mem_filter.mp hw).2
  cases w <;> first | (simp [isNest] at h2; done) | exact va_Nw.same rfl hv h1
theorem NWs.of {s : State} {args : Array Value} (h : ∀ w ∈ lw_tbl, w.before args s = true) : NWs s := by
  intro w hw
  have h1 := h w (List.mem_append_right _ (List.mem_filter.mp hw).1)
  have h2 := (List.mem_filter.mp hw).2
  cases w <;> first | (simp [isNest] at h2; done) | exact va_Nw.of rfl h1
theorem nb_1 {w : Cond} (i : Nat) (h1 : tables_1_1[i]? = some w) (hg : isNest w = true) : w ∈ NB := by
  have h := List.mem_of_getElem? h1
  exact List.mem_filter.mpr ⟨(List.mem_append_left _ h), hg⟩
theorem nb_2 {w : Cond} (i : Nat) (h1 : tables_1_2[i]? = some w) (hg : isNest w = true) : w ∈ NB := by
  have h := List.mem_of_getElem? h1
  exact List.mem_filter.mpr ⟨(List.mem_append_right _ (List.mem_append_left _ h)), hg⟩
theorem nb_3 {w : Cond} (i : Nat) (h1 : tables_1_3[i]? = some w) (hg : isNest w = true) : w ∈ NB := by
  have h := List.mem_of_getElem? h1
  exact List.mem_filter.mpr ⟨(List.mem_append_right _ (List.mem_append_right _ (List.mem_append_left _ h))), hg⟩
theorem nb_4 {w : Cond} (i : Nat) (h1 : tables_1_4[i]? = some w) (hg : isNest w = true) : w ∈ NB := by
  have h := List.mem_of_getElem? h1
  exact List.mem_filter.mpr ⟨(List.mem_append_right _ (List.mem_append_right _ (List.mem_append_right _ (List.mem_append_left _ h)))), hg⟩
theorem nb_5 {w : Cond} (i : Nat) (h1 : tables_1_5[i]? = some w) (hg : isNest w = true) : w ∈ NB := by
  have h := List.mem_of_getElem? h1
  exact List.mem_filter.mpr ⟨(List.mem_append_right _ (List.mem_append_right _ (List.mem_append_right _ (List.mem_append_right _ (List.mem_append_left _ h))))), hg⟩
theorem nb_6 {w : Cond} (i : Nat) (h1 : tables_1_6[i]? = some w) (hg : isNest w = true) : w ∈ NB := by
  have h := List.mem_of_getElem? h1
  exact List.mem_filter.mpr ⟨(List.mem_append_right _ (List.mem_append_right _ (List.mem_append_right _ (List.mem_append_right _ (List.mem_append_right _ (List.mem_append_left _ h)))))), hg⟩
theorem nb_7 {w : Cond} (i : Nat) (h1 : tables_1_7[i]? = some w) (hg : isNest w = true) : w ∈ NB := by
  have h := List.mem_of_getElem? h1
  exact List.mem_filter.mpr ⟨(List.mem_append_right _ (List.mem_append_right _ (List.mem_append_right _ (List.mem_append_right _ (List.mem_append_right _ (List.mem_append_right _ (List.mem_append_left _ h))))))), hg⟩
theorem nb_8 {w : Cond} (i : Nat) (h1 : tables_1_8[i]? = some w) (hg : isNest w = true) : w ∈ NB := by
  have h := List.mem_of_getElem? h1
  exact List.mem_filter.mpr ⟨(List.mem_append_right _ (List.mem_append_right _ (List.mem_append_right _ (List.mem_append_right _ (List.mem_append_right _ (List.mem_append_right _ (List.mem_append_right _ (List.mem_append_left _ h)))))))), hg⟩
theorem nb_9 {w : Cond} (i : Nat) (h1 : tables_1_9[i]? = some w) (hg : isNest w = true) : w ∈ NB := by
  have h := List.mem_of_getElem? h1
  exact List.mem_filter.mpr ⟨(List.mem_append_right _ (List.mem_append_right _ (List.mem_append_right _ (List.mem_append_right _ (List.mem_append_right _ (List.mem_append_right _ (List.mem_append_right _ (List.mem_append_right _ (List.mem_append_left _ h))))))))), hg⟩
theorem nb_10 {w : Cond} (i : Nat) (h1 : tables_1_10[i]? = some w) (hg : isNest w = true) : w ∈ NB := by
  have h := List.mem_of_getElem? h1
  exact List.mem_filter.mpr ⟨(List.mem_append_right _ (List.mem_append_right _ (List.mem_append_right _ (List.mem_append_right _ (List.mem_append_right _ (List.mem_append_right _ (List.mem_append_right _ (List.mem_append_right _ (List.mem_append_right _ h))))))))), hg⟩
theorem tw_1_0 : (Cond.initialized "LetterRepositoryLaw") ∈ TB := tb_1 0 rfl rfl
theorem tw_1_1 : (Cond.initialized "LetterRepository") ∈ TB := tb_1 1 rfl rfl
theorem tw_1_2 : (Cond.initialized "LetterRepository$Store") ∈ TB := tb_1 2 rfl rfl
theorem tw_1_3 : (Cond.initialized "LetterRepository$Revisions") ∈ TB := tb_1 3 rfl rfl
theorem tw_1_4 : (Cond.initialized "LetterRepository$Row") ∈ TB := tb_1 4 rfl rfl
theorem tw_1_5 : (Cond.initialized "LetterRepository$History") ∈ TB := tb_1 5 rfl rfl
theorem tw_1_6 : (Cond.initialized "LetterRepository$Program") ∈ TB := tb_1 6 rfl rfl
theorem tw_1_7 : (Cond.initialized "LetterRepository$Command") ∈ TB := tb_1 7 rfl rfl
theorem tw_1_8 : (Cond.initialized "java/lang/Enum") ∈ TB := tb_1 8 rfl rfl
theorem tw_1_9 : (Cond.initialized "LetterRepository$Kind") ∈ TB := tb_1 9 rfl rfl
theorem tw_1_10 : (Cond.initialized "java/lang/AbstractStringBuilder") ∈ TB := tb_1 10 rfl rfl
theorem tw_1_11 : (Cond.initialized "java/lang/StringBuilder") ∈ TB := tb_1 11 rfl rfl
theorem tw_1_12 : (Cond.initialized "java/lang/String") ∈ TB := tb_1 12 rfl rfl
theorem tw_1_13 : (Cond.initialized "java/lang/StringUTF16") ∈ TB := tb_1 13 rfl rfl
theorem tw_1_14 : (Cond.initialized "LetterRepositoryModel") ∈ TB := tb_1 14 rfl rfl
theorem tw_1_15 : (Cond.initialized "LetterRepository$Refusal") ∈ TB := tb_1 15 rfl rfl
theorem tw_1_16 : (Cond.initialized "java/lang/Throwable") ∈ TB := tb_1 16 rfl rfl
theorem tw_1_17 : (Cond.initialized "java/lang/Exception") ∈ TB := tb_1 17 rfl rfl
theorem tw_1_18 : (Cond.initialized "java/lang/RuntimeException") ∈ TB := tb_1 18 rfl rfl
theorem tw_1_19 : (Cond.initialized "java/lang/IndexOutOfBoundsException") ∈ TB := tb_1 19 rfl rfl
theorem tw_1_20 : (Cond.initialized "java/lang/IllegalArgumentException") ∈ TB := tb_1 20 rfl rfl
theorem tw_1_21 : (Cond.initialized "java/util/NoSuchElementException") ∈ TB := tb_1 21 rfl rfl
theorem tw_1_22 : (Cond.initialized "java/lang/IllegalStateException") ∈ TB := tb_1 22 rfl rfl
theorem tw_1_23 : (Cond.initialized "java/lang/Math") ∈ TB := tb_1 23 rfl rfl
theorem tw_1_24 : (Cond.initialized "java/lang/System") ∈ TB := tb_1 24 rfl rfl
theorem tw_1_25 : (Cond.initialized "java/lang/Number") ∈ TB := tb_1 25 rfl rfl
theorem tw_1_26 : (Cond.initialized "java/lang/Integer") ∈ TB := tb_1 26 rfl rfl
theorem tw_1_27 : (Cond.initialized "java/lang/StringIndexOutOfBoundsException") ∈ TB := tb_1 27 rfl rfl
theorem tw_1_28 : (Cond.initialized "jdk/internal/util/ArraysSupport") ∈ TB := tb_1 28 rfl rfl
theorem tw_1_29 : (Cond.initialized "java/util/Arrays") ∈ TB := tb_1 29 rfl rfl
theorem tw_1_30 : (Cond.initialized "jdk/internal/util/Preconditions") ∈ TB := tb_1 30 rfl rfl
theorem tw_1_31 : (Cond.initialized "java/lang/StringLatin1") ∈ TB := tb_1 31 rfl rfl
theorem tw_1_32 : (Cond.initialized "java/lang/ArrayIndexOutOfBoundsException") ∈ TB := tb_1 32 rfl rfl
theorem tw_1_33 : (Cond.initialized "LetterRepository$1") ∈ TB := tb_1 33 rfl rfl
theorem tw_1_34 : (Cond.classLink "LetterRepositoryLaw" (8 : Nat) "LetterRepository") ∈ TB := tb_1 34 rfl rfl
theorem tw_1_35 : (Cond.instantiable "LetterRepository" (9 : Nat)) ∈ TB := tb_1 35 rfl rfl
theorem tw_1_36 : (Cond.methodLink "LetterRepositoryLaw" (174 : Nat) ({ cls := "LetterRepository", name := "<init>", desc := "()V" } : MethodName)) ∈ TB := tb_1 36 rfl rfl
theorem tw_1_37 : (Cond.instanceMethod ({ cls := "LetterRepository", name := "<init>", desc := "()V" } : MethodName)) ∈ TB := tb_1 37 rfl rfl
theorem tw_1_38 : (Cond.code ({ cls := "LetterRepository", name := "<init>", desc := "()V" } : MethodName) prog_1_method_1_code (1 : Nat) (none : Option FieldType)) ∈ TB := tb_1 38 rfl rfl
theorem tw_1_39 : (Cond.methodLink "LetterRepository" (1 : Nat) ({ cls := "java/lang/Object", name := "<init>", desc := "()V" } : MethodName)) ∈ TB := tb_1 39 rfl rfl
theorem tw_1_40 : (Cond.instanceMethod ({ cls := "java/lang/Object", name := "<init>", desc := "()V" } : MethodName)) ∈ TB := tb_1 40 rfl rfl
theorem tw_1_41 : (Cond.code ({ cls := "java/lang/Object", name := "<init>", desc := "()V" } : MethodName) object_method_1_code (1 : Nat) (none : Option FieldType)) ∈ TB := tb_1 41 rfl rfl
theorem tw_1_42 : (Cond.classLink "LetterRepository" (7 : Nat) "LetterRepository$Store") ∈ TB := tb_1 42 rfl rfl
theorem tw_1_43 : (Cond.instantiable "LetterRepository$Store" (5 : Nat)) ∈ TB := tb_1 43 rfl rfl
theorem tw_1_44 : (Cond.methodLinkNest "LetterRepository" (9 : Nat) ({ cls := "LetterRepository$Store", name := "<init>", desc := "()V" } : MethodName) "LetterRepository") ∈ NB := nb_1 44 rfl rfl
theorem tw_1_45 : (Cond.instanceMethod ({ cls := "LetterRepository$Store", name := "<init>", desc := "()V" } : MethodName)) ∈ TB := tb_1 45 rfl rfl
theorem tw_1_46 : (Cond.code ({ cls := "LetterRepository$Store", name := "<init>", desc := "()V" } : MethodName) prog_10_method_1_code (1 : Nat) (none : Option FieldType)) ∈ TB := tb_1 46 rfl rfl
theorem tw_1_47 : (Cond.methodLink "LetterRepository$Store" (3 : Nat) ({ cls := "java/lang/Object", name := "<init>", desc := "()V" } : MethodName)) ∈ TB := tb_1 47 rfl rfl
theorem tw_1_48 : (Cond.classLink "LetterRepository$Store" (9 : Nat) "LetterRepository$Revisions") ∈ TB := tb_1 48 rfl rfl
theorem tw_1_49 : (Cond.instantiable "LetterRepository$Revisions" (8 : Nat)) ∈ TB := tb_1 49 rfl rfl
theorem tw_1_50 : (Cond.methodLinkNest "LetterRepository$Store" (11 : Nat) ({ cls := "LetterRepository$Revisions", name := "<init>", desc := "()V" } : MethodName) "LetterRepository") ∈ NB := nb_1 50 rfl rfl
theorem tw_1_51 : (Cond.instanceMethod ({ cls := "LetterRepository$Revisions", name := "<init>", desc := "()V" } : MethodName)) ∈ TB := tb_1 51 rfl rfl
theorem tw_1_52 : (Cond.code ({ cls := "LetterRepository$Revisions", name := "<init>", desc := "()V" } : MethodName) prog_8_method_1_code (1 : Nat) (none : Option FieldType)) ∈ TB := tb_1 52 rfl rfl
theorem tw_1_53 : (Cond.methodLink "LetterRepository$Revisions" (3 : Nat) ({ cls := "java/lang/Object", name := "<init>", desc := "()V" } : MethodName)) ∈ TB := tb_1 53 rfl rfl
theorem tw_1_54 : (Cond.classLink "LetterRepository$Revisions" (9 : Nat) "LetterRepository$Row") ∈ TB := tb_1 54 rfl rfl
theorem tw_1_55 : (Cond.instantiable "LetterRepository$Row" (1 : Nat)) ∈ TB := tb_1 55 rfl rfl
theorem tw_1_56 : (Cond.methodLink "LetterRepository$Revisions" (11 : Nat) ({ cls := "LetterRepository$Row", name := "<init>", desc := "(II)V" } : MethodName)) ∈ TB := tb_1 56 rfl rfl
theorem tw_1_57 : (Cond.instanceMethod ({ cls := "LetterRepository$Row", name := "<init>", desc := "(II)V" } : MethodName)) ∈ TB := tb_1 57 rfl rfl
theorem tw_1_58 : (Cond.code ({ cls := "LetterRepository$Row", name := "<init>", desc := "(II)V" } : MethodName) prog_9_method_1_code (4 : Nat) (none : Option FieldType)) ∈ TB := tb_1 58 rfl rfl
theorem tw_1_59 : (Cond.methodLink "LetterRepository$Row" (3 : Nat) ({ cls := "java/lang/Object", name := "<init>", desc := "()V" } : MethodName)) ∈ TB := tb_1 59 rfl rfl
theorem tw_1_60 : (Cond.fieldLink "LetterRepository$Row" (9 : Nat) "LetterRepository$Row" "cells" "[I") ∈ TB := tb_1 60 rfl rfl
theorem tw_1_61 : (Cond.laysFinal "LetterRepository$Row" "LetterRepository$Row" "cells" "[I") ∈ TB := tb_1 61 rfl rfl
theorem tw_1_62 : (Cond.soleField "LetterRepository$Row" "cells") ∈ TB := tb_1 62 rfl rfl
theorem tw_1_63 : (Cond.superclass "LetterRepository$Row" "java/lang/Object") ∈ TB := tb_1 63 rfl rfl
theorem tw_1_64 : (Cond.arrayClass FieldType.int) ∈ TB := tb_1 64 rfl rfl
theorem tw_1_65 : (Cond.methodLinkNest "LetterRepository$Revisions" (29 : Nat) ({ cls := "LetterRepository", name := "setOf", desc := "(I)I" } : MethodName) "LetterRepository") ∈ NB := nb_1 65 rfl rfl
theorem tw_1_66 : (Cond.static ({ cls := "LetterRepository", name := "setOf", desc := "(I)I" } : MethodName)) ∈ TB := tb_1 66 rfl rfl
theorem tw_1_67 : (Cond.code ({ cls := "LetterRepository", name := "setOf", desc := "(I)I" } : MethodName) prog_1_method_75_code (1 : Nat) (some FieldType.int)) ∈ TB := tb_1 67 rfl rfl
theorem tw_1_68 : (Cond.fieldLink "LetterRepository$Revisions" (14 : Nat) "LetterRepository$Revisions" "firstParents" "LLetterRepository$Row;") ∈ TB := tb_1 68 rfl rfl
theorem tw_1_69 : (Cond.fieldLink "LetterRepository$Revisions" (20 : Nat) "LetterRepository$Revisions" "secondParents" "LLetterRepository$Row;") ∈ TB := tb_1 69 rfl rfl
theorem tw_1_70 : (Cond.fieldLink "LetterRepository$Revisions" (23 : Nat) "LetterRepository$Revisions" "authors" "LLetterRepository$Row;") ∈ TB := tb_1 70 rfl rfl
theorem tw_1_71 : (Cond.fieldLink "LetterRepository$Revisions" (26 : Nat) "LetterRepository$Revisions" "generations" "LLetterRepository$Row;") ∈ TB := tb_1 71 rfl rfl
theorem tw_1_72 : (Cond.fieldLink "LetterRepository$Revisions" (33 : Nat) "LetterRepository$Revisions" "ancestorSets" "LLetterRepository$Row;") ∈ TB := tb_1 72 rfl rfl
theorem tw_1_73 : (Cond.fieldLink "LetterRepository$Revisions" (36 : Nat) "LetterRepository$Revisions" "letters" "LLetterRepository$Row;") ∈ TB := tb_1 73 rfl rfl
theorem tw_1_74 : (Cond.fieldLink "LetterRepository$Revisions" (47 : Nat) "LetterRepository$Revisions" "archived" "I") ∈ TB := tb_1 74 rfl rfl
theorem tw_1_75 : (Cond.fieldLinkNest "LetterRepository$Store" (185 : Nat) "LetterRepository$Revisions" "archived" "I" "LetterRepository") ∈ NB := nb_1 75 rfl rfl
theorem tw_1_76 : (Cond.fieldLinkNest "LetterRepository" (288 : Nat) "LetterRepository$Revisions" "archived" "I" "LetterRepository") ∈ NB := nb_1 76 rfl rfl
theorem tw_1_77 : (Cond.fieldLink "LetterRepository$Revisions" (39 : Nat) "LetterRepository$Revisions" "count" "I") ∈ TB := tb_1 77 rfl rfl
theorem tw_1_78 : (Cond.fieldLinkNest "LetterRepository" (135 : Nat) "LetterRepository$Revisions" "count" "I" "LetterRepository") ∈ NB := nb_1 78 rfl rfl
theorem tw_1_79 : (Cond.fieldLinkNest "LetterRepository$Store" (191 : Nat) "LetterRepository$Revisions" "count" "I" "LetterRepository") ∈ NB := nb_1 79 rfl rfl
theorem tw_1_80 : (Cond.laysFinal "LetterRepository$Revisions" "LetterRepository$Revisions" "firstParents" "LLetterRepository$Row;") ∈ TB := tb_1 80 rfl rfl
theorem tw_1_81 : (Cond.soleField "LetterRepository$Revisions" "firstParents") ∈ TB := tb_1 81 rfl rfl
theorem tw_1_82 : (Cond.laysFinal "LetterRepository$Revisions" "LetterRepository$Revisions" "secondParents" "LLetterRepository$Row;") ∈ TB := tb_1 82 rfl rfl
theorem tw_1_83 : (Cond.soleField "LetterRepository$Revisions" "secondParents") ∈ TB := tb_1 83 rfl rfl
theorem tw_1_84 : (Cond.laysFinal "LetterRepository$Revisions" "LetterRepository$Revisions" "authors" "LLetterRepository$Row;") ∈ TB := tb_1 84 rfl rfl
theorem tw_1_85 : (Cond.soleField "LetterRepository$Revisions" "authors") ∈ TB := tb_1 85 rfl rfl
theorem tw_1_86 : (Cond.laysFinal "LetterRepository$Revisions" "LetterRepository$Revisions" "generations" "LLetterRepository$Row;") ∈ TB := tb_1 86 rfl rfl
theorem tw_1_87 : (Cond.soleField "LetterRepository$Revisions" "generations") ∈ TB := tb_1 87 rfl rfl
theorem tw_1_88 : (Cond.laysFinal "LetterRepository$Revisions" "LetterRepository$Revisions" "ancestorSets" "LLetterRepository$Row;") ∈ TB := tb_1 88 rfl rfl
theorem tw_1_89 : (Cond.soleField "LetterRepository$Revisions" "ancestorSets") ∈ TB := tb_1 89 rfl rfl
theorem tw_1_90 : (Cond.laysFinal "LetterRepository$Revisions" "LetterRepository$Revisions" "letters" "LLetterRepository$Row;") ∈ TB := tb_1 90 rfl rfl
theorem tw_1_91 : (Cond.soleField "LetterRepository$Revisions" "letters") ∈ TB := tb_1 91 rfl rfl
theorem tw_1_92 : (Cond.lays "LetterRepository$Revisions" "LetterRepository$Revisions" "archived" "I") ∈ TB := tb_1 92 rfl rfl
theorem tw_1_93 : (Cond.soleField "LetterRepository$Revisions" "archived") ∈ TB := tb_1 93 rfl rfl
theorem tw_1_94 : (Cond.lays "LetterRepository$Revisions" "LetterRepository$Revisions" "count" "I") ∈ TB := tb_1 94 rfl rfl
theorem tw_1_95 : (Cond.soleField "LetterRepository$Revisions" "count") ∈ TB := tb_1 95 rfl rfl
theorem tw_1_96 : (Cond.superclass "LetterRepository$Revisions" "java/lang/Object") ∈ TB := tb_1 96 rfl rfl
theorem tw_1_97 : (Cond.classLink "LetterRepository$Store" (18 : Nat) "LetterRepository$Row") ∈ TB := tb_1 97 rfl rfl
theorem tw_1_98 : (Cond.methodLink "LetterRepository$Store" (20 : Nat) ({ cls := "LetterRepository$Row", name := "<init>", desc := "(II)V" } : MethodName)) ∈ TB := tb_1 98 rfl rfl
theorem tw_1_99 : (Cond.fieldLink "LetterRepository$Store" (12 : Nat) "LetterRepository$Store" "revisions" "LLetterRepository$Revisions;") ∈ TB := tb_1 99 rfl rfl
theorem tw_1_100 : (Cond.fieldLinkNest "LetterRepository" (131 : Nat) "LetterRepository$Store" "revisions" "LLetterRepository$Revisions;" "LetterRepository") ∈ NB := nb_1 100 rfl rfl
theorem tw_1_101 : (Cond.fieldLink "LetterRepository$Store" (23 : Nat) "LetterRepository$Store" "heads" "LLetterRepository$Row;") ∈ TB := tb_1 101 rfl rfl
theorem tw_1_102 : (Cond.fieldLink "LetterRepository$Store" (27 : Nat) "LetterRepository$Store" "working" "LLetterRepository$Row;") ∈ TB := tb_1 102 rfl rfl
theorem tw_1_103 : (Cond.fieldLink "LetterRepository$Store" (30 : Nat) "LetterRepository$Store" "tags" "LLetterRepository$Row;") ∈ TB := tb_1 103 rfl rfl
theorem tw_1_104 : (Cond.fieldLink "LetterRepository$Store" (33 : Nat) "LetterRepository$Store" "branchCount" "I") ∈ TB := tb_1 104 rfl rfl
theorem tw_1_105 : (Cond.fieldLinkNest "LetterRepository" (213 : Nat) "LetterRepository$Store" "branchCount" "I" "LetterRepository") ∈ NB := nb_1 105 rfl rfl
theorem tw_1_106 : (Cond.laysFinal "LetterRepository$Store" "LetterRepository$Store" "revisions" "LLetterRepository$Revisions;") ∈ TB := tb_1 106 rfl rfl
theorem tw_1_107 : (Cond.soleField "LetterRepository$Store" "revisions") ∈ TB := tb_1 107 rfl rfl
theorem tw_1_108 : (Cond.laysFinal "LetterRepository$Store" "LetterRepository$Store" "heads" "LLetterRepository$Row;") ∈ TB := tb_1 108 rfl rfl
theorem tw_1_109 : (Cond.soleField "LetterRepository$Store" "heads") ∈ TB := tb_1 109 rfl rfl
theorem tw_1_110 : (Cond.laysFinal "LetterRepository$Store" "LetterRepository$Store" "working" "LLetterRepository$Row;") ∈ TB := tb_1 110 rfl rfl
theorem tw_1_111 : (Cond.soleField "LetterRepository$Store" "working") ∈ TB := tb_1 111 rfl rfl
theorem tw_1_112 : (Cond.laysFinal "LetterRepository$Store" "LetterRepository$Store" "tags" "LLetterRepository$Row;") ∈ TB := tb_1 112 rfl rfl
theorem tw_1_113 : (Cond.soleField "LetterRepository$Store" "tags") ∈ TB := tb_1 113 rfl rfl
theorem tw_1_114 : (Cond.lays "LetterRepository$Store" "LetterRepository$Store" "branchCount" "I") ∈ TB := tb_1 114 rfl rfl
theorem tw_1_115 : (Cond.soleField "LetterRepository$Store" "branchCount") ∈ TB := tb_1 115 rfl rfl
theorem tw_1_116 : (Cond.superclass "LetterRepository$Store" "java/lang/Object") ∈ TB := tb_1 116 rfl rfl
theorem tw_1_117 : (Cond.classLink "LetterRepository" (19 : Nat) "LetterRepository$History") ∈ TB := tb_1 117 rfl rfl
theorem tw_1_118 : (Cond.instantiable "LetterRepository$History" (3 : Nat)) ∈ TB := tb_1 118 rfl rfl
theorem tw_1_119 : (Cond.methodLink "LetterRepository" (21 : Nat) ({ cls := "LetterRepository$History", name := "<init>", desc := "()V" } : MethodName)) ∈ TB := tb_1 119 rfl rfl
theorem tw_1_120 : (Cond.instanceMethod ({ cls := "LetterRepository$History", name := "<init>", desc := "()V" } : MethodName)) ∈ TB := tb_1 120 rfl rfl
theorem tw_1_121 : (Cond.code ({ cls := "LetterRepository$History", name := "<init>", desc := "()V" } : MethodName) prog_4_method_1_code (2 : Nat) (none : Option FieldType)) ∈ TB := tb_1 121 rfl rfl
theorem tw_1_122 : (Cond.methodLink "LetterRepository$History" (3 : Nat) ({ cls := "java/lang/Object", name := "<init>", desc := "()V" } : MethodName)) ∈ TB := tb_1 122 rfl rfl
theorem tw_1_123 : (Cond.classLink "LetterRepository$History" (9 : Nat) "LetterRepository$Store") ∈ TB := tb_1 123 rfl rfl
theorem tw_1_125 : (Cond.methodLinkNest "LetterRepository$History" (17 : Nat) ({ cls := "LetterRepository$Store", name := "<init>", desc := "()V" } : MethodName) "LetterRepository") ∈ NB := nb_1 125 rfl rfl
theorem tw_1_126 : (Cond.fieldLink "LetterRepository$History" (11 : Nat) "LetterRepository$History" "slots" "[LLetterRepository$Store;") ∈ TB := tb_1 126 rfl rfl
theorem tw_1_127 : (Cond.fieldLink "LetterRepository$History" (18 : Nat) "LetterRepository$History" "spare" "I") ∈ TB := tb_1 127 rfl rfl
theorem tw_1_128 : (Cond.fieldLink "LetterRepository$History" (30 : Nat) "LetterRepository$History" "count" "I") ∈ TB := tb_1 128 rfl rfl
theorem tw_1_129 : (Cond.fieldLinkNest "LetterRepository" (369 : Nat) "LetterRepository$History" "count" "I" "LetterRepository") ∈ NB := nb_1 129 rfl rfl
theorem tw_1_130 : (Cond.laysFinal "LetterRepository$History" "LetterRepository$History" "slots" "[LLetterRepository$Store;") ∈ TB := tb_1 130 rfl rfl
theorem tw_1_131 : (Cond.soleField "LetterRepository$History" "slots") ∈ TB := tb_1 131 rfl rfl
theorem tw_1_132 : (Cond.lays "LetterRepository$History" "LetterRepository$History" "spare" "I") ∈ TB := tb_1 132 rfl rfl
theorem tw_1_133 : (Cond.soleField "LetterRepository$History" "spare") ∈ TB := tb_1 133 rfl rfl
theorem tw_1_134 : (Cond.lays "LetterRepository$History" "LetterRepository$History" "count" "I") ∈ TB := tb_1 134 rfl rfl
theorem tw_1_135 : (Cond.soleField "LetterRepository$History" "count") ∈ TB := tb_1 135 rfl rfl
theorem tw_1_136 : (Cond.superclass "LetterRepository$History" "java/lang/Object") ∈ TB := tb_1 136 rfl rfl
theorem tw_1_137 : (Cond.classLink "LetterRepository" (26 : Nat) "LetterRepository$Program") ∈ TB := tb_1 137 rfl rfl
theorem tw_1_138 : (Cond.instantiable "LetterRepository$Program" (4 : Nat)) ∈ TB := tb_1 138 rfl rfl
theorem tw_1_139 : (Cond.methodLink "LetterRepository" (28 : Nat) ({ cls := "LetterRepository$Program", name := "<init>", desc := "()V" } : MethodName)) ∈ TB := tb_1 139 rfl rfl
theorem tw_1_140 : (Cond.instanceMethod ({ cls := "LetterRepository$Program", name := "<init>", desc := "()V" } : MethodName)) ∈ TB := tb_1 140 rfl rfl
theorem tw_1_141 : (Cond.code ({ cls := "LetterRepository$Program", name := "<init>", desc := "()V" } : MethodName) prog_6_method_1_code (2 : Nat) (none : Option FieldType)) ∈ TB := tb_1 141 rfl rfl
theorem tw_1_142 : (Cond.methodLink "LetterRepository$Program" (3 : Nat) ({ cls := "java/lang/Object", name := "<init>", desc := "()V" } : MethodName)) ∈ TB := tb_1 142 rfl rfl
theorem tw_1_143 : (Cond.classLink "LetterRepository$Program" (9 : Nat) "LetterRepository$Command") ∈ TB := tb_1 143 rfl rfl
theorem tw_1_145 : (Cond.instantiable "LetterRepository$Command" (3 : Nat)) ∈ TB := tb_1 145 rfl rfl
theorem tw_1_146 : (Cond.methodLinkNest "LetterRepository$Program" (21 : Nat) ({ cls := "LetterRepository$Command", name := "<init>", desc := "()V" } : MethodName) "LetterRepository") ∈ NB := nb_1 146 rfl rfl
theorem tw_1_147 : (Cond.instanceMethod ({ cls := "LetterRepository$Command", name := "<init>", desc := "()V" } : MethodName)) ∈ TB := tb_1 147 rfl rfl
theorem tw_1_148 : (Cond.code ({ cls := "LetterRepository$Command", name := "<init>", desc := "()V" } : MethodName) prog_3_method_1_code (1 : Nat) (none : Option FieldType)) ∈ TB := tb_1 148 rfl rfl
theorem tw_1_149 : (Cond.methodLink "LetterRepository$Command" (3 : Nat) ({ cls := "java/lang/Object", name := "<init>", desc := "()V" } : MethodName)) ∈ TB := tb_1 149 rfl rfl
theorem tw_1_150 : (Cond.classLink "LetterRepository$Command" (9 : Nat) "LetterRepository$Row") ∈ TB := tb_1 150 rfl rfl
theorem tw_1_151 : (Cond.methodLink "LetterRepository$Command" (11 : Nat) ({ cls := "LetterRepository$Row", name := "<init>", desc := "(II)V" } : MethodName)) ∈ TB := tb_1 151 rfl rfl
theorem tw_1_152 : (Cond.fieldLink "LetterRepository$Command" (20 : Nat) "LetterRepository$Kind" "ARCHIVE" "LLetterRepository$Kind;") ∈ TB := tb_1 152 rfl rfl
theorem tw_1_154 : (Cond.fieldLink "LetterRepository$Command" (14 : Nat) "LetterRepository$Command" "arguments" "LLetterRepository$Row;") ∈ TB := tb_1 154 rfl rfl
theorem tw_1_155 : (Cond.fieldLink "LetterRepository$Command" (26 : Nat) "LetterRepository$Command" "kind" "LLetterRepository$Kind;") ∈ TB := tb_1 155 rfl rfl
theorem tw_1_156 : (Cond.fieldLinkNest "LetterRepository$Store" (214 : Nat) "LetterRepository$Command" "kind" "LLetterRepository$Kind;" "LetterRepository") ∈ NB := nb_1 156 rfl rfl
theorem tw_1_157 : (Cond.fieldLink "LetterRepository$Command" (29 : Nat) "LetterRepository$Command" "size" "I") ∈ TB := tb_1 157 rfl rfl
theorem tw_1_158 : (Cond.laysFinal "LetterRepository$Command" "LetterRepository$Command" "arguments" "LLetterRepository$Row;") ∈ TB := tb_1 158 rfl rfl
theorem tw_1_159 : (Cond.soleField "LetterRepository$Command" "arguments") ∈ TB := tb_1 159 rfl rfl
theorem tw_1_160 : (Cond.lays "LetterRepository$Command" "LetterRepository$Command" "kind" "LLetterRepository$Kind;") ∈ TB := tb_1 160 rfl rfl
theorem tw_1_161 : (Cond.soleField "LetterRepository$Command" "kind") ∈ TB := tb_1 161 rfl rfl
theorem tw_1_162 : (Cond.lays "LetterRepository$Command" "LetterRepository$Command" "size" "I") ∈ TB := tb_1 162 rfl rfl
theorem tw_1_163 : (Cond.soleField "LetterRepository$Command" "size") ∈ TB := tb_1 163 rfl rfl
theorem tw_1_164 : (Cond.superclass "LetterRepository$Command" "java/lang/Object") ∈ TB := tb_1 164 rfl rfl
theorem tw_1_165 : (Cond.fieldLink "LetterRepository$Program" (11 : Nat) "LetterRepository$Program" "commands" "[LLetterRepository$Command;") ∈ TB := tb_1 165 rfl rfl
theorem tw_1_166 : (Cond.fieldLink "LetterRepository$Program" (22 : Nat) "LetterRepository$Program" "count" "I") ∈ TB := tb_1 166 rfl rfl
theorem tw_1_167 : (Cond.fieldLinkNest "LetterRepository" (348 : Nat) "LetterRepository$Program" "count" "I" "LetterRepository") ∈ NB := nb_1 167 rfl rfl
theorem tw_1_168 : (Cond.fieldLink "LetterRepository$Program" (17 : Nat) "LetterRepository$Program" "error" "I") ∈ TB := tb_1 168 rfl rfl
theorem tw_1_169 : (Cond.fieldLinkNest "LetterRepository" (339 : Nat) "LetterRepository$Program" "error" "I" "LetterRepository") ∈ NB := nb_1 169 rfl rfl
theorem tw_1_170 : (Cond.fieldLink "LetterRepository$Program" (25 : Nat) "LetterRepository$Program" "position" "I") ∈ TB := tb_1 170 rfl rfl
theorem tw_1_171 : (Cond.laysFinal "LetterRepository$Program" "LetterRepository$Program" "commands" "[LLetterRepository$Command;") ∈ TB := tb_1 171 rfl rfl
theorem tw_1_172 : (Cond.soleField "LetterRepository$Program" "commands") ∈ TB := tb_1 172 rfl rfl
theorem tw_1_173 : (Cond.lays "LetterRepository$Program" "LetterRepository$Program" "count" "I") ∈ TB := tb_1 173 rfl rfl
theorem tw_1_174 : (Cond.soleField "LetterRepository$Program" "count") ∈ TB := tb_1 174 rfl rfl
theorem tw_1_175 : (Cond.lays "LetterRepository$Program" "LetterRepository$Program" "error" "I") ∈ TB := tb_1 175 rfl rfl
theorem tw_1_176 : (Cond.soleField "LetterRepository$Program" "error") ∈ TB := tb_1 176 rfl rfl
theorem tw_1_177 : (Cond.lays "LetterRepository$Program" "LetterRepository$Program" "position" "I") ∈ TB := tb_1 177 rfl rfl
theorem tw_1_178 : (Cond.soleField "LetterRepository$Program" "position") ∈ TB := tb_1 178 rfl rfl
theorem tw_1_179 : (Cond.superclass "LetterRepository$Program" "java/lang/Object") ∈ TB := tb_1 179 rfl rfl
theorem tw_1_180 : (Cond.classLink "LetterRepository" (33 : Nat) "java/lang/StringBuilder") ∈ TB := tb_1 180 rfl rfl
theorem tw_1_181 : (Cond.instantiable "java/lang/StringBuilder" (4 : Nat)) ∈ TB := tb_1 181 rfl rfl
theorem tw_1_182 : (Cond.methodLink "LetterRepository" (35 : Nat) ({ cls := "java/lang/StringBuilder", name := "<init>", desc := "()V" } : MethodName)) ∈ TB := tb_1 182 rfl rfl
theorem tw_1_183 : (Cond.instanceMethod ({ cls := "java/lang/StringBuilder", name := "<init>", desc := "()V" } : MethodName)) ∈ TB := tb_1 183 rfl rfl
theorem tw_1_184 : (Cond.code ({ cls := "java/lang/StringBuilder", name := "<init>", desc := "()V" } : MethodName) prog_30_method_1_code (1 : Nat) (none : Option FieldType)) ∈ TB := tb_1 184 rfl rfl
theorem tw_1_185 : (Cond.methodLink "java/lang/StringBuilder" (1 : Nat) ({ cls := "java/lang/AbstractStringBuilder", name := "<init>", desc := "(I)V" } : MethodName)) ∈ TB := tb_1 185 rfl rfl
theorem tw_1_186 : (Cond.instanceMethod ({ cls := "java/lang/AbstractStringBuilder", name := "<init>", desc := "(I)V" } : MethodName)) ∈ TB := tb_1 186 rfl rfl
theorem tw_1_187 : (Cond.code ({ cls := "java/lang/AbstractStringBuilder", name := "<init>", desc := "(I)V" } : MethodName) prog_14_method_2_code (2 : Nat) (none : Option FieldType)) ∈ TB := tb_1 187 rfl rfl
theorem tw_1_188 : (Cond.methodLink "java/lang/AbstractStringBuilder" (3 : Nat) ({ cls := "java/lang/Object", name := "<init>", desc := "()V" } : MethodName)) ∈ TB := tb_1 188 rfl rfl
theorem tw_1_189 : (Cond.fieldLink "java/lang/AbstractStringBuilder" (18 : Nat) "java/lang/String" "COMPACT_STRINGS" "Z") ∈ TB := tb_1 189 rfl rfl
theorem tw_1_191 : (Cond.methodLink "java/lang/AbstractStringBuilder" (26 : Nat) ({ cls := "java/lang/StringUTF16", name := "newBytesFor", desc := "(I)[B" } : MethodName)) ∈ TB := tb_1 191 rfl rfl
theorem tw_1_192 : (Cond.static ({ cls := "java/lang/StringUTF16", name := "newBytesFor", desc := "(I)[B" } : MethodName)) ∈ TB := tb_1 192 rfl rfl
theorem tw_1_193 : (Cond.code ({ cls := "java/lang/StringUTF16", name := "newBytesFor", desc := "(I)[B" } : MethodName) prog_33_method_2_code (1 : Nat) (some (FieldType.array FieldType.byte))) ∈ TB := tb_1 193 rfl rfl
theorem tw_1_194 : (Cond.methodLink "java/lang/StringUTF16" (11 : Nat) ({ cls := "java/lang/StringUTF16", name := "newBytesLength", desc := "(I)I" } : MethodName)) ∈ TB := tb_1 194 rfl rfl
theorem tw_1_195 : (Cond.static ({ cls := "java/lang/StringUTF16", name := "newBytesLength", desc := "(I)I" } : MethodName)) ∈ TB := tb_1 195 rfl rfl
theorem tw_1_196 : (Cond.code ({ cls := "java/lang/StringUTF16", name := "newBytesLength", desc := "(I)I" } : MethodName) prog_33_method_3_code (1 : Nat) (some FieldType.int)) ∈ TB := tb_1 196 rfl rfl
theorem tw_1_197 : (Cond.constant "java/lang/StringUTF16" (20 : Nat) (1073741823 : Int32)) ∈ TB := tb_1 197 rfl rfl
theorem tw_1_198 : (Cond.fieldLink "java/lang/AbstractStringBuilder" (15 : Nat) "java/lang/AbstractStringBuilder" "value" "[B") ∈ TB := tb_1 198 rfl rfl
theorem tw_1_199 : (Cond.fieldLink "java/lang/AbstractStringBuilder" (22 : Nat) "java/lang/AbstractStringBuilder" "coder" "B") ∈ TB := tb_1 199 rfl rfl
theorem tw_1_200 : (Cond.fieldLink "java/lang/AbstractStringBuilder" (73 : Nat) "java/lang/AbstractStringBuilder" "maybeLatin1" "Z") ∈ TB := tb_1 200 rfl rfl
theorem tw_1_201 : (Cond.fieldLink "java/lang/String" (1048 : Nat) "java/lang/AbstractStringBuilder" "maybeLatin1" "Z") ∈ TB := tb_1 201 rfl rfl
theorem tw_1_202 : (Cond.fieldLink "java/lang/AbstractStringBuilder" (79 : Nat) "java/lang/AbstractStringBuilder" "count" "I") ∈ TB := tb_1 202 rfl rfl
theorem tw_1_203 : (Cond.lays "java/lang/StringBuilder" "java/lang/AbstractStringBuilder" "value" "[B") ∈ TB := tb_1 203 rfl rfl
theorem tw_1_204 : (Cond.soleField "java/lang/AbstractStringBuilder" "value") ∈ TB := tb_1 204 rfl rfl
theorem tw_1_205 : (Cond.lays "java/lang/StringBuilder" "java/lang/AbstractStringBuilder" "coder" "B") ∈ TB := tb_1 205 rfl rfl
theorem tw_1_206 : (Cond.soleField "java/lang/AbstractStringBuilder" "coder") ∈ TB := tb_1 206 rfl rfl
theorem tw_1_207 : (Cond.lays "java/lang/StringBuilder" "java/lang/AbstractStringBuilder" "maybeLatin1" "Z") ∈ TB := tb_1 207 rfl rfl
theorem tw_1_208 : (Cond.soleField "java/lang/AbstractStringBuilder" "maybeLatin1") ∈ TB := tb_1 208 rfl rfl
theorem tw_1_209 : (Cond.lays "java/lang/StringBuilder" "java/lang/AbstractStringBuilder" "count" "I") ∈ TB := tb_1 209 rfl rfl
theorem tw_1_210 : (Cond.soleField "java/lang/AbstractStringBuilder" "count") ∈ TB := tb_1 210 rfl rfl
theorem tw_1_211 : (Cond.superclass "java/lang/StringBuilder" "java/lang/AbstractStringBuilder") ∈ TB := tb_1 211 rfl rfl
theorem tw_1_212 : (Cond.arrayClass FieldType.byte) ∈ TB := tb_1 212 rfl rfl
theorem tw_1_213 : (Cond.fieldLink "LetterRepository" (10 : Nat) "LetterRepository" "store" "LLetterRepository$Store;") ∈ TB := tb_1 213 rfl rfl
theorem tw_1_214 : (Cond.fieldLink "LetterRepository" (16 : Nat) "LetterRepository" "savedCopy" "LLetterRepository$Store;") ∈ TB := tb_1 214 rfl rfl
theorem tw_1_215 : (Cond.fieldLink "LetterRepository" (22 : Nat) "LetterRepository" "history" "LLetterRepository$History;") ∈ TB := tb_1 215 rfl rfl
theorem tw_1_216 : (Cond.fieldLink "LetterRepository" (29 : Nat) "LetterRepository" "program" "LLetterRepository$Program;") ∈ TB := tb_1 216 rfl rfl
theorem tw_1_217 : (Cond.fieldLink "LetterRepository" (36 : Nat) "LetterRepository" "input" "Ljava/lang/StringBuilder;") ∈ TB := tb_1 217 rfl rfl
theorem tw_1_218 : (Cond.fieldLink "LetterRepository" (40 : Nat) "LetterRepository" "line" "Ljava/lang/StringBuilder;") ∈ TB := tb_1 218 rfl rfl
theorem tw_1_219 : (Cond.fieldLink "LetterRepository" (378 : Nat) "LetterRepository" "hasSavedCopy" "Z") ∈ TB := tb_1 219 rfl rfl
theorem tw_1_220 : (Cond.fieldLink "LetterRepository" (43 : Nat) "LetterRepository" "storedErrorPosition" "I") ∈ TB := tb_1 220 rfl rfl
theorem tw_1_221 : (Cond.fieldLink "LetterRepository" (47 : Nat) "LetterRepository" "storedFailedCommand" "I") ∈ TB := tb_1 221 rfl rfl
theorem tw_1_222 : (Cond.laysFinal "LetterRepository" "LetterRepository" "store" "LLetterRepository$Store;") ∈ TB := tb_1 222 rfl rfl
theorem tw_1_223 : (Cond.soleField "LetterRepository" "store") ∈ TB := tb_1 223 rfl rfl
theorem tw_1_224 : (Cond.laysFinal "LetterRepository" "LetterRepository" "savedCopy" "LLetterRepository$Store;") ∈ TB := tb_1 224 rfl rfl
theorem tw_1_225 : (Cond.soleField "LetterRepository" "savedCopy") ∈ TB := tb_1 225 rfl rfl
theorem tw_1_226 : (Cond.laysFinal "LetterRepository" "LetterRepository" "history" "LLetterRepository$History;") ∈ TB := tb_1 226 rfl rfl
theorem tw_1_227 : (Cond.soleField "LetterRepository" "history") ∈ TB := tb_1 227 rfl rfl
theorem tw_1_228 : (Cond.laysFinal "LetterRepository" "LetterRepository" "program" "LLetterRepository$Program;") ∈ TB := tb_1 228 rfl rfl
theorem tw_1_229 : (Cond.soleField "LetterRepository" "program") ∈ TB := tb_1 229 rfl rfl
theorem tw_1_230 : (Cond.laysFinal "LetterRepository" "LetterRepository" "input" "Ljava/lang/StringBuilder;") ∈ TB := tb_1 230 rfl rfl
theorem tw_1_231 : (Cond.soleField "LetterRepository" "input") ∈ TB := tb_1 231 rfl rfl
theorem tw_1_232 : (Cond.laysFinal "LetterRepository" "LetterRepository" "line" "Ljava/lang/StringBuilder;") ∈ TB := tb_1 232 rfl rfl
theorem tw_1_233 : (Cond.soleField "LetterRepository" "line") ∈ TB := tb_1 233 rfl rfl
theorem tw_1_234 : (Cond.lays "LetterRepository" "LetterRepository" "hasSavedCopy" "Z") ∈ TB := tb_1 234 rfl rfl
theorem tw_1_235 : (Cond.soleField "LetterRepository" "hasSavedCopy") ∈ TB := tb_1 235 rfl rfl
theorem tw_1_236 : (Cond.lays "LetterRepository" "LetterRepository" "storedErrorPosition" "I") ∈ TB := tb_1 236 rfl rfl
theorem tw_1_237 : (Cond.soleField "LetterRepository" "storedErrorPosition") ∈ TB := tb_1 237 rfl rfl
theorem tw_1_238 : (Cond.lays "LetterRepository" "LetterRepository" "storedFailedCommand" "I") ∈ TB := tb_1 238 rfl rfl
theorem tw_1_239 : (Cond.soleField "LetterRepository" "storedFailedCommand") ∈ TB := tb_1 239 rfl rfl
theorem tw_2_0 : (Cond.superclass "LetterRepository" "java/lang/Object") ∈ TB := tb_2 0 rfl rfl
theorem tw_2_1 : (Cond.methodLink "LetterRepositoryLaw" (222 : Nat) ({ cls := "LetterRepository", name := "archive", desc := "()I" } : MethodName)) ∈ TB := tb_2 1 rfl rfl
theorem tw_2_2 : (Cond.instanceMethod ({ cls := "LetterRepository", name := "archive", desc := "()I" } : MethodName)) ∈ TB := tb_2 2 rfl rfl
theorem tw_2_3 : (Cond.selects "LetterRepository" ({ cls := "LetterRepository", name := "archive", desc := "()I" } : MethodName) ({ cls := "LetterRepository", name := "archive", desc := "()I" } : MethodName)) ∈ TB := tb_2 3 rfl rfl
theorem tw_2_4 : (Cond.code ({ cls := "LetterRepository", name := "archive", desc := "()I" } : MethodName) prog_1_method_13_code (1 : Nat) (some FieldType.int)) ∈ TB := tb_2 4 rfl rfl
theorem tw_2_5 : (Cond.methodLink "LetterRepository" (58 : Nat) ({ cls := "LetterRepository", name := "remember", desc := "()V" } : MethodName)) ∈ TB := tb_2 5 rfl rfl
theorem tw_2_7 : (Cond.instanceMethod ({ cls := "LetterRepository", name := "remember", desc := "()V" } : MethodName)) ∈ TB := tb_2 7 rfl rfl
theorem tw_2_8 : (Cond.code ({ cls := "LetterRepository", name := "remember", desc := "()V" } : MethodName) prog_1_method_63_code (1 : Nat) (none : Option FieldType)) ∈ TB := tb_2 8 rfl rfl
theorem tw_2_9 : (Cond.methodLink "LetterRepository" (344 : Nat) ({ cls := "LetterRepository$History", name := "note", desc := "(LLetterRepository$Store;)V" } : MethodName)) ∈ TB := tb_2 9 rfl rfl
theorem tw_2_10 : (Cond.instanceMethod ({ cls := "LetterRepository$History", name := "note", desc := "(LLetterRepository$Store;)V" } : MethodName)) ∈ TB := tb_2 10 rfl rfl
theorem tw_2_11 : (Cond.selects "LetterRepository$History" ({ cls := "LetterRepository$History", name := "note", desc := "(LLetterRepository$Store;)V" } : MethodName) ({ cls := "LetterRepository$History", name := "note", desc := "(LLetterRepository$Store;)V" } : MethodName)) ∈ TB := tb_2 11 rfl rfl
theorem tw_2_12 : (Cond.code ({ cls := "LetterRepository$History", name := "note", desc := "(LLetterRepository$Store;)V" } : MethodName) prog_4_method_3_code (3 : Nat) (none : Option FieldType)) ∈ TB := tb_2 12 rfl rfl
theorem tw_2_13 : (Cond.methodLink "LetterRepository$History" (22 : Nat) ({ cls := "LetterRepository$History", name := "slotAt", desc := "(I)LLetterRepository$Store;" } : MethodName)) ∈ TB := tb_2 13 rfl rfl
theorem tw_2_15 : (Cond.instanceMethod ({ cls := "LetterRepository$History", name := "slotAt", desc := "(I)LLetterRepository$Store;" } : MethodName)) ∈ TB := tb_2 15 rfl rfl
theorem tw_2_16 : (Cond.code ({ cls := "LetterRepository$History", name := "slotAt", desc := "(I)LLetterRepository$Store;" } : MethodName) prog_4_method_2_code (2 : Nat) (some (FieldType.object "LetterRepository$Store"))) ∈ TB := tb_2 16 rfl rfl
theorem tw_2_17 : (Cond.methodLink "LetterRepository$History" (26 : Nat) ({ cls := "LetterRepository$Store", name := "copyFrom", desc := "(LLetterRepository$Store;)V" } : MethodName)) ∈ TB := tb_2 17 rfl rfl
theorem tw_2_18 : (Cond.instanceMethod ({ cls := "LetterRepository$Store", name := "copyFrom", desc := "(LLetterRepository$Store;)V" } : MethodName)) ∈ TB := tb_2 18 rfl rfl
theorem tw_2_19 : (Cond.selects "LetterRepository$Store" ({ cls := "LetterRepository$Store", name := "copyFrom", desc := "(LLetterRepository$Store;)V" } : MethodName) ({ cls := "LetterRepository$Store", name := "copyFrom", desc := "(LLetterRepository$Store;)V" } : MethodName)) ∈ TB := tb_2 19 rfl rfl
theorem tw_2_20 : (Cond.code ({ cls := "LetterRepository$Store", name := "copyFrom", desc := "(LLetterRepository$Store;)V" } : MethodName) prog_10_method_2_code (2 : Nat) (none : Option FieldType)) ∈ TB := tb_2 20 rfl rfl
theorem tw_2_21 : (Cond.methodLink "LetterRepository$Store" (37 : Nat) ({ cls := "LetterRepository$Revisions", name := "copyFrom", desc := "(LLetterRepository$Revisions;)V" } : MethodName)) ∈ TB := tb_2 21 rfl rfl
theorem tw_2_22 : (Cond.instanceMethod ({ cls := "LetterRepository$Revisions", name := "copyFrom", desc := "(LLetterRepository$Revisions;)V" } : MethodName)) ∈ TB := tb_2 22 rfl rfl
theorem tw_2_23 : (Cond.selects "LetterRepository$Revisions" ({ cls := "LetterRepository$Revisions", name := "copyFrom", desc := "(LLetterRepository$Revisions;)V" } : MethodName) ({ cls := "LetterRepository$Revisions", name := "copyFrom", desc := "(LLetterRepository$Revisions;)V" } : MethodName)) ∈ TB := tb_2 23 rfl rfl
theorem tw_2_24 : (Cond.code ({ cls := "LetterRepository$Revisions", name := "copyFrom", desc := "(LLetterRepository$Revisions;)V" } : MethodName) prog_8_method_2_code (2 : Nat) (none : Option FieldType)) ∈ TB := tb_2 24 rfl rfl
theorem tw_2_25 : (Cond.methodLink "LetterRepository$Revisions" (43 : Nat) ({ cls := "LetterRepository$Row", name := "copyFrom", desc := "(LLetterRepository$Row;)V" } : MethodName)) ∈ TB := tb_2 25 rfl rfl
theorem tw_2_26 : (Cond.instanceMethod ({ cls := "LetterRepository$Row", name := "copyFrom", desc := "(LLetterRepository$Row;)V" } : MethodName)) ∈ TB := tb_2 26 rfl rfl
theorem tw_2_27 : (Cond.selects "LetterRepository$Row" ({ cls := "LetterRepository$Row", name := "copyFrom", desc := "(LLetterRepository$Row;)V" } : MethodName) ({ cls := "LetterRepository$Row", name := "copyFrom", desc := "(LLetterRepository$Row;)V" } : MethodName)) ∈ TB := tb_2 27 rfl rfl
theorem tw_2_28 : (Cond.code ({ cls := "LetterRepository$Row", name := "copyFrom", desc := "(LLetterRepository$Row;)V" } : MethodName) prog_9_method_4_code (2 : Nat) (none : Option FieldType)) ∈ TB := tb_2 28 rfl rfl
theorem tw_2_29 : (Cond.methodLink "LetterRepository$Row" (15 : Nat) ({ cls := "java/lang/Math", name := "min", desc := "(II)I" } : MethodName)) ∈ TB := tb_2 29 rfl rfl
theorem tw_2_30 : (Cond.static ({ cls := "java/lang/Math", name := "min", desc := "(II)I" } : MethodName)) ∈ TB := tb_2 30 rfl rfl
theorem tw_2_31 : (Cond.code ({ cls := "java/lang/Math", name := "min", desc := "(II)I" } : MethodName) prog_26_method_69_code (2 : Nat) (some FieldType.int)) ∈ TB := tb_2 31 rfl rfl
theorem tw_2_32 : (Cond.methodLink "LetterRepository$Row" (21 : Nat) ({ cls := "java/lang/System", name := "arraycopy", desc := "(Ljava/lang/Object;ILjava/lang/Object;II)V" } : MethodName)) ∈ TB := tb_2 32 rfl rfl
theorem tw_2_33 : (Cond.static ({ cls := "java/lang/System", name := "arraycopy", desc := "(Ljava/lang/Object;ILjava/lang/Object;II)V" } : MethodName)) ∈ TB := tb_2 33 rfl rfl
theorem tw_2_34 : (Cond.native ({ cls := "java/lang/System", name := "arraycopy", desc := "(Ljava/lang/Object;ILjava/lang/Object;II)V" } : MethodName)) ∈ TB := tb_2 34 rfl rfl
theorem tw_2_35 : (Cond.methodLink "LetterRepository$Store" (41 : Nat) ({ cls := "LetterRepository$Row", name := "copyFrom", desc := "(LLetterRepository$Row;)V" } : MethodName)) ∈ TB := tb_2 35 rfl rfl
theorem tw_2_36 : (Cond.methodLink "LetterRepository" (366 : Nat) ({ cls := "LetterRepository$History", name := "keepNoted", desc := "()V" } : MethodName)) ∈ TB := tb_2 36 rfl rfl
theorem tw_2_37 : (Cond.instanceMethod ({ cls := "LetterRepository$History", name := "keepNoted", desc := "()V" } : MethodName)) ∈ TB := tb_2 37 rfl rfl
theorem tw_2_38 : (Cond.selects "LetterRepository$History" ({ cls := "LetterRepository$History", name := "keepNoted", desc := "()V" } : MethodName) ({ cls := "LetterRepository$History", name := "keepNoted", desc := "()V" } : MethodName)) ∈ TB := tb_2 38 rfl rfl
theorem tw_2_39 : (Cond.code ({ cls := "LetterRepository$History", name := "keepNoted", desc := "()V" } : MethodName) prog_4_method_5_code (1 : Nat) (none : Option FieldType)) ∈ TB := tb_2 39 rfl rfl
theorem tw_2_40 : (Cond.methodLink "LetterRepository$History" (33 : Nat) ({ cls := "java/lang/Math", name := "min", desc := "(II)I" } : MethodName)) ∈ TB := tb_2 40 rfl rfl
theorem tw_2_41 : (Cond.methodLink "LetterRepository" (127 : Nat) ({ cls := "LetterRepository$Store", name := "archiveUnused", desc := "()I" } : MethodName)) ∈ TB := tb_2 41 rfl rfl
theorem tw_2_42 : (Cond.instanceMethod ({ cls := "LetterRepository$Store", name := "archiveUnused", desc := "()I" } : MethodName)) ∈ TB := tb_2 42 rfl rfl
theorem tw_2_43 : (Cond.selects "LetterRepository$Store" ({ cls := "LetterRepository$Store", name := "archiveUnused", desc := "()I" } : MethodName) ({ cls := "LetterRepository$Store", name := "archiveUnused", desc := "()I" } : MethodName)) ∈ TB := tb_2 43 rfl rfl
theorem tw_2_44 : (Cond.code ({ cls := "LetterRepository$Store", name := "archiveUnused", desc := "()I" } : MethodName) prog_10_method_44_code (4 : Nat) (some FieldType.int)) ∈ TB := tb_2 44 rfl rfl
theorem tw_2_45 : (Cond.methodLink "LetterRepository$Store" (180 : Nat) ({ cls := "java/lang/Integer", name := "bitCount", desc := "(I)I" } : MethodName)) ∈ TB := tb_2 45 rfl rfl
theorem tw_2_46 : (Cond.static ({ cls := "java/lang/Integer", name := "bitCount", desc := "(I)I" } : MethodName)) ∈ TB := tb_2 46 rfl rfl
theorem tw_2_47 : (Cond.code ({ cls := "java/lang/Integer", name := "bitCount", desc := "(I)I" } : MethodName) prog_25_method_49_code (1 : Nat) (some FieldType.int)) ∈ TB := tb_2 47 rfl rfl
theorem tw_2_48 : (Cond.constant "java/lang/Integer" (265 : Nat) (1431655765 : Int32)) ∈ TB := tb_2 48 rfl rfl
theorem tw_2_49 : (Cond.constant "java/lang/Integer" (266 : Nat) (858993459 : Int32)) ∈ TB := tb_2 49 rfl rfl
theorem tw_2_50 : (Cond.constant "java/lang/Integer" (267 : Nat) (252645135 : Int32)) ∈ TB := tb_2 50 rfl rfl
theorem tw_2_51 : (Cond.methodLink "LetterRepository$Store" (188 : Nat) ({ cls := "LetterRepository$Store", name := "usedSet", desc := "()I" } : MethodName)) ∈ TB := tb_2 51 rfl rfl
theorem tw_2_52 : (Cond.instanceMethod ({ cls := "LetterRepository$Store", name := "usedSet", desc := "()I" } : MethodName)) ∈ TB := tb_2 52 rfl rfl
theorem tw_2_53 : (Cond.selects "LetterRepository$Store" ({ cls := "LetterRepository$Store", name := "usedSet", desc := "()I" } : MethodName) ({ cls := "LetterRepository$Store", name := "usedSet", desc := "()I" } : MethodName)) ∈ TB := tb_2 53 rfl rfl
theorem tw_2_54 : (Cond.code ({ cls := "LetterRepository$Store", name := "usedSet", desc := "()I" } : MethodName) prog_10_method_42_code (3 : Nat) (some FieldType.int)) ∈ TB := tb_2 54 rfl rfl
theorem tw_2_55 : (Cond.methodLink "LetterRepository$Store" (55 : Nat) ({ cls := "LetterRepository$Store", name := "headOf", desc := "(I)I" } : MethodName)) ∈ TB := tb_2 55 rfl rfl
theorem tw_2_56 : (Cond.instanceMethod ({ cls := "LetterRepository$Store", name := "headOf", desc := "(I)I" } : MethodName)) ∈ TB := tb_2 56 rfl rfl
theorem tw_2_57 : (Cond.selects "LetterRepository$Store" ({ cls := "LetterRepository$Store", name := "headOf", desc := "(I)I" } : MethodName) ({ cls := "LetterRepository$Store", name := "headOf", desc := "(I)I" } : MethodName)) ∈ TB := tb_2 57 rfl rfl
theorem tw_2_58 : (Cond.code ({ cls := "LetterRepository$Store", name := "headOf", desc := "(I)I" } : MethodName) prog_10_method_4_code (2 : Nat) (some FieldType.int)) ∈ TB := tb_2 58 rfl rfl
theorem tw_2_59 : (Cond.methodLink "LetterRepository$Store" (44 : Nat) ({ cls := "LetterRepository$Row", name := "get", desc := "(I)I" } : MethodName)) ∈ TB := tb_2 59 rfl rfl
theorem tw_2_60 : (Cond.instanceMethod ({ cls := "LetterRepository$Row", name := "get", desc := "(I)I" } : MethodName)) ∈ TB := tb_2 60 rfl rfl
theorem tw_2_61 : (Cond.selects "LetterRepository$Row" ({ cls := "LetterRepository$Row", name := "get", desc := "(I)I" } : MethodName) ({ cls := "LetterRepository$Row", name := "get", desc := "(I)I" } : MethodName)) ∈ TB := tb_2 61 rfl rfl
theorem tw_2_62 : (Cond.code ({ cls := "LetterRepository$Row", name := "get", desc := "(I)I" } : MethodName) prog_9_method_2_code (2 : Nat) (some FieldType.int)) ∈ TB := tb_2 62 rfl rfl
theorem tw_2_63 : (Cond.methodLinkNest "LetterRepository$Store" (170 : Nat) ({ cls := "LetterRepository$Revisions", name := "marked", desc := "(LLetterRepository$Revisions;III)I" } : MethodName) "LetterRepository") ∈ NB := nb_2 63 rfl rfl
theorem tw_2_64 : (Cond.static ({ cls := "LetterRepository$Revisions", name := "marked", desc := "(LLetterRepository$Revisions;III)I" } : MethodName)) ∈ TB := tb_2 64 rfl rfl
theorem tw_2_65 : (Cond.code ({ cls := "LetterRepository$Revisions", name := "marked", desc := "(LLetterRepository$Revisions;III)I" } : MethodName) prog_8_method_17_code (5 : Nat) (some FieldType.int)) ∈ TB := tb_2 65 rfl rfl
theorem tw_2_66 : (Cond.methodLink "LetterRepository$Revisions" (54 : Nat) ({ cls := "LetterRepository$Revisions", name := "has", desc := "(I)Z" } : MethodName)) ∈ TB := tb_2 66 rfl rfl
theorem tw_2_67 : (Cond.instanceMethod ({ cls := "LetterRepository$Revisions", name := "has", desc := "(I)Z" } : MethodName)) ∈ TB := tb_2 67 rfl rfl
theorem tw_2_68 : (Cond.selects "LetterRepository$Revisions" ({ cls := "LetterRepository$Revisions", name := "has", desc := "(I)Z" } : MethodName) ({ cls := "LetterRepository$Revisions", name := "has", desc := "(I)Z" } : MethodName)) ∈ TB := tb_2 68 rfl rfl
theorem tw_2_69 : (Cond.code ({ cls := "LetterRepository$Revisions", name := "has", desc := "(I)Z" } : MethodName) prog_8_method_3_code (2 : Nat) (some FieldType.boolean)) ∈ TB := tb_2 69 rfl rfl
theorem tw_2_70 : (Cond.methodLinkNest "LetterRepository$Revisions" (50 : Nat) ({ cls := "LetterRepository", name := "contains", desc := "(II)Z" } : MethodName) "LetterRepository") ∈ NB := nb_2 70 rfl rfl
theorem tw_2_71 : (Cond.static ({ cls := "LetterRepository", name := "contains", desc := "(II)Z" } : MethodName)) ∈ TB := tb_2 71 rfl rfl
theorem tw_2_72 : (Cond.code ({ cls := "LetterRepository", name := "contains", desc := "(II)Z" } : MethodName) prog_1_method_76_code (2 : Nat) (some FieldType.boolean)) ∈ TB := tb_2 72 rfl rfl
theorem tw_2_73 : (Cond.methodLink "LetterRepository" (427 : Nat) ({ cls := "LetterRepository", name := "setOf", desc := "(I)I" } : MethodName)) ∈ TB := tb_2 73 rfl rfl
theorem tw_2_74 : (Cond.methodLink "LetterRepository$Revisions" (79 : Nat) ({ cls := "LetterRepository$Revisions", name := "firstParentOf", desc := "(I)I" } : MethodName)) ∈ TB := tb_2 74 rfl rfl
theorem tw_2_75 : (Cond.instanceMethod ({ cls := "LetterRepository$Revisions", name := "firstParentOf", desc := "(I)I" } : MethodName)) ∈ TB := tb_2 75 rfl rfl
theorem tw_2_76 : (Cond.selects "LetterRepository$Revisions" ({ cls := "LetterRepository$Revisions", name := "firstParentOf", desc := "(I)I" } : MethodName) ({ cls := "LetterRepository$Revisions", name := "firstParentOf", desc := "(I)I" } : MethodName)) ∈ TB := tb_2 76 rfl rfl
theorem tw_2_77 : (Cond.code ({ cls := "LetterRepository$Revisions", name := "firstParentOf", desc := "(I)I" } : MethodName) prog_8_method_7_code (2 : Nat) (some FieldType.int)) ∈ TB := tb_2 77 rfl rfl
theorem tw_2_78 : (Cond.methodLink "LetterRepository$Revisions" (61 : Nat) ({ cls := "LetterRepository$Row", name := "get", desc := "(I)I" } : MethodName)) ∈ TB := tb_2 78 rfl rfl
theorem tw_2_79 : (Cond.methodLink "LetterRepository$Revisions" (88 : Nat) ({ cls := "LetterRepository$Revisions", name := "marked", desc := "(LLetterRepository$Revisions;III)I" } : MethodName)) ∈ TB := tb_2 79 rfl rfl
theorem tw_2_80 : (Cond.methodLink "LetterRepository$Revisions" (82 : Nat) ({ cls := "LetterRepository$Revisions", name := "secondParentOf", desc := "(I)I" } : MethodName)) ∈ TB := tb_2 80 rfl rfl
theorem tw_2_81 : (Cond.instanceMethod ({ cls := "LetterRepository$Revisions", name := "secondParentOf", desc := "(I)I" } : MethodName)) ∈ TB := tb_2 81 rfl rfl
theorem tw_2_82 : (Cond.selects "LetterRepository$Revisions" ({ cls := "LetterRepository$Revisions", name := "secondParentOf", desc := "(I)I" } : MethodName) ({ cls := "LetterRepository$Revisions", name := "secondParentOf", desc := "(I)I" } : MethodName)) ∈ TB := tb_2 82 rfl rfl
theorem tw_2_83 : (Cond.code ({ cls := "LetterRepository$Revisions", name := "secondParentOf", desc := "(I)I" } : MethodName) prog_8_method_8_code (2 : Nat) (some FieldType.int)) ∈ TB := tb_2 83 rfl rfl
theorem tw_2_84 : (Cond.methodLink "LetterRepository$Store" (160 : Nat) ({ cls := "LetterRepository$Store", name := "revisionWithTag", desc := "(I)I" } : MethodName)) ∈ TB := tb_2 84 rfl rfl
theorem tw_2_85 : (Cond.instanceMethod ({ cls := "LetterRepository$Store", name := "revisionWithTag", desc := "(I)I" } : MethodName)) ∈ TB := tb_2 85 rfl rfl
theorem tw_2_86 : (Cond.selects "LetterRepository$Store" ({ cls := "LetterRepository$Store", name := "revisionWithTag", desc := "(I)I" } : MethodName) ({ cls := "LetterRepository$Store", name := "revisionWithTag", desc := "(I)I" } : MethodName)) ∈ TB := tb_2 86 rfl rfl
theorem tw_2_87 : (Cond.code ({ cls := "LetterRepository$Store", name := "revisionWithTag", desc := "(I)I" } : MethodName) prog_10_method_35_code (2 : Nat) (some FieldType.int)) ∈ TB := tb_2 87 rfl rfl
theorem tw_2_88 : (Cond.methodLinkNest "LetterRepository$Store" (133 : Nat) ({ cls := "LetterRepository", name := "contains", desc := "(II)Z" } : MethodName) "LetterRepository") ∈ NB := nb_2 88 rfl rfl
theorem tw_2_89 : (Cond.methodLinkNest "LetterRepository$Store" (174 : Nat) ({ cls := "LetterRepository", name := "setOf", desc := "(I)I" } : MethodName) "LetterRepository") ∈ NB := nb_2 89 rfl rfl
theorem tw_2_90 : (Cond.methodLink "LetterRepositoryLaw" (226 : Nat) ({ cls := "LetterRepository", name := "revisionCount", desc := "()I" } : MethodName)) ∈ TB := tb_2 90 rfl rfl
theorem tw_2_91 : (Cond.instanceMethod ({ cls := "LetterRepository", name := "revisionCount", desc := "()I" } : MethodName)) ∈ TB := tb_2 91 rfl rfl
theorem tw_2_92 : (Cond.selects "LetterRepository" ({ cls := "LetterRepository", name := "revisionCount", desc := "()I" } : MethodName) ({ cls := "LetterRepository", name := "revisionCount", desc := "()I" } : MethodName)) ∈ TB := tb_2 92 rfl rfl
theorem tw_2_93 : (Cond.code ({ cls := "LetterRepository", name := "revisionCount", desc := "()I" } : MethodName) prog_1_method_14_code (1 : Nat) (some FieldType.int)) ∈ TB := tb_2 93 rfl rfl
theorem tw_2_94 : (Cond.methodLink "LetterRepositoryLaw" (275 : Nat) ({ cls := "LetterRepository", name := "busiestAuthor", desc := "()I" } : MethodName)) ∈ TB := tb_2 94 rfl rfl
theorem tw_2_95 : (Cond.instanceMethod ({ cls := "LetterRepository", name := "busiestAuthor", desc := "()I" } : MethodName)) ∈ TB := tb_2 95 rfl rfl
theorem tw_2_96 : (Cond.selects "LetterRepository" ({ cls := "LetterRepository", name := "busiestAuthor", desc := "()I" } : MethodName) ({ cls := "LetterRepository", name := "busiestAuthor", desc := "()I" } : MethodName)) ∈ TB := tb_2 96 rfl rfl
theorem tw_2_97 : (Cond.code ({ cls := "LetterRepository", name := "busiestAuthor", desc := "()I" } : MethodName) prog_1_method_30_code (3 : Nat) (some FieldType.int)) ∈ TB := tb_2 97 rfl rfl
theorem tw_2_98 : (Cond.methodLink "LetterRepository" (210 : Nat) ({ cls := "LetterRepository$Revisions", name := "countBy", desc := "(I)I" } : MethodName)) ∈ TB := tb_2 98 rfl rfl
theorem tw_2_99 : (Cond.instanceMethod ({ cls := "LetterRepository$Revisions", name := "countBy", desc := "(I)I" } : MethodName)) ∈ TB := tb_2 99 rfl rfl
theorem tw_2_100 : (Cond.selects "LetterRepository$Revisions" ({ cls := "LetterRepository$Revisions", name := "countBy", desc := "(I)I" } : MethodName) ({ cls := "LetterRepository$Revisions", name := "countBy", desc := "(I)I" } : MethodName)) ∈ TB := tb_2 100 rfl rfl
theorem tw_2_101 : (Cond.code ({ cls := "LetterRepository$Revisions", name := "countBy", desc := "(I)I" } : MethodName) prog_8_method_26_code (4 : Nat) (some FieldType.int)) ∈ TB := tb_2 101 rfl rfl
theorem tw_2_102 : (Cond.methodLink "LetterRepository$Revisions" (104 : Nat) ({ cls := "LetterRepository$Revisions", name := "writerOf", desc := "(I)I" } : MethodName)) ∈ TB := tb_2 102 rfl rfl
theorem tw_2_103 : (Cond.instanceMethod ({ cls := "LetterRepository$Revisions", name := "writerOf", desc := "(I)I" } : MethodName)) ∈ TB := tb_2 103 rfl rfl
theorem tw_2_104 : (Cond.selects "LetterRepository$Revisions" ({ cls := "LetterRepository$Revisions", name := "writerOf", desc := "(I)I" } : MethodName) ({ cls := "LetterRepository$Revisions", name := "writerOf", desc := "(I)I" } : MethodName)) ∈ TB := tb_2 104 rfl rfl
theorem tw_2_105 : (Cond.code ({ cls := "LetterRepository$Revisions", name := "writerOf", desc := "(I)I" } : MethodName) prog_8_method_9_code (2 : Nat) (some FieldType.int)) ∈ TB := tb_2 105 rfl rfl
theorem tw_2_106 : (Cond.methodLink "LetterRepositoryLaw" (279 : Nat) ({ cls := "LetterRepository", name := "branchCount", desc := "()I" } : MethodName)) ∈ TB := tb_2 106 rfl rfl
theorem tw_2_107 : (Cond.instanceMethod ({ cls := "LetterRepository", name := "branchCount", desc := "()I" } : MethodName)) ∈ TB := tb_2 107 rfl rfl
theorem tw_2_108 : (Cond.selects "LetterRepository" ({ cls := "LetterRepository", name := "branchCount", desc := "()I" } : MethodName) ({ cls := "LetterRepository", name := "branchCount", desc := "()I" } : MethodName)) ∈ TB := tb_2 108 rfl rfl
theorem tw_2_109 : (Cond.code ({ cls := "LetterRepository", name := "branchCount", desc := "()I" } : MethodName) prog_1_method_31_code (1 : Nat) (some FieldType.int)) ∈ TB := tb_2 109 rfl rfl
theorem tw_2_110 : (Cond.methodLink "LetterRepositoryLaw" (314 : Nat) ({ cls := "LetterRepository", name := "tagCount", desc := "()I" } : MethodName)) ∈ TB := tb_2 110 rfl rfl
theorem tw_2_111 : (Cond.instanceMethod ({ cls := "LetterRepository", name := "tagCount", desc := "()I" } : MethodName)) ∈ TB := tb_2 111 rfl rfl
theorem tw_2_112 : (Cond.selects "LetterRepository" ({ cls := "LetterRepository", name := "tagCount", desc := "()I" } : MethodName) ({ cls := "LetterRepository", name := "tagCount", desc := "()I" } : MethodName)) ∈ TB := tb_2 112 rfl rfl
theorem tw_2_113 : (Cond.code ({ cls := "LetterRepository", name := "tagCount", desc := "()I" } : MethodName) prog_1_method_42_code (1 : Nat) (some FieldType.int)) ∈ TB := tb_2 113 rfl rfl
theorem tw_2_114 : (Cond.methodLink "LetterRepository" (258 : Nat) ({ cls := "LetterRepository$Store", name := "countTags", desc := "()I" } : MethodName)) ∈ TB := tb_2 114 rfl rfl
theorem tw_2_115 : (Cond.instanceMethod ({ cls := "LetterRepository$Store", name := "countTags", desc := "()I" } : MethodName)) ∈ TB := tb_2 115 rfl rfl
theorem tw_2_116 : (Cond.selects "LetterRepository$Store" ({ cls := "LetterRepository$Store", name := "countTags", desc := "()I" } : MethodName) ({ cls := "LetterRepository$Store", name := "countTags", desc := "()I" } : MethodName)) ∈ TB := tb_2 116 rfl rfl
theorem tw_2_117 : (Cond.code ({ cls := "LetterRepository$Store", name := "countTags", desc := "()I" } : MethodName) prog_10_method_36_code (3 : Nat) (some FieldType.int)) ∈ TB := tb_2 117 rfl rfl
theorem tw_2_118 : (Cond.methodLink "LetterRepositoryLaw" (324 : Nat) ({ cls := "LetterRepository", name := "usedCount", desc := "()I" } : MethodName)) ∈ TB := tb_2 118 rfl rfl
theorem tw_2_119 : (Cond.instanceMethod ({ cls := "LetterRepository", name := "usedCount", desc := "()I" } : MethodName)) ∈ TB := tb_2 119 rfl rfl
theorem tw_2_120 : (Cond.selects "LetterRepository" ({ cls := "LetterRepository", name := "usedCount", desc := "()I" } : MethodName) ({ cls := "LetterRepository", name := "usedCount", desc := "()I" } : MethodName)) ∈ TB := tb_2 120 rfl rfl
theorem tw_2_121 : (Cond.code ({ cls := "LetterRepository", name := "usedCount", desc := "()I" } : MethodName) prog_1_method_45_code (1 : Nat) (some FieldType.int)) ∈ TB := tb_2 121 rfl rfl
theorem tw_2_122 : (Cond.methodLink "LetterRepository" (267 : Nat) ({ cls := "LetterRepository$Store", name := "usedSet", desc := "()I" } : MethodName)) ∈ TB := tb_2 122 rfl rfl
theorem tw_2_123 : (Cond.methodLink "LetterRepository" (176 : Nat) ({ cls := "java/lang/Integer", name := "bitCount", desc := "(I)I" } : MethodName)) ∈ TB := tb_2 123 rfl rfl
theorem tw_2_124 : (Cond.methodLink "LetterRepositoryLaw" (328 : Nat) ({ cls := "LetterRepository", name := "usedCountByMarks", desc := "()I" } : MethodName)) ∈ TB := tb_2 124 rfl rfl
theorem tw_2_125 : (Cond.instanceMethod ({ cls := "LetterRepository", name := "usedCountByMarks", desc := "()I" } : MethodName)) ∈ TB := tb_2 125 rfl rfl
theorem tw_2_126 : (Cond.selects "LetterRepository" ({ cls := "LetterRepository", name := "usedCountByMarks", desc := "()I" } : MethodName) ({ cls := "LetterRepository", name := "usedCountByMarks", desc := "()I" } : MethodName)) ∈ TB := tb_2 126 rfl rfl
theorem tw_2_127 : (Cond.code ({ cls := "LetterRepository", name := "usedCountByMarks", desc := "()I" } : MethodName) prog_1_method_46_code (1 : Nat) (some FieldType.int)) ∈ TB := tb_2 127 rfl rfl
theorem tw_2_128 : (Cond.methodLink "LetterRepository" (270 : Nat) ({ cls := "LetterRepository$Store", name := "countUsedByMarks", desc := "()I" } : MethodName)) ∈ TB := tb_2 128 rfl rfl
theorem tw_2_129 : (Cond.instanceMethod ({ cls := "LetterRepository$Store", name := "countUsedByMarks", desc := "()I" } : MethodName)) ∈ TB := tb_2 129 rfl rfl
theorem tw_2_130 : (Cond.selects "LetterRepository$Store" ({ cls := "LetterRepository$Store", name := "countUsedByMarks", desc := "()I" } : MethodName) ({ cls := "LetterRepository$Store", name := "countUsedByMarks", desc := "()I" } : MethodName)) ∈ TB := tb_2 130 rfl rfl
theorem tw_2_131 : (Cond.code ({ cls := "LetterRepository$Store", name := "countUsedByMarks", desc := "()I" } : MethodName) prog_10_method_43_code (3 : Nat) (some FieldType.int)) ∈ TB := tb_2 131 rfl rfl
theorem tw_2_132 : (Cond.methodLink "LetterRepository$Store" (177 : Nat) ({ cls := "LetterRepository$Revisions", name := "withParentsMarked", desc := "(I)I" } : MethodName)) ∈ TB := tb_2 132 rfl rfl
theorem tw_2_133 : (Cond.instanceMethod ({ cls := "LetterRepository$Revisions", name := "withParentsMarked", desc := "(I)I" } : MethodName)) ∈ TB := tb_2 133 rfl rfl
theorem tw_2_134 : (Cond.selects "LetterRepository$Revisions" ({ cls := "LetterRepository$Revisions", name := "withParentsMarked", desc := "(I)I" } : MethodName) ({ cls := "LetterRepository$Revisions", name := "withParentsMarked", desc := "(I)I" } : MethodName)) ∈ TB := tb_2 134 rfl rfl
theorem tw_2_135 : (Cond.code ({ cls := "LetterRepository$Revisions", name := "withParentsMarked", desc := "(I)I" } : MethodName) prog_8_method_16_code (4 : Nat) (some FieldType.int)) ∈ TB := tb_2 135 rfl rfl
theorem tw_2_136 : (Cond.methodLink "LetterRepository$Revisions" (85 : Nat) ({ cls := "LetterRepository$Revisions", name := "parentSet", desc := "(I)I" } : MethodName)) ∈ TB := tb_2 136 rfl rfl
theorem tw_2_137 : (Cond.instanceMethod ({ cls := "LetterRepository$Revisions", name := "parentSet", desc := "(I)I" } : MethodName)) ∈ TB := tb_2 137 rfl rfl
theorem tw_2_138 : (Cond.selects "LetterRepository$Revisions" ({ cls := "LetterRepository$Revisions", name := "parentSet", desc := "(I)I" } : MethodName) ({ cls := "LetterRepository$Revisions", name := "parentSet", desc := "(I)I" } : MethodName)) ∈ TB := tb_2 138 rfl rfl
theorem tw_2_139 : (Cond.code ({ cls := "LetterRepository$Revisions", name := "parentSet", desc := "(I)I" } : MethodName) prog_8_method_15_code (2 : Nat) (some FieldType.int)) ∈ TB := tb_2 139 rfl rfl
theorem tw_2_140 : (Cond.methodLink "LetterRepositoryLaw" (332 : Nat) ({ cls := "LetterRepository", name := "meanGeneration", desc := "()D" } : MethodName)) ∈ TB := tb_2 140 rfl rfl
theorem tw_2_141 : (Cond.instanceMethod ({ cls := "LetterRepository", name := "meanGeneration", desc := "()D" } : MethodName)) ∈ TB := tb_2 141 rfl rfl
theorem tw_2_142 : (Cond.selects "LetterRepository" ({ cls := "LetterRepository", name := "meanGeneration", desc := "()D" } : MethodName) ({ cls := "LetterRepository", name := "meanGeneration", desc := "()D" } : MethodName)) ∈ TB := tb_2 142 rfl rfl
theorem tw_2_143 : (Cond.code ({ cls := "LetterRepository", name := "meanGeneration", desc := "()D" } : MethodName) prog_1_method_47_code (1 : Nat) (some FieldType.double)) ∈ TB := tb_2 143 rfl rfl
theorem tw_2_144 : (Cond.methodLink "LetterRepository" (273 : Nat) ({ cls := "LetterRepository$Revisions", name := "meanOfGenerations", desc := "()D" } : MethodName)) ∈ TB := tb_2 144 rfl rfl
theorem tw_2_145 : (Cond.instanceMethod ({ cls := "LetterRepository$Revisions", name := "meanOfGenerations", desc := "()D" } : MethodName)) ∈ TB := tb_2 145 rfl rfl
theorem tw_2_146 : (Cond.selects "LetterRepository$Revisions" ({ cls := "LetterRepository$Revisions", name := "meanOfGenerations", desc := "()D" } : MethodName) ({ cls := "LetterRepository$Revisions", name := "meanOfGenerations", desc := "()D" } : MethodName)) ∈ TB := tb_2 146 rfl rfl
theorem tw_2_147 : (Cond.code ({ cls := "LetterRepository$Revisions", name := "meanOfGenerations", desc := "()D" } : MethodName) prog_8_method_27_code (3 : Nat) (some FieldType.double)) ∈ TB := tb_2 147 rfl rfl
theorem tw_2_148 : (Cond.methodLink "LetterRepository$Revisions" (67 : Nat) ({ cls := "LetterRepository$Revisions", name := "generationOf", desc := "(I)I" } : MethodName)) ∈ TB := tb_2 148 rfl rfl
theorem tw_2_149 : (Cond.instanceMethod ({ cls := "LetterRepository$Revisions", name := "generationOf", desc := "(I)I" } : MethodName)) ∈ TB := tb_2 149 rfl rfl
theorem tw_2_150 : (Cond.selects "LetterRepository$Revisions" ({ cls := "LetterRepository$Revisions", name := "generationOf", desc := "(I)I" } : MethodName) ({ cls := "LetterRepository$Revisions", name := "generationOf", desc := "(I)I" } : MethodName)) ∈ TB := tb_2 150 rfl rfl
theorem tw_2_151 : (Cond.code ({ cls := "LetterRepository$Revisions", name := "generationOf", desc := "(I)I" } : MethodName) prog_8_method_10_code (2 : Nat) (some FieldType.int)) ∈ TB := tb_2 151 rfl rfl
theorem tw_2_152 : (Cond.methodLink "LetterRepositoryLaw" (337 : Nat) ({ cls := "LetterRepository", name := "archivedShare", desc := "()F" } : MethodName)) ∈ TB := tb_2 152 rfl rfl
theorem tw_2_153 : (Cond.instanceMethod ({ cls := "LetterRepository", name := "archivedShare", desc := "()F" } : MethodName)) ∈ TB := tb_2 153 rfl rfl
theorem tw_2_154 : (Cond.selects "LetterRepository" ({ cls := "LetterRepository", name := "archivedShare", desc := "()F" } : MethodName) ({ cls := "LetterRepository", name := "archivedShare", desc := "()F" } : MethodName)) ∈ TB := tb_2 154 rfl rfl
theorem tw_2_155 : (Cond.code ({ cls := "LetterRepository", name := "archivedShare", desc := "()F" } : MethodName) prog_1_method_48_code (1 : Nat) (some FieldType.float)) ∈ TB := tb_2 155 rfl rfl
theorem tw_2_156 : (Cond.methodLink "LetterRepository" (277 : Nat) ({ cls := "LetterRepository$Revisions", name := "shareOfArchived", desc := "()F" } : MethodName)) ∈ TB := tb_2 156 rfl rfl
theorem tw_2_157 : (Cond.instanceMethod ({ cls := "LetterRepository$Revisions", name := "shareOfArchived", desc := "()F" } : MethodName)) ∈ TB := tb_2 157 rfl rfl
theorem tw_2_158 : (Cond.selects "LetterRepository$Revisions" ({ cls := "LetterRepository$Revisions", name := "shareOfArchived", desc := "()F" } : MethodName) ({ cls := "LetterRepository$Revisions", name := "shareOfArchived", desc := "()F" } : MethodName)) ∈ TB := tb_2 158 rfl rfl
theorem tw_2_159 : (Cond.code ({ cls := "LetterRepository$Revisions", name := "shareOfArchived", desc := "()F" } : MethodName) prog_8_method_28_code (1 : Nat) (some FieldType.float)) ∈ TB := tb_2 159 rfl rfl
theorem tw_2_160 : (Cond.methodLink "LetterRepository$Revisions" (107 : Nat) ({ cls := "java/lang/Integer", name := "bitCount", desc := "(I)I" } : MethodName)) ∈ TB := tb_2 160 rfl rfl
theorem tw_2_161 : (Cond.methodLink "LetterRepositoryLaw" (342 : Nat) ({ cls := "LetterRepository", name := "isConsistent", desc := "()Z" } : MethodName)) ∈ TB := tb_2 161 rfl rfl
theorem tw_2_162 : (Cond.instanceMethod ({ cls := "LetterRepository", name := "isConsistent", desc := "()Z" } : MethodName)) ∈ TB := tb_2 162 rfl rfl
theorem tw_2_163 : (Cond.selects "LetterRepository" ({ cls := "LetterRepository", name := "isConsistent", desc := "()Z" } : MethodName) ({ cls := "LetterRepository", name := "isConsistent", desc := "()Z" } : MethodName)) ∈ TB := tb_2 163 rfl rfl
theorem tw_2_164 : (Cond.code ({ cls := "LetterRepository", name := "isConsistent", desc := "()Z" } : MethodName) prog_1_method_49_code (1 : Nat) (some FieldType.boolean)) ∈ TB := tb_2 164 rfl rfl
theorem tw_2_165 : (Cond.methodLink "LetterRepository" (281 : Nat) ({ cls := "LetterRepository$Store", name := "ancestorsAgree", desc := "()Z" } : MethodName)) ∈ TB := tb_2 165 rfl rfl
theorem tw_2_166 : (Cond.instanceMethod ({ cls := "LetterRepository$Store", name := "ancestorsAgree", desc := "()Z" } : MethodName)) ∈ TB := tb_2 166 rfl rfl
theorem tw_2_167 : (Cond.selects "LetterRepository$Store" ({ cls := "LetterRepository$Store", name := "ancestorsAgree", desc := "()Z" } : MethodName) ({ cls := "LetterRepository$Store", name := "ancestorsAgree", desc := "()Z" } : MethodName)) ∈ TB := tb_2 167 rfl rfl
theorem tw_2_168 : (Cond.code ({ cls := "LetterRepository$Store", name := "ancestorsAgree", desc := "()Z" } : MethodName) prog_10_method_45_code (5 : Nat) (some FieldType.boolean)) ∈ TB := tb_2 168 rfl rfl
theorem tw_2_169 : (Cond.methodLink "LetterRepository$Store" (194 : Nat) ({ cls := "LetterRepository$Revisions", name := "latestCommon", desc := "(II)I" } : MethodName)) ∈ TB := tb_2 169 rfl rfl
theorem tw_2_170 : (Cond.instanceMethod ({ cls := "LetterRepository$Revisions", name := "latestCommon", desc := "(II)I" } : MethodName)) ∈ TB := tb_2 170 rfl rfl
theorem tw_2_171 : (Cond.selects "LetterRepository$Revisions" ({ cls := "LetterRepository$Revisions", name := "latestCommon", desc := "(II)I" } : MethodName) ({ cls := "LetterRepository$Revisions", name := "latestCommon", desc := "(II)I" } : MethodName)) ∈ TB := tb_2 171 rfl rfl
theorem tw_2_172 : (Cond.code ({ cls := "LetterRepository$Revisions", name := "latestCommon", desc := "(II)I" } : MethodName) prog_8_method_18_code (6 : Nat) (some FieldType.int)) ∈ TB := tb_2 172 rfl rfl
theorem tw_2_173 : (Cond.methodLink "LetterRepository$Store" (142 : Nat) ({ cls := "LetterRepository$Revisions", name := "latestCommonBySets", desc := "(II)I" } : MethodName)) ∈ TB := tb_2 173 rfl rfl
theorem tw_2_174 : (Cond.instanceMethod ({ cls := "LetterRepository$Revisions", name := "latestCommonBySets", desc := "(II)I" } : MethodName)) ∈ TB := tb_2 174 rfl rfl
theorem tw_2_175 : (Cond.selects "LetterRepository$Revisions" ({ cls := "LetterRepository$Revisions", name := "latestCommonBySets", desc := "(II)I" } : MethodName) ({ cls := "LetterRepository$Revisions", name := "latestCommonBySets", desc := "(II)I" } : MethodName)) ∈ TB := tb_2 175 rfl rfl
theorem tw_2_176 : (Cond.code ({ cls := "LetterRepository$Revisions", name := "latestCommonBySets", desc := "(II)I" } : MethodName) prog_8_method_19_code (5 : Nat) (some FieldType.int)) ∈ TB := tb_2 176 rfl rfl
theorem tw_2_177 : (Cond.methodLink "LetterRepository$Revisions" (76 : Nat) ({ cls := "LetterRepository$Revisions", name := "ancestorSetOf", desc := "(I)I" } : MethodName)) ∈ TB := tb_2 177 rfl rfl
theorem tw_2_178 : (Cond.instanceMethod ({ cls := "LetterRepository$Revisions", name := "ancestorSetOf", desc := "(I)I" } : MethodName)) ∈ TB := tb_2 178 rfl rfl
theorem tw_2_179 : (Cond.selects "LetterRepository$Revisions" ({ cls := "LetterRepository$Revisions", name := "ancestorSetOf", desc := "(I)I" } : MethodName) ({ cls := "LetterRepository$Revisions", name := "ancestorSetOf", desc := "(I)I" } : MethodName)) ∈ TB := tb_2 179 rfl rfl
theorem tw_2_180 : (Cond.code ({ cls := "LetterRepository$Revisions", name := "ancestorSetOf", desc := "(I)I" } : MethodName) prog_8_method_11_code (2 : Nat) (some FieldType.int)) ∈ TB := tb_2 180 rfl rfl
theorem tw_2_181 : (Cond.methodLink "LetterRepository" (285 : Nat) ({ cls := "LetterRepository$Store", name := "originsAgree", desc := "()Z" } : MethodName)) ∈ TB := tb_2 181 rfl rfl
theorem tw_2_182 : (Cond.instanceMethod ({ cls := "LetterRepository$Store", name := "originsAgree", desc := "()Z" } : MethodName)) ∈ TB := tb_2 182 rfl rfl
theorem tw_2_183 : (Cond.selects "LetterRepository$Store" ({ cls := "LetterRepository$Store", name := "originsAgree", desc := "()Z" } : MethodName) ({ cls := "LetterRepository$Store", name := "originsAgree", desc := "()Z" } : MethodName)) ∈ TB := tb_2 183 rfl rfl
theorem tw_2_184 : (Cond.code ({ cls := "LetterRepository$Store", name := "originsAgree", desc := "()Z" } : MethodName) prog_10_method_46_code (4 : Nat) (some FieldType.boolean)) ∈ TB := tb_2 184 rfl rfl
theorem tw_2_185 : (Cond.methodLink "LetterRepository$Store" (197 : Nat) ({ cls := "LetterRepository$Revisions", name := "sourceOf", desc := "(II)I" } : MethodName)) ∈ TB := tb_2 185 rfl rfl
theorem tw_2_186 : (Cond.instanceMethod ({ cls := "LetterRepository$Revisions", name := "sourceOf", desc := "(II)I" } : MethodName)) ∈ TB := tb_2 186 rfl rfl
theorem tw_2_187 : (Cond.selects "LetterRepository$Revisions" ({ cls := "LetterRepository$Revisions", name := "sourceOf", desc := "(II)I" } : MethodName) ({ cls := "LetterRepository$Revisions", name := "sourceOf", desc := "(II)I" } : MethodName)) ∈ TB := tb_2 187 rfl rfl
theorem tw_2_188 : (Cond.code ({ cls := "LetterRepository$Revisions", name := "sourceOf", desc := "(II)I" } : MethodName) prog_8_method_24_code (5 : Nat) (some FieldType.int)) ∈ TB := tb_2 188 rfl rfl
theorem tw_2_189 : (Cond.methodLink "LetterRepository$Revisions" (98 : Nat) ({ cls := "LetterRepository$Revisions", name := "inherits", desc := "(II)Z" } : MethodName)) ∈ TB := tb_2 189 rfl rfl
theorem tw_2_191 : (Cond.instanceMethod ({ cls := "LetterRepository$Revisions", name := "inherits", desc := "(II)Z" } : MethodName)) ∈ TB := tb_2 191 rfl rfl
theorem tw_2_192 : (Cond.code ({ cls := "LetterRepository$Revisions", name := "inherits", desc := "(II)Z" } : MethodName) prog_8_method_23_code (4 : Nat) (some FieldType.boolean)) ∈ TB := tb_2 192 rfl rfl
theorem tw_2_193 : (Cond.methodLink "LetterRepository$Revisions" (95 : Nat) ({ cls := "LetterRepository$Revisions", name := "letterOf", desc := "(II)I" } : MethodName)) ∈ TB := tb_2 193 rfl rfl
theorem tw_2_194 : (Cond.instanceMethod ({ cls := "LetterRepository$Revisions", name := "letterOf", desc := "(II)I" } : MethodName)) ∈ TB := tb_2 194 rfl rfl
theorem tw_2_195 : (Cond.selects "LetterRepository$Revisions" ({ cls := "LetterRepository$Revisions", name := "letterOf", desc := "(II)I" } : MethodName) ({ cls := "LetterRepository$Revisions", name := "letterOf", desc := "(II)I" } : MethodName)) ∈ TB := tb_2 195 rfl rfl
theorem tw_2_196 : (Cond.code ({ cls := "LetterRepository$Revisions", name := "letterOf", desc := "(II)I" } : MethodName) prog_8_method_12_code (3 : Nat) (some FieldType.int)) ∈ TB := tb_2 196 rfl rfl
theorem tw_2_197 : (Cond.methodLinkNest "LetterRepository$Store" (200 : Nat) ({ cls := "LetterRepository$Revisions", name := "sourceByRecursion", desc := "(LLetterRepository$Revisions;III)I" } : MethodName) "LetterRepository") ∈ NB := nb_2 197 rfl rfl
theorem tw_2_198 : (Cond.static ({ cls := "LetterRepository$Revisions", name := "sourceByRecursion", desc := "(LLetterRepository$Revisions;III)I" } : MethodName)) ∈ TB := tb_2 198 rfl rfl
theorem tw_2_199 : (Cond.code ({ cls := "LetterRepository$Revisions", name := "sourceByRecursion", desc := "(LLetterRepository$Revisions;III)I" } : MethodName) prog_8_method_25_code (4 : Nat) (some FieldType.int)) ∈ TB := tb_2 199 rfl rfl
theorem tw_2_200 : (Cond.methodLink "LetterRepository$Revisions" (101 : Nat) ({ cls := "LetterRepository$Revisions", name := "sourceByRecursion", desc := "(LLetterRepository$Revisions;III)I" } : MethodName)) ∈ TB := tb_2 200 rfl rfl
theorem tw_2_201 : (Cond.methodLink "LetterRepositoryLaw" (372 : Nat) ({ cls := "LetterRepository", name := "undoableCount", desc := "()I" } : MethodName)) ∈ TB := tb_2 201 rfl rfl
theorem tw_2_202 : (Cond.instanceMethod ({ cls := "LetterRepository", name := "undoableCount", desc := "()I" } : MethodName)) ∈ TB := tb_2 202 rfl rfl
theorem tw_2_203 : (Cond.selects "LetterRepository" ({ cls := "LetterRepository", name := "undoableCount", desc := "()I" } : MethodName) ({ cls := "LetterRepository", name := "undoableCount", desc := "()I" } : MethodName)) ∈ TB := tb_2 203 rfl rfl
theorem tw_2_204 : (Cond.code ({ cls := "LetterRepository", name := "undoableCount", desc := "()I" } : MethodName) prog_1_method_59_code (1 : Nat) (some FieldType.int)) ∈ TB := tb_2 204 rfl rfl
theorem tw_2_205 : (Cond.methodLink "LetterRepositoryLaw" (379 : Nat) ({ cls := "LetterRepository", name := "save", desc := "()I" } : MethodName)) ∈ TB := tb_2 205 rfl rfl
theorem tw_2_206 : (Cond.instanceMethod ({ cls := "LetterRepository", name := "save", desc := "()I" } : MethodName)) ∈ TB := tb_2 206 rfl rfl
theorem tw_2_207 : (Cond.selects "LetterRepository" ({ cls := "LetterRepository", name := "save", desc := "()I" } : MethodName) ({ cls := "LetterRepository", name := "save", desc := "()I" } : MethodName)) ∈ TB := tb_2 207 rfl rfl
theorem tw_2_208 : (Cond.code ({ cls := "LetterRepository", name := "save", desc := "()I" } : MethodName) prog_1_method_61_code (1 : Nat) (some FieldType.int)) ∈ TB := tb_2 208 rfl rfl
theorem tw_2_209 : (Cond.methodLink "LetterRepository" (375 : Nat) ({ cls := "LetterRepository$Store", name := "copyFrom", desc := "(LLetterRepository$Store;)V" } : MethodName)) ∈ TB := tb_2 209 rfl rfl
theorem tw_2_210 : (Cond.methodLink "LetterRepositoryLaw" (178 : Nat) ({ cls := "LetterRepositoryLaw", name := "edit", desc := "(LLetterRepository;IIC[J)I" } : MethodName)) ∈ TB := tb_2 210 rfl rfl
theorem tw_2_211 : (Cond.static ({ cls := "LetterRepositoryLaw", name := "edit", desc := "(LLetterRepository;IIC[J)I" } : MethodName)) ∈ TB := tb_2 211 rfl rfl
theorem tw_2_212 : (Cond.codeWith ({ cls := "LetterRepositoryLaw", name := "edit", desc := "(LLetterRepository;IIC[J)I" } : MethodName) method_3_code (6 : Nat) (some FieldType.int) [((0 : Nat), (12 : Nat), (15 : Nat), (13 : Nat)), ((0 : Nat), (12 : Nat), (19 : Nat), (15 : Nat))]) ∈ TB := tb_2 212 rfl rfl
theorem tw_2_213 : (Cond.classLink "LetterRepositoryLaw" (13 : Nat) "java/lang/IndexOutOfBoundsException") ∈ TB := tb_2 213 rfl rfl
theorem tw_2_214 : (Cond.classLink "LetterRepositoryLaw" (15 : Nat) "java/lang/IllegalArgumentException") ∈ TB := tb_2 214 rfl rfl
theorem tw_2_215 : (Cond.methodLink "LetterRepositoryLaw" (7 : Nat) ({ cls := "LetterRepository", name := "edit", desc := "(IIC)I" } : MethodName)) ∈ TB := tb_2 215 rfl rfl
theorem tw_2_216 : (Cond.instanceMethod ({ cls := "LetterRepository", name := "edit", desc := "(IIC)I" } : MethodName)) ∈ TB := tb_2 216 rfl rfl
theorem tw_2_217 : (Cond.selects "LetterRepository" ({ cls := "LetterRepository", name := "edit", desc := "(IIC)I" } : MethodName) ({ cls := "LetterRepository", name := "edit", desc := "(IIC)I" } : MethodName)) ∈ TB := tb_2 217 rfl rfl
theorem tw_2_218 : (Cond.code ({ cls := "LetterRepository", name := "edit", desc := "(IIC)I" } : MethodName) prog_1_method_2_code (4 : Nat) (some FieldType.int)) ∈ TB := tb_2 218 rfl rfl
theorem tw_2_219 : (Cond.methodLink "LetterRepository" (50 : Nat) ({ cls := "LetterRepository$Store", name := "refusalOfEdit", desc := "(III)LLetterRepository$Refusal;" } : MethodName)) ∈ TB := tb_2 219 rfl rfl
theorem tw_2_220 : (Cond.instanceMethod ({ cls := "LetterRepository$Store", name := "refusalOfEdit", desc := "(III)LLetterRepository$Refusal;" } : MethodName)) ∈ TB := tb_2 220 rfl rfl
theorem tw_2_221 : (Cond.selects "LetterRepository$Store" ({ cls := "LetterRepository$Store", name := "refusalOfEdit", desc := "(III)LLetterRepository$Refusal;" } : MethodName) ({ cls := "LetterRepository$Store", name := "refusalOfEdit", desc := "(III)LLetterRepository$Refusal;" } : MethodName)) ∈ TB := tb_2 221 rfl rfl
theorem tw_2_222 : (Cond.code ({ cls := "LetterRepository$Store", name := "refusalOfEdit", desc := "(III)LLetterRepository$Refusal;" } : MethodName) prog_10_method_12_code (4 : Nat) (some (FieldType.object "LetterRepository$Refusal"))) ∈ TB := tb_2 222 rfl rfl
theorem tw_2_223 : (Cond.methodLink "LetterRepository$Store" (75 : Nat) ({ cls := "LetterRepository$Store", name := "hasBranch", desc := "(I)Z" } : MethodName)) ∈ TB := tb_2 223 rfl rfl
theorem tw_2_224 : (Cond.instanceMethod ({ cls := "LetterRepository$Store", name := "hasBranch", desc := "(I)Z" } : MethodName)) ∈ TB := tb_2 224 rfl rfl
theorem tw_2_225 : (Cond.selects "LetterRepository$Store" ({ cls := "LetterRepository$Store", name := "hasBranch", desc := "(I)Z" } : MethodName) ({ cls := "LetterRepository$Store", name := "hasBranch", desc := "(I)Z" } : MethodName)) ∈ TB := tb_2 225 rfl rfl
theorem tw_2_226 : (Cond.code ({ cls := "LetterRepository$Store", name := "hasBranch", desc := "(I)Z" } : MethodName) prog_10_method_3_code (2 : Nat) (some FieldType.boolean)) ∈ TB := tb_2 226 rfl rfl
theorem tw_2_227 : (Cond.methodLinkNest "LetterRepository$Store" (79 : Nat) ({ cls := "LetterRepository", name := "isField", desc := "(I)Z" } : MethodName) "LetterRepository") ∈ NB := nb_2 227 rfl rfl
theorem tw_2_228 : (Cond.static ({ cls := "LetterRepository", name := "isField", desc := "(I)Z" } : MethodName)) ∈ TB := tb_2 228 rfl rfl
theorem tw_2_229 : (Cond.code ({ cls := "LetterRepository", name := "isField", desc := "(I)Z" } : MethodName) prog_1_method_70_code (1 : Nat) (some FieldType.boolean)) ∈ TB := tb_2 229 rfl rfl
theorem tw_2_230 : (Cond.fieldLink "LetterRepository$Store" (82 : Nat) "LetterRepository$Refusal" "INDEX" "LLetterRepository$Refusal;") ∈ TB := tb_2 230 rfl rfl
theorem tw_2_232 : (Cond.methodLinkNest "LetterRepository$Store" (88 : Nat) ({ cls := "LetterRepository", name := "isSmall", desc := "(I)Z" } : MethodName) "LetterRepository") ∈ NB := nb_2 232 rfl rfl
theorem tw_2_233 : (Cond.static ({ cls := "LetterRepository", name := "isSmall", desc := "(I)Z" } : MethodName)) ∈ TB := tb_2 233 rfl rfl
theorem tw_2_234 : (Cond.code ({ cls := "LetterRepository", name := "isSmall", desc := "(I)Z" } : MethodName) prog_1_method_72_code (1 : Nat) (some FieldType.boolean)) ∈ TB := tb_2 234 rfl rfl
theorem tw_2_235 : (Cond.fieldLink "LetterRepository$Store" (91 : Nat) "LetterRepository$Refusal" "NOTHING" "LLetterRepository$Refusal;") ∈ TB := tb_2 235 rfl rfl
theorem tw_2_237 : (Cond.fieldLink "LetterRepository$Store" (94 : Nat) "LetterRepository$Refusal" "ARGUMENT" "LLetterRepository$Refusal;") ∈ TB := tb_2 237 rfl rfl
theorem tw_2_239 : (Cond.methodLink "LetterRepository" (54 : Nat) ({ cls := "LetterRepository", name := "refuse", desc := "(LLetterRepository$Refusal;)V" } : MethodName)) ∈ TB := tb_2 239 rfl rfl
theorem tw_3_0 : (Cond.static ({ cls := "LetterRepository", name := "refuse", desc := "(LLetterRepository$Refusal;)V" } : MethodName)) ∈ TB := tb_3 0 rfl rfl
theorem tw_3_1 : (Cond.code ({ cls := "LetterRepository", name := "refuse", desc := "(LLetterRepository$Refusal;)V" } : MethodName) prog_1_method_64_code (1 : Nat) (none : Option FieldType)) ∈ TB := tb_3 1 rfl rfl
theorem tw_3_2 : (Cond.fieldLink "LetterRepository" (387 : Nat) "LetterRepository$Refusal" "INDEX" "LLetterRepository$Refusal;") ∈ TB := tb_3 2 rfl rfl
theorem tw_3_3 : (Cond.classLink "LetterRepository" (319 : Nat) "java/lang/IndexOutOfBoundsException") ∈ TB := tb_3 3 rfl rfl
theorem tw_3_4 : (Cond.instantiable "java/lang/IndexOutOfBoundsException" (6 : Nat)) ∈ TB := tb_3 4 rfl rfl
theorem tw_3_5 : (Cond.castable "java/lang/IndexOutOfBoundsException" "java/lang/IndexOutOfBoundsException") ∈ NB := nb_3 5 rfl rfl
theorem tw_3_6 : (Cond.declares ({ cls := "java/lang/RuntimeException", name := "<init>", desc := "()V" } : MethodName)) ∈ NB := nb_3 6 rfl rfl
theorem tw_3_7 : (Cond.declares ({ cls := "java/lang/RuntimeException", name := "<init>", desc := "(Ljava/lang/String;)V" } : MethodName)) ∈ NB := nb_3 7 rfl rfl
theorem tw_3_8 : (Cond.declares ({ cls := "java/lang/Exception", name := "<init>", desc := "()V" } : MethodName)) ∈ NB := nb_3 8 rfl rfl
theorem tw_3_9 : (Cond.declares ({ cls := "java/lang/Exception", name := "<init>", desc := "(Ljava/lang/String;)V" } : MethodName)) ∈ NB := nb_3 9 rfl rfl
theorem tw_3_10 : (Cond.declares ({ cls := "java/lang/Throwable", name := "<init>", desc := "()V" } : MethodName)) ∈ NB := nb_3 10 rfl rfl
theorem tw_3_11 : (Cond.declares ({ cls := "java/lang/Throwable", name := "<init>", desc := "(Ljava/lang/String;)V" } : MethodName)) ∈ NB := nb_3 11 rfl rfl
theorem tw_3_12 : (Cond.selects "java/lang/IndexOutOfBoundsException" ({ cls := "java/lang/Throwable", name := "fillInStackTrace", desc := "(I)Ljava/lang/Throwable;" } : MethodName) ({ cls := "java/lang/Throwable", name := "fillInStackTrace", desc := "(I)Ljava/lang/Throwable;" } : MethodName)) ∈ TB := tb_3 12 rfl rfl
theorem tw_3_13 : (Cond.selects "java/lang/IndexOutOfBoundsException" ({ cls := "java/lang/Throwable", name := "fillInStackTrace", desc := "()Ljava/lang/Throwable;" } : MethodName) ({ cls := "java/lang/Throwable", name := "fillInStackTrace", desc := "()Ljava/lang/Throwable;" } : MethodName)) ∈ TB := tb_3 13 rfl rfl
theorem tw_3_14 : (Cond.lays "java/lang/IndexOutOfBoundsException" "java/lang/Throwable" "cause" "Ljava/lang/Throwable;") ∈ TB := tb_3 14 rfl rfl
theorem tw_3_15 : (Cond.lays "java/lang/Throwable" "java/lang/Throwable" "cause" "Ljava/lang/Throwable;") ∈ TB := tb_3 15 rfl rfl
theorem tw_3_16 : (Cond.lays "java/lang/IndexOutOfBoundsException" "java/lang/Throwable" "stackTrace" "[Ljava/lang/StackTraceElement;") ∈ TB := tb_3 16 rfl rfl
theorem tw_3_17 : (Cond.lays "java/lang/Throwable" "java/lang/Throwable" "stackTrace" "[Ljava/lang/StackTraceElement;") ∈ TB := tb_3 17 rfl rfl
theorem tw_3_18 : (Cond.lays "java/lang/IndexOutOfBoundsException" "java/lang/Throwable" "suppressedExceptions" "Ljava/util/List;") ∈ TB := tb_3 18 rfl rfl
theorem tw_3_19 : (Cond.lays "java/lang/Throwable" "java/lang/Throwable" "suppressedExceptions" "Ljava/util/List;") ∈ TB := tb_3 19 rfl rfl
theorem tw_3_20 : (Cond.lays "java/lang/IndexOutOfBoundsException" "java/lang/Throwable" "detailMessage" "Ljava/lang/String;") ∈ TB := tb_3 20 rfl rfl
theorem tw_3_21 : (Cond.lays "java/lang/Throwable" "java/lang/Throwable" "detailMessage" "Ljava/lang/String;") ∈ TB := tb_3 21 rfl rfl
theorem tw_3_22 : (Cond.lays "java/lang/IndexOutOfBoundsException" "java/lang/Throwable" "backtrace" "Ljava/lang/Object;") ∈ TB := tb_3 22 rfl rfl
theorem tw_3_23 : (Cond.lays "java/lang/Throwable" "java/lang/Throwable" "backtrace" "Ljava/lang/Object;") ∈ TB := tb_3 23 rfl rfl
theorem tw_3_24 : (Cond.fieldLink "java/lang/Throwable" (198 : Nat) "java/lang/Throwable" "backtrace" "Ljava/lang/Object;") ∈ TB := tb_3 24 rfl rfl
theorem tw_3_25 : (Cond.superclass "java/lang/Throwable" "java/lang/Object") ∈ TB := tb_3 25 rfl rfl
theorem tw_3_26 : (Cond.instanceMethod ({ cls := "java/lang/Throwable", name := "<init>", desc := "()V" } : MethodName)) ∈ TB := tb_3 26 rfl rfl
theorem tw_3_27 : (Cond.code ({ cls := "java/lang/Throwable", name := "<init>", desc := "()V" } : MethodName) prog_35_method_1_code (1 : Nat) (none : Option FieldType)) ∈ TB := tb_3 27 rfl rfl
theorem tw_3_28 : (Cond.methodLink "java/lang/Throwable" (1 : Nat) ({ cls := "java/lang/Object", name := "<init>", desc := "()V" } : MethodName)) ∈ TB := tb_3 28 rfl rfl
theorem tw_3_29 : (Cond.fieldLink "java/lang/Throwable" (13 : Nat) "java/lang/Throwable" "UNASSIGNED_STACK" "[Ljava/lang/StackTraceElement;") ∈ TB := tb_3 29 rfl rfl
theorem tw_3_31 : (Cond.fieldLink "java/lang/Throwable" (20 : Nat) "java/lang/Throwable" "SUPPRESSED_SENTINEL" "Ljava/util/List;") ∈ TB := tb_3 31 rfl rfl
theorem tw_3_33 : (Cond.methodLink "java/lang/Throwable" (27 : Nat) ({ cls := "java/lang/Throwable", name := "fillInStackTrace", desc := "()Ljava/lang/Throwable;" } : MethodName)) ∈ TB := tb_3 33 rfl rfl
theorem tw_3_34 : (Cond.instanceMethod ({ cls := "java/lang/Throwable", name := "fillInStackTrace", desc := "()Ljava/lang/Throwable;" } : MethodName)) ∈ TB := tb_3 34 rfl rfl
theorem tw_3_35 : (Cond.sameMethod "java/lang/Throwable" "java/lang/Throwable" "fillInStackTrace" "()Ljava/lang/Throwable;") ∈ TB := tb_3 35 rfl rfl
theorem tw_3_36 : (Cond.selects "java/lang/ArrayIndexOutOfBoundsException" ({ cls := "java/lang/Throwable", name := "fillInStackTrace", desc := "()Ljava/lang/Throwable;" } : MethodName) ({ cls := "java/lang/Throwable", name := "fillInStackTrace", desc := "()Ljava/lang/Throwable;" } : MethodName)) ∈ TB := tb_3 36 rfl rfl
theorem tw_3_37 : (Cond.selects "java/lang/IllegalArgumentException" ({ cls := "java/lang/Throwable", name := "fillInStackTrace", desc := "()Ljava/lang/Throwable;" } : MethodName) ({ cls := "java/lang/Throwable", name := "fillInStackTrace", desc := "()Ljava/lang/Throwable;" } : MethodName)) ∈ TB := tb_3 37 rfl rfl
theorem tw_3_38 : (Cond.selects "java/lang/IllegalStateException" ({ cls := "java/lang/Throwable", name := "fillInStackTrace", desc := "()Ljava/lang/Throwable;" } : MethodName) ({ cls := "java/lang/Throwable", name := "fillInStackTrace", desc := "()Ljava/lang/Throwable;" } : MethodName)) ∈ TB := tb_3 38 rfl rfl
theorem tw_3_39 : (Cond.selects "java/lang/StringIndexOutOfBoundsException" ({ cls := "java/lang/Throwable", name := "fillInStackTrace", desc := "()Ljava/lang/Throwable;" } : MethodName) ({ cls := "java/lang/Throwable", name := "fillInStackTrace", desc := "()Ljava/lang/Throwable;" } : MethodName)) ∈ TB := tb_3 39 rfl rfl
theorem tw_3_40 : (Cond.selects "java/util/NoSuchElementException" ({ cls := "java/lang/Throwable", name := "fillInStackTrace", desc := "()Ljava/lang/Throwable;" } : MethodName) ({ cls := "java/lang/Throwable", name := "fillInStackTrace", desc := "()Ljava/lang/Throwable;" } : MethodName)) ∈ TB := tb_3 40 rfl rfl
theorem tw_3_41 : (Cond.codeSync ({ cls := "java/lang/Throwable", name := "fillInStackTrace", desc := "()Ljava/lang/Throwable;" } : MethodName) prog_35_method_18_code (1 : Nat) (some (FieldType.object "java/lang/Throwable"))) ∈ TB := tb_3 41 rfl rfl
theorem tw_3_42 : (Cond.methodLink "java/lang/Throwable" (202 : Nat) ({ cls := "java/lang/Throwable", name := "fillInStackTrace", desc := "(I)Ljava/lang/Throwable;" } : MethodName)) ∈ TB := tb_3 42 rfl rfl
theorem tw_3_44 : (Cond.instanceMethod ({ cls := "java/lang/Throwable", name := "fillInStackTrace", desc := "(I)Ljava/lang/Throwable;" } : MethodName)) ∈ TB := tb_3 44 rfl rfl
theorem tw_3_45 : (Cond.instantiable "java/lang/Throwable" (6 : Nat)) ∈ TB := tb_3 45 rfl rfl
theorem tw_3_46 : (Cond.native ({ cls := "java/lang/Throwable", name := "fillInStackTrace", desc := "(I)Ljava/lang/Throwable;" } : MethodName)) ∈ TB := tb_3 46 rfl rfl
theorem tw_3_48 : (Cond.methodLink "LetterRepository" (323 : Nat) ({ cls := "java/lang/IndexOutOfBoundsException", name := "<init>", desc := "(Ljava/lang/String;)V" } : MethodName)) ∈ TB := tb_3 48 rfl rfl
theorem tw_3_49 : (Cond.instanceMethod ({ cls := "java/lang/IndexOutOfBoundsException", name := "<init>", desc := "(Ljava/lang/String;)V" } : MethodName)) ∈ TB := tb_3 49 rfl rfl
theorem tw_3_50 : (Cond.code ({ cls := "java/lang/IndexOutOfBoundsException", name := "<init>", desc := "(Ljava/lang/String;)V" } : MethodName) prog_24_method_2_code (2 : Nat) (none : Option FieldType)) ∈ TB := tb_3 50 rfl rfl
theorem tw_3_51 : (Cond.methodLink "java/lang/IndexOutOfBoundsException" (7 : Nat) ({ cls := "java/lang/RuntimeException", name := "<init>", desc := "(Ljava/lang/String;)V" } : MethodName)) ∈ TB := tb_3 51 rfl rfl
theorem tw_3_52 : (Cond.instanceMethod ({ cls := "java/lang/RuntimeException", name := "<init>", desc := "(Ljava/lang/String;)V" } : MethodName)) ∈ TB := tb_3 52 rfl rfl
theorem tw_3_53 : (Cond.code ({ cls := "java/lang/RuntimeException", name := "<init>", desc := "(Ljava/lang/String;)V" } : MethodName) prog_28_method_2_code (2 : Nat) (none : Option FieldType)) ∈ TB := tb_3 53 rfl rfl
theorem tw_3_54 : (Cond.methodLink "java/lang/RuntimeException" (7 : Nat) ({ cls := "java/lang/Exception", name := "<init>", desc := "(Ljava/lang/String;)V" } : MethodName)) ∈ TB := tb_3 54 rfl rfl
theorem tw_3_55 : (Cond.instanceMethod ({ cls := "java/lang/Exception", name := "<init>", desc := "(Ljava/lang/String;)V" } : MethodName)) ∈ TB := tb_3 55 rfl rfl
theorem tw_3_56 : (Cond.code ({ cls := "java/lang/Exception", name := "<init>", desc := "(Ljava/lang/String;)V" } : MethodName) prog_21_method_2_code (2 : Nat) (none : Option FieldType)) ∈ TB := tb_3 56 rfl rfl
theorem tw_3_57 : (Cond.methodLink "java/lang/Exception" (7 : Nat) ({ cls := "java/lang/Throwable", name := "<init>", desc := "(Ljava/lang/String;)V" } : MethodName)) ∈ TB := tb_3 57 rfl rfl
theorem tw_3_58 : (Cond.instanceMethod ({ cls := "java/lang/Throwable", name := "<init>", desc := "(Ljava/lang/String;)V" } : MethodName)) ∈ TB := tb_3 58 rfl rfl
theorem tw_3_59 : (Cond.code ({ cls := "java/lang/Throwable", name := "<init>", desc := "(Ljava/lang/String;)V" } : MethodName) prog_35_method_2_code (2 : Nat) (none : Option FieldType)) ∈ TB := tb_3 59 rfl rfl
theorem tw_3_60 : (Cond.fieldLink "java/lang/Throwable" (198 : Nat) "java/lang/Throwable" "backtrace" "Ljava/lang/Object;") ∈ TB := tb_3 60 rfl rfl
theorem tw_3_61 : (Cond.fieldLink "java/lang/Throwable" (31 : Nat) "java/lang/Throwable" "detailMessage" "Ljava/lang/String;") ∈ TB := tb_3 61 rfl rfl
theorem tw_3_62 : (Cond.fieldLink "java/lang/Throwable" (7 : Nat) "java/lang/Throwable" "cause" "Ljava/lang/Throwable;") ∈ TB := tb_3 62 rfl rfl
theorem tw_3_63 : (Cond.fieldLink "java/lang/Throwable" (17 : Nat) "java/lang/Throwable" "stackTrace" "[Ljava/lang/StackTraceElement;") ∈ TB := tb_3 63 rfl rfl
theorem tw_3_64 : (Cond.fieldLink "java/lang/Throwable" (24 : Nat) "java/lang/Throwable" "suppressedExceptions" "Ljava/util/List;") ∈ TB := tb_3 64 rfl rfl
theorem tw_3_65 : (Cond.soleField "java/lang/Throwable" "backtrace") ∈ TB := tb_3 65 rfl rfl
theorem tw_3_66 : (Cond.soleField "java/lang/Throwable" "detailMessage") ∈ TB := tb_3 66 rfl rfl
theorem tw_3_67 : (Cond.soleField "java/lang/Throwable" "cause") ∈ TB := tb_3 67 rfl rfl
theorem tw_3_68 : (Cond.soleField "java/lang/Throwable" "stackTrace") ∈ TB := tb_3 68 rfl rfl
theorem tw_3_69 : (Cond.lays "java/lang/IndexOutOfBoundsException" "java/lang/Throwable" "depth" "I") ∈ TB := tb_3 69 rfl rfl
theorem tw_3_70 : (Cond.soleField "java/lang/Throwable" "depth") ∈ TB := tb_3 70 rfl rfl
theorem tw_3_71 : (Cond.soleField "java/lang/Throwable" "suppressedExceptions") ∈ TB := tb_3 71 rfl rfl
theorem tw_3_72 : (Cond.superclass "java/lang/IndexOutOfBoundsException" "java/lang/RuntimeException") ∈ TB := tb_3 72 rfl rfl
theorem tw_3_73 : (Cond.fieldLink "LetterRepository" (392 : Nat) "LetterRepository$Refusal" "ARGUMENT" "LLetterRepository$Refusal;") ∈ TB := tb_3 73 rfl rfl
theorem tw_3_74 : (Cond.classLink "LetterRepository" (203 : Nat) "java/lang/IllegalArgumentException") ∈ TB := tb_3 74 rfl rfl
theorem tw_3_75 : (Cond.instantiable "java/lang/IllegalArgumentException" (6 : Nat)) ∈ TB := tb_3 75 rfl rfl
theorem tw_3_76 : (Cond.castable "java/lang/IllegalArgumentException" "java/lang/IllegalArgumentException") ∈ NB := nb_3 76 rfl rfl
theorem tw_3_77 : (Cond.selects "java/lang/IllegalArgumentException" ({ cls := "java/lang/Throwable", name := "fillInStackTrace", desc := "(I)Ljava/lang/Throwable;" } : MethodName) ({ cls := "java/lang/Throwable", name := "fillInStackTrace", desc := "(I)Ljava/lang/Throwable;" } : MethodName)) ∈ TB := tb_3 77 rfl rfl
theorem tw_3_78 : (Cond.lays "java/lang/IllegalArgumentException" "java/lang/Throwable" "cause" "Ljava/lang/Throwable;") ∈ TB := tb_3 78 rfl rfl
theorem tw_3_79 : (Cond.lays "java/lang/IllegalArgumentException" "java/lang/Throwable" "stackTrace" "[Ljava/lang/StackTraceElement;") ∈ TB := tb_3 79 rfl rfl
theorem tw_3_80 : (Cond.lays "java/lang/IllegalArgumentException" "java/lang/Throwable" "suppressedExceptions" "Ljava/util/List;") ∈ TB := tb_3 80 rfl rfl
theorem tw_3_81 : (Cond.lays "java/lang/IllegalArgumentException" "java/lang/Throwable" "detailMessage" "Ljava/lang/String;") ∈ TB := tb_3 81 rfl rfl
theorem tw_3_82 : (Cond.lays "java/lang/IllegalArgumentException" "java/lang/Throwable" "backtrace" "Ljava/lang/Object;") ∈ TB := tb_3 82 rfl rfl
theorem tw_3_84 : (Cond.methodLink "LetterRepository" (207 : Nat) ({ cls := "java/lang/IllegalArgumentException", name := "<init>", desc := "(Ljava/lang/String;)V" } : MethodName)) ∈ TB := tb_3 84 rfl rfl
theorem tw_3_85 : (Cond.instanceMethod ({ cls := "java/lang/IllegalArgumentException", name := "<init>", desc := "(Ljava/lang/String;)V" } : MethodName)) ∈ TB := tb_3 85 rfl rfl
theorem tw_3_86 : (Cond.code ({ cls := "java/lang/IllegalArgumentException", name := "<init>", desc := "(Ljava/lang/String;)V" } : MethodName) prog_22_method_2_code (2 : Nat) (none : Option FieldType)) ∈ TB := tb_3 86 rfl rfl
theorem tw_3_87 : (Cond.methodLink "java/lang/IllegalArgumentException" (7 : Nat) ({ cls := "java/lang/RuntimeException", name := "<init>", desc := "(Ljava/lang/String;)V" } : MethodName)) ∈ TB := tb_3 87 rfl rfl
theorem tw_3_88 : (Cond.lays "java/lang/IllegalArgumentException" "java/lang/Throwable" "depth" "I") ∈ TB := tb_3 88 rfl rfl
theorem tw_3_89 : (Cond.superclass "java/lang/IllegalArgumentException" "java/lang/RuntimeException") ∈ TB := tb_3 89 rfl rfl
theorem tw_3_90 : (Cond.fieldLink "LetterRepository" (397 : Nat) "LetterRepository$Refusal" "ELEMENT" "LLetterRepository$Refusal;") ∈ TB := tb_3 90 rfl rfl
theorem tw_3_92 : (Cond.classLink "LetterRepository" (253 : Nat) "java/util/NoSuchElementException") ∈ TB := tb_3 92 rfl rfl
theorem tw_3_93 : (Cond.instantiable "java/util/NoSuchElementException" (6 : Nat)) ∈ TB := tb_3 93 rfl rfl
theorem tw_3_94 : (Cond.castable "java/util/NoSuchElementException" "java/util/NoSuchElementException") ∈ NB := nb_3 94 rfl rfl
theorem tw_3_95 : (Cond.selects "java/util/NoSuchElementException" ({ cls := "java/lang/Throwable", name := "fillInStackTrace", desc := "(I)Ljava/lang/Throwable;" } : MethodName) ({ cls := "java/lang/Throwable", name := "fillInStackTrace", desc := "(I)Ljava/lang/Throwable;" } : MethodName)) ∈ TB := tb_3 95 rfl rfl
theorem tw_3_96 : (Cond.lays "java/util/NoSuchElementException" "java/lang/Throwable" "cause" "Ljava/lang/Throwable;") ∈ TB := tb_3 96 rfl rfl
theorem tw_3_97 : (Cond.lays "java/util/NoSuchElementException" "java/lang/Throwable" "stackTrace" "[Ljava/lang/StackTraceElement;") ∈ TB := tb_3 97 rfl rfl
theorem tw_3_98 : (Cond.lays "java/util/NoSuchElementException" "java/lang/Throwable" "suppressedExceptions" "Ljava/util/List;") ∈ TB := tb_3 98 rfl rfl
theorem tw_3_99 : (Cond.lays "java/util/NoSuchElementException" "java/lang/Throwable" "detailMessage" "Ljava/lang/String;") ∈ TB := tb_3 99 rfl rfl
theorem tw_3_100 : (Cond.lays "java/util/NoSuchElementException" "java/lang/Throwable" "backtrace" "Ljava/lang/Object;") ∈ TB := tb_3 100 rfl rfl
theorem tw_3_102 : (Cond.methodLink "LetterRepository" (257 : Nat) ({ cls := "java/util/NoSuchElementException", name := "<init>", desc := "(Ljava/lang/String;)V" } : MethodName)) ∈ TB := tb_3 102 rfl rfl
theorem tw_3_103 : (Cond.instanceMethod ({ cls := "java/util/NoSuchElementException", name := "<init>", desc := "(Ljava/lang/String;)V" } : MethodName)) ∈ TB := tb_3 103 rfl rfl
theorem tw_3_104 : (Cond.code ({ cls := "java/util/NoSuchElementException", name := "<init>", desc := "(Ljava/lang/String;)V" } : MethodName) prog_39_method_4_code (2 : Nat) (none : Option FieldType)) ∈ TB := tb_3 104 rfl rfl
theorem tw_3_105 : (Cond.methodLink "java/util/NoSuchElementException" (13 : Nat) ({ cls := "java/lang/RuntimeException", name := "<init>", desc := "(Ljava/lang/String;)V" } : MethodName)) ∈ TB := tb_3 105 rfl rfl
theorem tw_3_106 : (Cond.lays "java/util/NoSuchElementException" "java/lang/Throwable" "depth" "I") ∈ TB := tb_3 106 rfl rfl
theorem tw_3_107 : (Cond.superclass "java/util/NoSuchElementException" "java/lang/RuntimeException") ∈ TB := tb_3 107 rfl rfl
theorem tw_3_108 : (Cond.fieldLink "LetterRepository" (402 : Nat) "LetterRepository$Refusal" "STATE" "LLetterRepository$Refusal;") ∈ TB := tb_3 108 rfl rfl
theorem tw_3_110 : (Cond.classLink "LetterRepository" (330 : Nat) "java/lang/IllegalStateException") ∈ TB := tb_3 110 rfl rfl
theorem tw_3_111 : (Cond.instantiable "java/lang/IllegalStateException" (6 : Nat)) ∈ TB := tb_3 111 rfl rfl
theorem tw_3_112 : (Cond.castable "java/lang/IllegalStateException" "java/lang/IllegalStateException") ∈ NB := nb_3 112 rfl rfl
theorem tw_3_113 : (Cond.selects "java/lang/IllegalStateException" ({ cls := "java/lang/Throwable", name := "fillInStackTrace", desc := "(I)Ljava/lang/Throwable;" } : MethodName) ({ cls := "java/lang/Throwable", name := "fillInStackTrace", desc := "(I)Ljava/lang/Throwable;" } : MethodName)) ∈ TB := tb_3 113 rfl rfl
theorem tw_3_114 : (Cond.lays "java/lang/IllegalStateException" "java/lang/Throwable" "cause" "Ljava/lang/Throwable;") ∈ TB := tb_3 114 rfl rfl
theorem tw_3_115 : (Cond.lays "java/lang/IllegalStateException" "java/lang/Throwable" "stackTrace" "[Ljava/lang/StackTraceElement;") ∈ TB := tb_3 115 rfl rfl
theorem tw_3_116 : (Cond.lays "java/lang/IllegalStateException" "java/lang/Throwable" "suppressedExceptions" "Ljava/util/List;") ∈ TB := tb_3 116 rfl rfl
theorem tw_3_117 : (Cond.lays "java/lang/IllegalStateException" "java/lang/Throwable" "detailMessage" "Ljava/lang/String;") ∈ TB := tb_3 117 rfl rfl
theorem tw_3_118 : (Cond.lays "java/lang/IllegalStateException" "java/lang/Throwable" "backtrace" "Ljava/lang/Object;") ∈ TB := tb_3 118 rfl rfl
theorem tw_3_120 : (Cond.methodLink "LetterRepository" (334 : Nat) ({ cls := "java/lang/IllegalStateException", name := "<init>", desc := "(Ljava/lang/String;)V" } : MethodName)) ∈ TB := tb_3 120 rfl rfl
theorem tw_3_121 : (Cond.instanceMethod ({ cls := "java/lang/IllegalStateException", name := "<init>", desc := "(Ljava/lang/String;)V" } : MethodName)) ∈ TB := tb_3 121 rfl rfl
theorem tw_3_122 : (Cond.code ({ cls := "java/lang/IllegalStateException", name := "<init>", desc := "(Ljava/lang/String;)V" } : MethodName) prog_23_method_2_code (2 : Nat) (none : Option FieldType)) ∈ TB := tb_3 122 rfl rfl
theorem tw_3_123 : (Cond.methodLink "java/lang/IllegalStateException" (7 : Nat) ({ cls := "java/lang/RuntimeException", name := "<init>", desc := "(Ljava/lang/String;)V" } : MethodName)) ∈ TB := tb_3 123 rfl rfl
theorem tw_3_124 : (Cond.lays "java/lang/IllegalStateException" "java/lang/Throwable" "depth" "I") ∈ TB := tb_3 124 rfl rfl
theorem tw_3_125 : (Cond.superclass "java/lang/IllegalStateException" "java/lang/RuntimeException") ∈ TB := tb_3 125 rfl rfl
theorem tw_3_126 : (Cond.methodLink "LetterRepository" (61 : Nat) ({ cls := "LetterRepository$Store", name := "putLetter", desc := "(III)I" } : MethodName)) ∈ TB := tb_3 126 rfl rfl
theorem tw_3_127 : (Cond.instanceMethod ({ cls := "LetterRepository$Store", name := "putLetter", desc := "(III)I" } : MethodName)) ∈ TB := tb_3 127 rfl rfl
theorem tw_3_128 : (Cond.selects "LetterRepository$Store" ({ cls := "LetterRepository$Store", name := "putLetter", desc := "(III)I" } : MethodName) ({ cls := "LetterRepository$Store", name := "putLetter", desc := "(III)I" } : MethodName)) ∈ TB := tb_3 128 rfl rfl
theorem tw_3_129 : (Cond.code ({ cls := "LetterRepository$Store", name := "putLetter", desc := "(III)I" } : MethodName) prog_10_method_13_code (4 : Nat) (some FieldType.int)) ∈ TB := tb_3 129 rfl rfl
theorem tw_3_130 : (Cond.methodLink "LetterRepository$Store" (71 : Nat) ({ cls := "LetterRepository$Store", name := "putWorking", desc := "(III)V" } : MethodName)) ∈ TB := tb_3 130 rfl rfl
theorem tw_3_132 : (Cond.instanceMethod ({ cls := "LetterRepository$Store", name := "putWorking", desc := "(III)V" } : MethodName)) ∈ TB := tb_3 132 rfl rfl
theorem tw_3_133 : (Cond.code ({ cls := "LetterRepository$Store", name := "putWorking", desc := "(III)V" } : MethodName) prog_10_method_6_code (4 : Nat) (none : Option FieldType)) ∈ TB := tb_3 133 rfl rfl
theorem tw_3_134 : (Cond.methodLink "LetterRepository$Store" (48 : Nat) ({ cls := "LetterRepository$Row", name := "set", desc := "(II)V" } : MethodName)) ∈ TB := tb_3 134 rfl rfl
theorem tw_3_135 : (Cond.instanceMethod ({ cls := "LetterRepository$Row", name := "set", desc := "(II)V" } : MethodName)) ∈ TB := tb_3 135 rfl rfl
theorem tw_3_136 : (Cond.selects "LetterRepository$Row" ({ cls := "LetterRepository$Row", name := "set", desc := "(II)V" } : MethodName) ({ cls := "LetterRepository$Row", name := "set", desc := "(II)V" } : MethodName)) ∈ TB := tb_3 136 rfl rfl
theorem tw_3_137 : (Cond.code ({ cls := "LetterRepository$Row", name := "set", desc := "(II)V" } : MethodName) prog_9_method_3_code (3 : Nat) (none : Option FieldType)) ∈ TB := tb_3 137 rfl rfl
theorem tw_3_138 : (Cond.methodLink "LetterRepository$Store" (97 : Nat) ({ cls := "LetterRepository$Store", name := "countEdits", desc := "(I)I" } : MethodName)) ∈ TB := tb_3 138 rfl rfl
theorem tw_3_139 : (Cond.instanceMethod ({ cls := "LetterRepository$Store", name := "countEdits", desc := "(I)I" } : MethodName)) ∈ TB := tb_3 139 rfl rfl
theorem tw_3_140 : (Cond.selects "LetterRepository$Store" ({ cls := "LetterRepository$Store", name := "countEdits", desc := "(I)I" } : MethodName) ({ cls := "LetterRepository$Store", name := "countEdits", desc := "(I)I" } : MethodName)) ∈ TB := tb_3 140 rfl rfl
theorem tw_3_141 : (Cond.code ({ cls := "LetterRepository$Store", name := "countEdits", desc := "(I)I" } : MethodName) prog_10_method_8_code (4 : Nat) (some FieldType.int)) ∈ TB := tb_3 141 rfl rfl
theorem tw_3_142 : (Cond.methodLink "LetterRepository$Store" (61 : Nat) ({ cls := "LetterRepository$Store", name := "differsFromHead", desc := "(II)Z" } : MethodName)) ∈ TB := tb_3 142 rfl rfl
theorem tw_3_143 : (Cond.instanceMethod ({ cls := "LetterRepository$Store", name := "differsFromHead", desc := "(II)Z" } : MethodName)) ∈ TB := tb_3 143 rfl rfl
theorem tw_3_144 : (Cond.selects "LetterRepository$Store" ({ cls := "LetterRepository$Store", name := "differsFromHead", desc := "(II)Z" } : MethodName) ({ cls := "LetterRepository$Store", name := "differsFromHead", desc := "(II)Z" } : MethodName)) ∈ TB := tb_3 144 rfl rfl
theorem tw_3_145 : (Cond.code ({ cls := "LetterRepository$Store", name := "differsFromHead", desc := "(II)Z" } : MethodName) prog_10_method_7_code (3 : Nat) (some FieldType.boolean)) ∈ TB := tb_3 145 rfl rfl
theorem tw_3_146 : (Cond.methodLink "LetterRepository$Store" (51 : Nat) ({ cls := "LetterRepository$Store", name := "workingLetter", desc := "(II)I" } : MethodName)) ∈ TB := tb_3 146 rfl rfl
theorem tw_3_147 : (Cond.instanceMethod ({ cls := "LetterRepository$Store", name := "workingLetter", desc := "(II)I" } : MethodName)) ∈ TB := tb_3 147 rfl rfl
theorem tw_3_148 : (Cond.selects "LetterRepository$Store" ({ cls := "LetterRepository$Store", name := "workingLetter", desc := "(II)I" } : MethodName) ({ cls := "LetterRepository$Store", name := "workingLetter", desc := "(II)I" } : MethodName)) ∈ TB := tb_3 148 rfl rfl
theorem tw_3_149 : (Cond.code ({ cls := "LetterRepository$Store", name := "workingLetter", desc := "(II)I" } : MethodName) prog_10_method_5_code (3 : Nat) (some FieldType.int)) ∈ TB := tb_3 149 rfl rfl
theorem tw_3_150 : (Cond.methodLink "LetterRepository$Store" (58 : Nat) ({ cls := "LetterRepository$Revisions", name := "letterOf", desc := "(II)I" } : MethodName)) ∈ TB := tb_3 150 rfl rfl
theorem tw_3_151 : (Cond.methodLink "LetterRepositoryLaw" (187 : Nat) ({ cls := "LetterRepositoryLaw", name := "revert", desc := "(LLetterRepository;I[J)I" } : MethodName)) ∈ TB := tb_3 151 rfl rfl
theorem tw_3_152 : (Cond.static ({ cls := "LetterRepositoryLaw", name := "revert", desc := "(LLetterRepository;I[J)I" } : MethodName)) ∈ TB := tb_3 152 rfl rfl
theorem tw_3_153 : (Cond.codeWith ({ cls := "LetterRepositoryLaw", name := "revert", desc := "(LLetterRepository;I[J)I" } : MethodName) method_4_code (4 : Nat) (some FieldType.int) [((0 : Nat), (9 : Nat), (12 : Nat), (13 : Nat))]) ∈ TB := tb_3 153 rfl rfl
theorem tw_3_154 : (Cond.methodLink "LetterRepositoryLaw" (17 : Nat) ({ cls := "LetterRepository", name := "revert", desc := "(I)I" } : MethodName)) ∈ TB := tb_3 154 rfl rfl
theorem tw_3_155 : (Cond.instanceMethod ({ cls := "LetterRepository", name := "revert", desc := "(I)I" } : MethodName)) ∈ TB := tb_3 155 rfl rfl
theorem tw_3_156 : (Cond.selects "LetterRepository" ({ cls := "LetterRepository", name := "revert", desc := "(I)I" } : MethodName) ({ cls := "LetterRepository", name := "revert", desc := "(I)I" } : MethodName)) ∈ TB := tb_3 156 rfl rfl
theorem tw_3_157 : (Cond.code ({ cls := "LetterRepository", name := "revert", desc := "(I)I" } : MethodName) prog_1_method_3_code (2 : Nat) (some FieldType.int)) ∈ TB := tb_3 157 rfl rfl
theorem tw_3_158 : (Cond.methodLink "LetterRepository" (65 : Nat) ({ cls := "LetterRepository$Store", name := "refusalOfRevert", desc := "(I)LLetterRepository$Refusal;" } : MethodName)) ∈ TB := tb_3 158 rfl rfl
theorem tw_3_159 : (Cond.instanceMethod ({ cls := "LetterRepository$Store", name := "refusalOfRevert", desc := "(I)LLetterRepository$Refusal;" } : MethodName)) ∈ TB := tb_3 159 rfl rfl
theorem tw_3_160 : (Cond.selects "LetterRepository$Store" ({ cls := "LetterRepository$Store", name := "refusalOfRevert", desc := "(I)LLetterRepository$Refusal;" } : MethodName) ({ cls := "LetterRepository$Store", name := "refusalOfRevert", desc := "(I)LLetterRepository$Refusal;" } : MethodName)) ∈ TB := tb_3 160 rfl rfl
theorem tw_3_161 : (Cond.code ({ cls := "LetterRepository$Store", name := "refusalOfRevert", desc := "(I)LLetterRepository$Refusal;" } : MethodName) prog_10_method_14_code (2 : Nat) (some (FieldType.object "LetterRepository$Refusal"))) ∈ TB := tb_3 161 rfl rfl
theorem tw_3_162 : (Cond.methodLink "LetterRepository" (69 : Nat) ({ cls := "LetterRepository$Store", name := "dropEdits", desc := "(I)I" } : MethodName)) ∈ TB := tb_3 162 rfl rfl
theorem tw_3_163 : (Cond.instanceMethod ({ cls := "LetterRepository$Store", name := "dropEdits", desc := "(I)I" } : MethodName)) ∈ TB := tb_3 163 rfl rfl
theorem tw_3_164 : (Cond.selects "LetterRepository$Store" ({ cls := "LetterRepository$Store", name := "dropEdits", desc := "(I)I" } : MethodName) ({ cls := "LetterRepository$Store", name := "dropEdits", desc := "(I)I" } : MethodName)) ∈ TB := tb_3 164 rfl rfl
theorem tw_3_165 : (Cond.code ({ cls := "LetterRepository$Store", name := "dropEdits", desc := "(I)I" } : MethodName) prog_10_method_15_code (3 : Nat) (some FieldType.int)) ∈ TB := tb_3 165 rfl rfl
theorem tw_3_166 : (Cond.methodLink "LetterRepository$Store" (100 : Nat) ({ cls := "LetterRepository$Store", name := "checkOut", desc := "(II)V" } : MethodName)) ∈ TB := tb_3 166 rfl rfl
theorem tw_3_168 : (Cond.instanceMethod ({ cls := "LetterRepository$Store", name := "checkOut", desc := "(II)V" } : MethodName)) ∈ TB := tb_3 168 rfl rfl
theorem tw_3_169 : (Cond.code ({ cls := "LetterRepository$Store", name := "checkOut", desc := "(II)V" } : MethodName) prog_10_method_11_code (4 : Nat) (none : Option FieldType)) ∈ TB := tb_3 169 rfl rfl
theorem tw_3_170 : (Cond.methodLink "LetterRepositoryLaw" (191 : Nat) ({ cls := "LetterRepositoryLaw", name := "commit", desc := "(LLetterRepository;II[J)I" } : MethodName)) ∈ TB := tb_3 170 rfl rfl
theorem tw_3_171 : (Cond.static ({ cls := "LetterRepositoryLaw", name := "commit", desc := "(LLetterRepository;II[J)I" } : MethodName)) ∈ TB := tb_3 171 rfl rfl
theorem tw_3_172 : (Cond.codeWith ({ cls := "LetterRepositoryLaw", name := "commit", desc := "(LLetterRepository;II[J)I" } : MethodName) method_5_code (5 : Nat) (some FieldType.int) [((0 : Nat), (10 : Nat), (13 : Nat), (13 : Nat)), ((0 : Nat), (10 : Nat), (17 : Nat), (15 : Nat)), ((0 : Nat), (10 : Nat), (21 : Nat), (25 : Nat))]) ∈ TB := tb_3 172 rfl rfl
theorem tw_3_173 : (Cond.classLink "LetterRepositoryLaw" (25 : Nat) "java/lang/IllegalStateException") ∈ TB := tb_3 173 rfl rfl
theorem tw_3_174 : (Cond.methodLink "LetterRepositoryLaw" (21 : Nat) ({ cls := "LetterRepository", name := "commit", desc := "(II)I" } : MethodName)) ∈ TB := tb_3 174 rfl rfl
theorem tw_3_175 : (Cond.instanceMethod ({ cls := "LetterRepository", name := "commit", desc := "(II)I" } : MethodName)) ∈ TB := tb_3 175 rfl rfl
theorem tw_3_176 : (Cond.selects "LetterRepository" ({ cls := "LetterRepository", name := "commit", desc := "(II)I" } : MethodName) ({ cls := "LetterRepository", name := "commit", desc := "(II)I" } : MethodName)) ∈ TB := tb_3 176 rfl rfl
theorem tw_3_177 : (Cond.code ({ cls := "LetterRepository", name := "commit", desc := "(II)I" } : MethodName) prog_1_method_4_code (3 : Nat) (some FieldType.int)) ∈ TB := tb_3 177 rfl rfl
theorem tw_3_178 : (Cond.methodLink "LetterRepository" (73 : Nat) ({ cls := "LetterRepository$Store", name := "refusalOfCommit", desc := "(II)LLetterRepository$Refusal;" } : MethodName)) ∈ TB := tb_3 178 rfl rfl
theorem tw_3_179 : (Cond.instanceMethod ({ cls := "LetterRepository$Store", name := "refusalOfCommit", desc := "(II)LLetterRepository$Refusal;" } : MethodName)) ∈ TB := tb_3 179 rfl rfl
theorem tw_3_180 : (Cond.selects "LetterRepository$Store" ({ cls := "LetterRepository$Store", name := "refusalOfCommit", desc := "(II)LLetterRepository$Refusal;" } : MethodName) ({ cls := "LetterRepository$Store", name := "refusalOfCommit", desc := "(II)LLetterRepository$Refusal;" } : MethodName)) ∈ TB := tb_3 180 rfl rfl
theorem tw_3_181 : (Cond.code ({ cls := "LetterRepository$Store", name := "refusalOfCommit", desc := "(II)LLetterRepository$Refusal;" } : MethodName) prog_10_method_16_code (3 : Nat) (some (FieldType.object "LetterRepository$Refusal"))) ∈ TB := tb_3 181 rfl rfl
theorem tw_3_182 : (Cond.methodLinkNest "LetterRepository$Store" (103 : Nat) ({ cls := "LetterRepository", name := "isAuthor", desc := "(I)Z" } : MethodName) "LetterRepository") ∈ NB := nb_3 182 rfl rfl
theorem tw_3_183 : (Cond.static ({ cls := "LetterRepository", name := "isAuthor", desc := "(I)Z" } : MethodName)) ∈ TB := tb_3 183 rfl rfl
theorem tw_3_184 : (Cond.code ({ cls := "LetterRepository", name := "isAuthor", desc := "(I)Z" } : MethodName) prog_1_method_71_code (1 : Nat) (some FieldType.boolean)) ∈ TB := tb_3 184 rfl rfl
theorem tw_3_185 : (Cond.methodLink "LetterRepository$Store" (106 : Nat) ({ cls := "LetterRepository$Revisions", name := "isFull", desc := "()Z" } : MethodName)) ∈ TB := tb_3 185 rfl rfl
theorem tw_3_186 : (Cond.instanceMethod ({ cls := "LetterRepository$Revisions", name := "isFull", desc := "()Z" } : MethodName)) ∈ TB := tb_3 186 rfl rfl
theorem tw_3_187 : (Cond.selects "LetterRepository$Revisions" ({ cls := "LetterRepository$Revisions", name := "isFull", desc := "()Z" } : MethodName) ({ cls := "LetterRepository$Revisions", name := "isFull", desc := "()Z" } : MethodName)) ∈ TB := tb_3 187 rfl rfl
theorem tw_3_188 : (Cond.code ({ cls := "LetterRepository$Revisions", name := "isFull", desc := "()Z" } : MethodName) prog_8_method_4_code (1 : Nat) (some FieldType.boolean)) ∈ TB := tb_3 188 rfl rfl
theorem tw_3_189 : (Cond.fieldLink "LetterRepository$Store" (110 : Nat) "LetterRepository$Refusal" "STATE" "LLetterRepository$Refusal;") ∈ TB := tb_3 189 rfl rfl
theorem tw_3_190 : (Cond.methodLink "LetterRepository" (77 : Nat) ({ cls := "LetterRepository$Store", name := "commitWorking", desc := "(II)I" } : MethodName)) ∈ TB := tb_3 190 rfl rfl
theorem tw_3_191 : (Cond.instanceMethod ({ cls := "LetterRepository$Store", name := "commitWorking", desc := "(II)I" } : MethodName)) ∈ TB := tb_3 191 rfl rfl
theorem tw_3_192 : (Cond.selects "LetterRepository$Store" ({ cls := "LetterRepository$Store", name := "commitWorking", desc := "(II)I" } : MethodName) ({ cls := "LetterRepository$Store", name := "commitWorking", desc := "(II)I" } : MethodName)) ∈ TB := tb_3 192 rfl rfl
theorem tw_3_193 : (Cond.code ({ cls := "LetterRepository$Store", name := "commitWorking", desc := "(II)I" } : MethodName) prog_10_method_17_code (5 : Nat) (some FieldType.int)) ∈ TB := tb_3 193 rfl rfl
theorem tw_3_194 : (Cond.methodLink "LetterRepository$Store" (113 : Nat) ({ cls := "LetterRepository$Revisions", name := "add", desc := "(III)I" } : MethodName)) ∈ TB := tb_3 194 rfl rfl
theorem tw_3_195 : (Cond.instanceMethod ({ cls := "LetterRepository$Revisions", name := "add", desc := "(III)I" } : MethodName)) ∈ TB := tb_3 195 rfl rfl
theorem tw_3_196 : (Cond.selects "LetterRepository$Revisions" ({ cls := "LetterRepository$Revisions", name := "add", desc := "(III)I" } : MethodName) ({ cls := "LetterRepository$Revisions", name := "add", desc := "(III)I" } : MethodName)) ∈ TB := tb_3 196 rfl rfl
theorem tw_3_197 : (Cond.code ({ cls := "LetterRepository$Revisions", name := "add", desc := "(III)I" } : MethodName) prog_8_method_14_code (6 : Nat) (some FieldType.int)) ∈ TB := tb_3 197 rfl rfl
theorem tw_3_198 : (Cond.methodLink "LetterRepository$Revisions" (64 : Nat) ({ cls := "LetterRepository$Row", name := "set", desc := "(II)V" } : MethodName)) ∈ TB := tb_3 198 rfl rfl
theorem tw_3_199 : (Cond.methodLink "LetterRepository$Revisions" (70 : Nat) ({ cls := "java/lang/Math", name := "max", desc := "(II)I" } : MethodName)) ∈ TB := tb_3 199 rfl rfl
theorem tw_3_200 : (Cond.static ({ cls := "java/lang/Math", name := "max", desc := "(II)I" } : MethodName)) ∈ TB := tb_3 200 rfl rfl
theorem tw_3_201 : (Cond.code ({ cls := "java/lang/Math", name := "max", desc := "(II)I" } : MethodName) prog_26_method_65_code (2 : Nat) (some FieldType.int)) ∈ TB := tb_3 201 rfl rfl
theorem tw_3_202 : (Cond.methodLink "LetterRepository$Store" (117 : Nat) ({ cls := "LetterRepository$Revisions", name := "putLetter", desc := "(III)V" } : MethodName)) ∈ TB := tb_3 202 rfl rfl
theorem tw_3_203 : (Cond.instanceMethod ({ cls := "LetterRepository$Revisions", name := "putLetter", desc := "(III)V" } : MethodName)) ∈ TB := tb_3 203 rfl rfl
theorem tw_3_204 : (Cond.selects "LetterRepository$Revisions" ({ cls := "LetterRepository$Revisions", name := "putLetter", desc := "(III)V" } : MethodName) ({ cls := "LetterRepository$Revisions", name := "putLetter", desc := "(III)V" } : MethodName)) ∈ TB := tb_3 204 rfl rfl
theorem tw_3_205 : (Cond.code ({ cls := "LetterRepository$Revisions", name := "putLetter", desc := "(III)V" } : MethodName) prog_8_method_13_code (4 : Nat) (none : Option FieldType)) ∈ TB := tb_3 205 rfl rfl
theorem tw_3_206 : (Cond.methodLink "LetterRepositoryLaw" (195 : Nat) ({ cls := "LetterRepositoryLaw", name := "createBranch", desc := "(LLetterRepository;I[J)I" } : MethodName)) ∈ TB := tb_3 206 rfl rfl
theorem tw_3_207 : (Cond.static ({ cls := "LetterRepositoryLaw", name := "createBranch", desc := "(LLetterRepository;I[J)I" } : MethodName)) ∈ TB := tb_3 207 rfl rfl
theorem tw_3_208 : (Cond.codeWith ({ cls := "LetterRepositoryLaw", name := "createBranch", desc := "(LLetterRepository;I[J)I" } : MethodName) method_6_code (4 : Nat) (some FieldType.int) [((0 : Nat), (9 : Nat), (12 : Nat), (30 : Nat)), ((0 : Nat), (9 : Nat), (15 : Nat), (25 : Nat))]) ∈ TB := tb_3 208 rfl rfl
theorem tw_3_209 : (Cond.classLink "LetterRepositoryLaw" (30 : Nat) "java/util/NoSuchElementException") ∈ TB := tb_3 209 rfl rfl
theorem tw_3_210 : (Cond.methodLink "LetterRepositoryLaw" (27 : Nat) ({ cls := "LetterRepository", name := "createBranch", desc := "(I)I" } : MethodName)) ∈ TB := tb_3 210 rfl rfl
theorem tw_3_211 : (Cond.instanceMethod ({ cls := "LetterRepository", name := "createBranch", desc := "(I)I" } : MethodName)) ∈ TB := tb_3 211 rfl rfl
theorem tw_3_212 : (Cond.selects "LetterRepository" ({ cls := "LetterRepository", name := "createBranch", desc := "(I)I" } : MethodName) ({ cls := "LetterRepository", name := "createBranch", desc := "(I)I" } : MethodName)) ∈ TB := tb_3 212 rfl rfl
theorem tw_3_213 : (Cond.code ({ cls := "LetterRepository", name := "createBranch", desc := "(I)I" } : MethodName) prog_1_method_5_code (2 : Nat) (some FieldType.int)) ∈ TB := tb_3 213 rfl rfl
theorem tw_3_214 : (Cond.methodLink "LetterRepository" (81 : Nat) ({ cls := "LetterRepository$Store", name := "refusalOfBranching", desc := "(I)LLetterRepository$Refusal;" } : MethodName)) ∈ TB := tb_3 214 rfl rfl
theorem tw_3_215 : (Cond.instanceMethod ({ cls := "LetterRepository$Store", name := "refusalOfBranching", desc := "(I)LLetterRepository$Refusal;" } : MethodName)) ∈ TB := tb_3 215 rfl rfl
theorem tw_3_216 : (Cond.selects "LetterRepository$Store" ({ cls := "LetterRepository$Store", name := "refusalOfBranching", desc := "(I)LLetterRepository$Refusal;" } : MethodName) ({ cls := "LetterRepository$Store", name := "refusalOfBranching", desc := "(I)LLetterRepository$Refusal;" } : MethodName)) ∈ TB := tb_3 216 rfl rfl
theorem tw_3_217 : (Cond.code ({ cls := "LetterRepository$Store", name := "refusalOfBranching", desc := "(I)LLetterRepository$Refusal;" } : MethodName) prog_10_method_20_code (2 : Nat) (some (FieldType.object "LetterRepository$Refusal"))) ∈ TB := tb_3 217 rfl rfl
theorem tw_3_218 : (Cond.methodLink "LetterRepository$Store" (120 : Nat) ({ cls := "LetterRepository$Revisions", name := "isOpen", desc := "(I)Z" } : MethodName)) ∈ TB := tb_3 218 rfl rfl
theorem tw_3_219 : (Cond.instanceMethod ({ cls := "LetterRepository$Revisions", name := "isOpen", desc := "(I)Z" } : MethodName)) ∈ TB := tb_3 219 rfl rfl
theorem tw_3_220 : (Cond.selects "LetterRepository$Revisions" ({ cls := "LetterRepository$Revisions", name := "isOpen", desc := "(I)Z" } : MethodName) ({ cls := "LetterRepository$Revisions", name := "isOpen", desc := "(I)Z" } : MethodName)) ∈ TB := tb_3 220 rfl rfl
theorem tw_3_221 : (Cond.code ({ cls := "LetterRepository$Revisions", name := "isOpen", desc := "(I)Z" } : MethodName) prog_8_method_6_code (2 : Nat) (some FieldType.boolean)) ∈ TB := tb_3 221 rfl rfl
theorem tw_3_222 : (Cond.methodLink "LetterRepository$Revisions" (58 : Nat) ({ cls := "LetterRepository$Revisions", name := "inArchive", desc := "(I)Z" } : MethodName)) ∈ TB := tb_3 222 rfl rfl
theorem tw_3_223 : (Cond.instanceMethod ({ cls := "LetterRepository$Revisions", name := "inArchive", desc := "(I)Z" } : MethodName)) ∈ TB := tb_3 223 rfl rfl
theorem tw_3_224 : (Cond.selects "LetterRepository$Revisions" ({ cls := "LetterRepository$Revisions", name := "inArchive", desc := "(I)Z" } : MethodName) ({ cls := "LetterRepository$Revisions", name := "inArchive", desc := "(I)Z" } : MethodName)) ∈ TB := tb_3 224 rfl rfl
theorem tw_3_225 : (Cond.code ({ cls := "LetterRepository$Revisions", name := "inArchive", desc := "(I)Z" } : MethodName) prog_8_method_5_code (2 : Nat) (some FieldType.boolean)) ∈ TB := tb_3 225 rfl rfl
theorem tw_3_226 : (Cond.fieldLink "LetterRepository$Store" (123 : Nat) "LetterRepository$Refusal" "ELEMENT" "LLetterRepository$Refusal;") ∈ TB := tb_3 226 rfl rfl
theorem tw_3_227 : (Cond.methodLink "LetterRepository" (84 : Nat) ({ cls := "LetterRepository$Store", name := "openBranch", desc := "(I)I" } : MethodName)) ∈ TB := tb_3 227 rfl rfl
theorem tw_3_228 : (Cond.instanceMethod ({ cls := "LetterRepository$Store", name := "openBranch", desc := "(I)I" } : MethodName)) ∈ TB := tb_3 228 rfl rfl
theorem tw_3_229 : (Cond.selects "LetterRepository$Store" ({ cls := "LetterRepository$Store", name := "openBranch", desc := "(I)I" } : MethodName) ({ cls := "LetterRepository$Store", name := "openBranch", desc := "(I)I" } : MethodName)) ∈ TB := tb_3 229 rfl rfl
theorem tw_3_230 : (Cond.code ({ cls := "LetterRepository$Store", name := "openBranch", desc := "(I)I" } : MethodName) prog_10_method_21_code (3 : Nat) (some FieldType.int)) ∈ TB := tb_3 230 rfl rfl
theorem tw_3_231 : (Cond.methodLink "LetterRepositoryLaw" (198 : Nat) ({ cls := "LetterRepositoryLaw", name := "closeBranch", desc := "(LLetterRepository;I[J)I" } : MethodName)) ∈ TB := tb_3 231 rfl rfl
theorem tw_3_232 : (Cond.static ({ cls := "LetterRepositoryLaw", name := "closeBranch", desc := "(LLetterRepository;I[J)I" } : MethodName)) ∈ TB := tb_3 232 rfl rfl
theorem tw_3_233 : (Cond.codeWith ({ cls := "LetterRepositoryLaw", name := "closeBranch", desc := "(LLetterRepository;I[J)I" } : MethodName) method_7_code (4 : Nat) (some FieldType.int) [((0 : Nat), (9 : Nat), (12 : Nat), (13 : Nat)), ((0 : Nat), (9 : Nat), (15 : Nat), (25 : Nat))]) ∈ TB := tb_3 233 rfl rfl
theorem tw_3_234 : (Cond.methodLink "LetterRepositoryLaw" (32 : Nat) ({ cls := "LetterRepository", name := "closeBranch", desc := "(I)I" } : MethodName)) ∈ TB := tb_3 234 rfl rfl
theorem tw_3_235 : (Cond.instanceMethod ({ cls := "LetterRepository", name := "closeBranch", desc := "(I)I" } : MethodName)) ∈ TB := tb_3 235 rfl rfl
theorem tw_3_236 : (Cond.selects "LetterRepository" ({ cls := "LetterRepository", name := "closeBranch", desc := "(I)I" } : MethodName) ({ cls := "LetterRepository", name := "closeBranch", desc := "(I)I" } : MethodName)) ∈ TB := tb_3 236 rfl rfl
theorem tw_3_237 : (Cond.code ({ cls := "LetterRepository", name := "closeBranch", desc := "(I)I" } : MethodName) prog_1_method_6_code (2 : Nat) (some FieldType.int)) ∈ TB := tb_3 237 rfl rfl
theorem tw_3_238 : (Cond.methodLink "LetterRepository" (87 : Nat) ({ cls := "LetterRepository$Store", name := "refusalOfClosing", desc := "(I)LLetterRepository$Refusal;" } : MethodName)) ∈ TB := tb_3 238 rfl rfl
theorem tw_3_239 : (Cond.instanceMethod ({ cls := "LetterRepository$Store", name := "refusalOfClosing", desc := "(I)LLetterRepository$Refusal;" } : MethodName)) ∈ TB := tb_3 239 rfl rfl
theorem tw_4_0 : (Cond.selects "LetterRepository$Store" ({ cls := "LetterRepository$Store", name := "refusalOfClosing", desc := "(I)LLetterRepository$Refusal;" } : MethodName) ({ cls := "LetterRepository$Store", name := "refusalOfClosing", desc := "(I)LLetterRepository$Refusal;" } : MethodName)) ∈ TB := tb_4 0 rfl rfl
theorem tw_4_1 : (Cond.code ({ cls := "LetterRepository$Store", name := "refusalOfClosing", desc := "(I)LLetterRepository$Refusal;" } : MethodName) prog_10_method_22_code (2 : Nat) (some (FieldType.object "LetterRepository$Refusal"))) ∈ TB := tb_4 1 rfl rfl
theorem tw_4_2 : (Cond.methodLink "LetterRepository" (90 : Nat) ({ cls := "LetterRepository$Store", name := "dropBranch", desc := "(I)I" } : MethodName)) ∈ TB := tb_4 2 rfl rfl
theorem tw_4_3 : (Cond.instanceMethod ({ cls := "LetterRepository$Store", name := "dropBranch", desc := "(I)I" } : MethodName)) ∈ TB := tb_4 3 rfl rfl
theorem tw_4_4 : (Cond.selects "LetterRepository$Store" ({ cls := "LetterRepository$Store", name := "dropBranch", desc := "(I)I" } : MethodName) ({ cls := "LetterRepository$Store", name := "dropBranch", desc := "(I)I" } : MethodName)) ∈ TB := tb_4 4 rfl rfl
theorem tw_4_5 : (Cond.code ({ cls := "LetterRepository$Store", name := "dropBranch", desc := "(I)I" } : MethodName) prog_10_method_23_code (4 : Nat) (some FieldType.int)) ∈ TB := tb_4 5 rfl rfl
theorem tw_4_6 : (Cond.methodLink "LetterRepositoryLaw" (201 : Nat) ({ cls := "LetterRepositoryLaw", name := "merge", desc := "(LLetterRepository;II[J)I" } : MethodName)) ∈ TB := tb_4 6 rfl rfl
theorem tw_4_7 : (Cond.static ({ cls := "LetterRepositoryLaw", name := "merge", desc := "(LLetterRepository;II[J)I" } : MethodName)) ∈ TB := tb_4 7 rfl rfl
theorem tw_4_8 : (Cond.codeWith ({ cls := "LetterRepositoryLaw", name := "merge", desc := "(LLetterRepository;II[J)I" } : MethodName) method_8_code (5 : Nat) (some FieldType.int) [((0 : Nat), (10 : Nat), (13 : Nat), (13 : Nat)), ((0 : Nat), (10 : Nat), (17 : Nat), (15 : Nat)), ((0 : Nat), (10 : Nat), (21 : Nat), (25 : Nat))]) ∈ TB := tb_4 8 rfl rfl
theorem tw_4_9 : (Cond.methodLink "LetterRepositoryLaw" (35 : Nat) ({ cls := "LetterRepository", name := "merge", desc := "(II)I" } : MethodName)) ∈ TB := tb_4 9 rfl rfl
theorem tw_4_10 : (Cond.instanceMethod ({ cls := "LetterRepository", name := "merge", desc := "(II)I" } : MethodName)) ∈ TB := tb_4 10 rfl rfl
theorem tw_4_11 : (Cond.selects "LetterRepository" ({ cls := "LetterRepository", name := "merge", desc := "(II)I" } : MethodName) ({ cls := "LetterRepository", name := "merge", desc := "(II)I" } : MethodName)) ∈ TB := tb_4 11 rfl rfl
theorem tw_4_12 : (Cond.code ({ cls := "LetterRepository", name := "merge", desc := "(II)I" } : MethodName) prog_1_method_7_code (3 : Nat) (some FieldType.int)) ∈ TB := tb_4 12 rfl rfl
theorem tw_4_13 : (Cond.methodLink "LetterRepository" (93 : Nat) ({ cls := "LetterRepository$Store", name := "refusalOfMerge", desc := "(II)LLetterRepository$Refusal;" } : MethodName)) ∈ TB := tb_4 13 rfl rfl
theorem tw_4_14 : (Cond.instanceMethod ({ cls := "LetterRepository$Store", name := "refusalOfMerge", desc := "(II)LLetterRepository$Refusal;" } : MethodName)) ∈ TB := tb_4 14 rfl rfl
theorem tw_4_15 : (Cond.selects "LetterRepository$Store" ({ cls := "LetterRepository$Store", name := "refusalOfMerge", desc := "(II)LLetterRepository$Refusal;" } : MethodName) ({ cls := "LetterRepository$Store", name := "refusalOfMerge", desc := "(II)LLetterRepository$Refusal;" } : MethodName)) ∈ TB := tb_4 15 rfl rfl
theorem tw_4_16 : (Cond.code ({ cls := "LetterRepository$Store", name := "refusalOfMerge", desc := "(II)LLetterRepository$Refusal;" } : MethodName) prog_10_method_26_code (4 : Nat) (some (FieldType.object "LetterRepository$Refusal"))) ∈ TB := tb_4 16 rfl rfl
theorem tw_4_17 : (Cond.methodLink "LetterRepository$Store" (136 : Nat) ({ cls := "LetterRepository$Store", name := "refusalOfKeeping", desc := "(II)LLetterRepository$Refusal;" } : MethodName)) ∈ TB := tb_4 17 rfl rfl
theorem tw_4_18 : (Cond.instanceMethod ({ cls := "LetterRepository$Store", name := "refusalOfKeeping", desc := "(II)LLetterRepository$Refusal;" } : MethodName)) ∈ TB := tb_4 18 rfl rfl
theorem tw_4_19 : (Cond.selects "LetterRepository$Store" ({ cls := "LetterRepository$Store", name := "refusalOfKeeping", desc := "(II)LLetterRepository$Refusal;" } : MethodName) ({ cls := "LetterRepository$Store", name := "refusalOfKeeping", desc := "(II)LLetterRepository$Refusal;" } : MethodName)) ∈ TB := tb_4 19 rfl rfl
theorem tw_4_20 : (Cond.code ({ cls := "LetterRepository$Store", name := "refusalOfKeeping", desc := "(II)LLetterRepository$Refusal;" } : MethodName) prog_10_method_25_code (6 : Nat) (some (FieldType.object "LetterRepository$Refusal"))) ∈ TB := tb_4 20 rfl rfl
theorem tw_4_21 : (Cond.methodLink "LetterRepository$Store" (126 : Nat) ({ cls := "LetterRepository$Store", name := "refusalOfPair", desc := "(II)LLetterRepository$Refusal;" } : MethodName)) ∈ TB := tb_4 21 rfl rfl
theorem tw_4_22 : (Cond.instanceMethod ({ cls := "LetterRepository$Store", name := "refusalOfPair", desc := "(II)LLetterRepository$Refusal;" } : MethodName)) ∈ TB := tb_4 22 rfl rfl
theorem tw_4_23 : (Cond.selects "LetterRepository$Store" ({ cls := "LetterRepository$Store", name := "refusalOfPair", desc := "(II)LLetterRepository$Refusal;" } : MethodName) ({ cls := "LetterRepository$Store", name := "refusalOfPair", desc := "(II)LLetterRepository$Refusal;" } : MethodName)) ∈ TB := tb_4 23 rfl rfl
theorem tw_4_24 : (Cond.code ({ cls := "LetterRepository$Store", name := "refusalOfPair", desc := "(II)LLetterRepository$Refusal;" } : MethodName) prog_10_method_24_code (3 : Nat) (some (FieldType.object "LetterRepository$Refusal"))) ∈ TB := tb_4 24 rfl rfl
theorem tw_4_25 : (Cond.methodLink "LetterRepository$Store" (130 : Nat) ({ cls := "LetterRepository$Revisions", name := "ancestorSetOf", desc := "(I)I" } : MethodName)) ∈ TB := tb_4 25 rfl rfl
theorem tw_4_26 : (Cond.methodLink "LetterRepository$Store" (139 : Nat) ({ cls := "LetterRepository$Store", name := "countConflicts", desc := "(II)I" } : MethodName)) ∈ TB := tb_4 26 rfl rfl
theorem tw_4_27 : (Cond.instanceMethod ({ cls := "LetterRepository$Store", name := "countConflicts", desc := "(II)I" } : MethodName)) ∈ TB := tb_4 27 rfl rfl
theorem tw_4_28 : (Cond.selects "LetterRepository$Store" ({ cls := "LetterRepository$Store", name := "countConflicts", desc := "(II)I" } : MethodName) ({ cls := "LetterRepository$Store", name := "countConflicts", desc := "(II)I" } : MethodName)) ∈ TB := tb_4 28 rfl rfl
theorem tw_4_29 : (Cond.code ({ cls := "LetterRepository$Store", name := "countConflicts", desc := "(II)I" } : MethodName) prog_10_method_28_code (5 : Nat) (some FieldType.int)) ∈ TB := tb_4 29 rfl rfl
theorem tw_4_30 : (Cond.methodLink "LetterRepository$Store" (145 : Nat) ({ cls := "LetterRepository$Store", name := "mergedSign", desc := "(III)I" } : MethodName)) ∈ TB := tb_4 30 rfl rfl
theorem tw_4_31 : (Cond.instanceMethod ({ cls := "LetterRepository$Store", name := "mergedSign", desc := "(III)I" } : MethodName)) ∈ TB := tb_4 31 rfl rfl
theorem tw_4_32 : (Cond.selects "LetterRepository$Store" ({ cls := "LetterRepository$Store", name := "mergedSign", desc := "(III)I" } : MethodName) ({ cls := "LetterRepository$Store", name := "mergedSign", desc := "(III)I" } : MethodName)) ∈ TB := tb_4 32 rfl rfl
theorem tw_4_33 : (Cond.code ({ cls := "LetterRepository$Store", name := "mergedSign", desc := "(III)I" } : MethodName) prog_10_method_27_code (9 : Nat) (some FieldType.int)) ∈ TB := tb_4 33 rfl rfl
theorem tw_4_34 : (Cond.methodLink "LetterRepository" (96 : Nat) ({ cls := "LetterRepository$Store", name := "mergeHeads", desc := "(IIZ)I" } : MethodName)) ∈ TB := tb_4 34 rfl rfl
theorem tw_4_35 : (Cond.instanceMethod ({ cls := "LetterRepository$Store", name := "mergeHeads", desc := "(IIZ)I" } : MethodName)) ∈ TB := tb_4 35 rfl rfl
theorem tw_4_36 : (Cond.selects "LetterRepository$Store" ({ cls := "LetterRepository$Store", name := "mergeHeads", desc := "(IIZ)I" } : MethodName) ({ cls := "LetterRepository$Store", name := "mergeHeads", desc := "(IIZ)I" } : MethodName)) ∈ TB := tb_4 36 rfl rfl
theorem tw_4_37 : (Cond.code ({ cls := "LetterRepository$Store", name := "mergeHeads", desc := "(IIZ)I" } : MethodName) prog_10_method_30_code (7 : Nat) (some FieldType.int)) ∈ TB := tb_4 37 rfl rfl
theorem tw_4_38 : (Cond.methodLink "LetterRepository$Store" (148 : Nat) ({ cls := "LetterRepository$Revisions", name := "writerOf", desc := "(I)I" } : MethodName)) ∈ TB := tb_4 38 rfl rfl
theorem tw_4_39 : (Cond.methodLink "LetterRepositoryLaw" (204 : Nat) ({ cls := "LetterRepositoryLaw", name := "mergeKeeping", desc := "(LLetterRepository;IIZ[J)I" } : MethodName)) ∈ TB := tb_4 39 rfl rfl
theorem tw_4_40 : (Cond.static ({ cls := "LetterRepositoryLaw", name := "mergeKeeping", desc := "(LLetterRepository;IIZ[J)I" } : MethodName)) ∈ TB := tb_4 40 rfl rfl
theorem tw_4_41 : (Cond.codeWith ({ cls := "LetterRepositoryLaw", name := "mergeKeeping", desc := "(LLetterRepository;IIZ[J)I" } : MethodName) method_9_code (6 : Nat) (some FieldType.int) [((0 : Nat), (12 : Nat), (15 : Nat), (13 : Nat)), ((0 : Nat), (12 : Nat), (19 : Nat), (15 : Nat)), ((0 : Nat), (12 : Nat), (23 : Nat), (25 : Nat))]) ∈ TB := tb_4 41 rfl rfl
theorem tw_4_42 : (Cond.methodLink "LetterRepositoryLaw" (38 : Nat) ({ cls := "LetterRepository", name := "mergeKeeping", desc := "(IIZ)I" } : MethodName)) ∈ TB := tb_4 42 rfl rfl
theorem tw_4_43 : (Cond.instanceMethod ({ cls := "LetterRepository", name := "mergeKeeping", desc := "(IIZ)I" } : MethodName)) ∈ TB := tb_4 43 rfl rfl
theorem tw_4_44 : (Cond.selects "LetterRepository" ({ cls := "LetterRepository", name := "mergeKeeping", desc := "(IIZ)I" } : MethodName) ({ cls := "LetterRepository", name := "mergeKeeping", desc := "(IIZ)I" } : MethodName)) ∈ TB := tb_4 44 rfl rfl
theorem tw_4_45 : (Cond.code ({ cls := "LetterRepository", name := "mergeKeeping", desc := "(IIZ)I" } : MethodName) prog_1_method_8_code (4 : Nat) (some FieldType.int)) ∈ TB := tb_4 45 rfl rfl
theorem tw_4_46 : (Cond.methodLink "LetterRepository" (100 : Nat) ({ cls := "LetterRepository$Store", name := "refusalOfKeeping", desc := "(II)LLetterRepository$Refusal;" } : MethodName)) ∈ TB := tb_4 46 rfl rfl
theorem tw_4_47 : (Cond.methodLink "LetterRepositoryLaw" (208 : Nat) ({ cls := "LetterRepositoryLaw", name := "pick", desc := "(LLetterRepository;II[J)I" } : MethodName)) ∈ TB := tb_4 47 rfl rfl
theorem tw_4_48 : (Cond.static ({ cls := "LetterRepositoryLaw", name := "pick", desc := "(LLetterRepository;II[J)I" } : MethodName)) ∈ TB := tb_4 48 rfl rfl
theorem tw_4_49 : (Cond.codeWith ({ cls := "LetterRepositoryLaw", name := "pick", desc := "(LLetterRepository;II[J)I" } : MethodName) method_10_code (5 : Nat) (some FieldType.int) [((0 : Nat), (10 : Nat), (13 : Nat), (13 : Nat)), ((0 : Nat), (10 : Nat), (17 : Nat), (30 : Nat)), ((0 : Nat), (10 : Nat), (21 : Nat), (25 : Nat))]) ∈ TB := tb_4 49 rfl rfl
theorem tw_4_50 : (Cond.methodLink "LetterRepositoryLaw" (42 : Nat) ({ cls := "LetterRepository", name := "pick", desc := "(II)I" } : MethodName)) ∈ TB := tb_4 50 rfl rfl
theorem tw_4_51 : (Cond.instanceMethod ({ cls := "LetterRepository", name := "pick", desc := "(II)I" } : MethodName)) ∈ TB := tb_4 51 rfl rfl
theorem tw_4_52 : (Cond.selects "LetterRepository" ({ cls := "LetterRepository", name := "pick", desc := "(II)I" } : MethodName) ({ cls := "LetterRepository", name := "pick", desc := "(II)I" } : MethodName)) ∈ TB := tb_4 52 rfl rfl
theorem tw_4_53 : (Cond.code ({ cls := "LetterRepository", name := "pick", desc := "(II)I" } : MethodName) prog_1_method_9_code (3 : Nat) (some FieldType.int)) ∈ TB := tb_4 53 rfl rfl
theorem tw_4_54 : (Cond.methodLink "LetterRepository" (103 : Nat) ({ cls := "LetterRepository$Store", name := "refusalOfPick", desc := "(II)LLetterRepository$Refusal;" } : MethodName)) ∈ TB := tb_4 54 rfl rfl
theorem tw_4_55 : (Cond.instanceMethod ({ cls := "LetterRepository$Store", name := "refusalOfPick", desc := "(II)LLetterRepository$Refusal;" } : MethodName)) ∈ TB := tb_4 55 rfl rfl
theorem tw_4_56 : (Cond.selects "LetterRepository$Store" ({ cls := "LetterRepository$Store", name := "refusalOfPick", desc := "(II)LLetterRepository$Refusal;" } : MethodName) ({ cls := "LetterRepository$Store", name := "refusalOfPick", desc := "(II)LLetterRepository$Refusal;" } : MethodName)) ∈ TB := tb_4 56 rfl rfl
theorem tw_4_57 : (Cond.code ({ cls := "LetterRepository$Store", name := "refusalOfPick", desc := "(II)LLetterRepository$Refusal;" } : MethodName) prog_10_method_31_code (4 : Nat) (some (FieldType.object "LetterRepository$Refusal"))) ∈ TB := tb_4 57 rfl rfl
theorem tw_4_58 : (Cond.methodLink "LetterRepository$Store" (151 : Nat) ({ cls := "LetterRepository$Revisions", name := "firstParentOf", desc := "(I)I" } : MethodName)) ∈ TB := tb_4 58 rfl rfl
theorem tw_4_59 : (Cond.methodLink "LetterRepository$Store" (154 : Nat) ({ cls := "LetterRepository$Store", name := "blocksPicking", desc := "(II)Z" } : MethodName)) ∈ TB := tb_4 59 rfl rfl
theorem tw_4_61 : (Cond.instanceMethod ({ cls := "LetterRepository$Store", name := "blocksPicking", desc := "(II)Z" } : MethodName)) ∈ TB := tb_4 61 rfl rfl
theorem tw_4_62 : (Cond.code ({ cls := "LetterRepository$Store", name := "blocksPicking", desc := "(II)Z" } : MethodName) prog_10_method_33_code (6 : Nat) (some FieldType.boolean)) ∈ TB := tb_4 62 rfl rfl
theorem tw_4_63 : (Cond.methodLink "LetterRepository$Store" (157 : Nat) ({ cls := "LetterRepository$Store", name := "isChanged", desc := "(II)Z" } : MethodName)) ∈ TB := tb_4 63 rfl rfl
theorem tw_4_65 : (Cond.instanceMethod ({ cls := "LetterRepository$Store", name := "isChanged", desc := "(II)Z" } : MethodName)) ∈ TB := tb_4 65 rfl rfl
theorem tw_4_66 : (Cond.code ({ cls := "LetterRepository$Store", name := "isChanged", desc := "(II)Z" } : MethodName) prog_10_method_32_code (3 : Nat) (some FieldType.boolean)) ∈ TB := tb_4 66 rfl rfl
theorem tw_4_67 : (Cond.methodLink "LetterRepository" (106 : Nat) ({ cls := "LetterRepository$Store", name := "pickChange", desc := "(II)I" } : MethodName)) ∈ TB := tb_4 67 rfl rfl
theorem tw_4_68 : (Cond.instanceMethod ({ cls := "LetterRepository$Store", name := "pickChange", desc := "(II)I" } : MethodName)) ∈ TB := tb_4 68 rfl rfl
theorem tw_4_69 : (Cond.selects "LetterRepository$Store" ({ cls := "LetterRepository$Store", name := "pickChange", desc := "(II)I" } : MethodName) ({ cls := "LetterRepository$Store", name := "pickChange", desc := "(II)I" } : MethodName)) ∈ TB := tb_4 69 rfl rfl
theorem tw_4_70 : (Cond.code ({ cls := "LetterRepository$Store", name := "pickChange", desc := "(II)I" } : MethodName) prog_10_method_34_code (6 : Nat) (some FieldType.int)) ∈ TB := tb_4 70 rfl rfl
theorem tw_4_71 : (Cond.methodLink "LetterRepositoryLaw" (211 : Nat) ({ cls := "LetterRepositoryLaw", name := "reset", desc := "(LLetterRepository;II[J)I" } : MethodName)) ∈ TB := tb_4 71 rfl rfl
theorem tw_4_72 : (Cond.static ({ cls := "LetterRepositoryLaw", name := "reset", desc := "(LLetterRepository;II[J)I" } : MethodName)) ∈ TB := tb_4 72 rfl rfl
theorem tw_4_73 : (Cond.codeWith ({ cls := "LetterRepositoryLaw", name := "reset", desc := "(LLetterRepository;II[J)I" } : MethodName) method_11_code (5 : Nat) (some FieldType.int) [((0 : Nat), (10 : Nat), (13 : Nat), (13 : Nat)), ((0 : Nat), (10 : Nat), (17 : Nat), (30 : Nat)), ((0 : Nat), (10 : Nat), (21 : Nat), (25 : Nat))]) ∈ TB := tb_4 73 rfl rfl
theorem tw_4_74 : (Cond.methodLink "LetterRepositoryLaw" (45 : Nat) ({ cls := "LetterRepository", name := "reset", desc := "(II)I" } : MethodName)) ∈ TB := tb_4 74 rfl rfl
theorem tw_4_75 : (Cond.instanceMethod ({ cls := "LetterRepository", name := "reset", desc := "(II)I" } : MethodName)) ∈ TB := tb_4 75 rfl rfl
theorem tw_4_76 : (Cond.selects "LetterRepository" ({ cls := "LetterRepository", name := "reset", desc := "(II)I" } : MethodName) ({ cls := "LetterRepository", name := "reset", desc := "(II)I" } : MethodName)) ∈ TB := tb_4 76 rfl rfl
theorem tw_4_77 : (Cond.code ({ cls := "LetterRepository", name := "reset", desc := "(II)I" } : MethodName) prog_1_method_10_code (3 : Nat) (some FieldType.int)) ∈ TB := tb_4 77 rfl rfl
theorem tw_4_78 : (Cond.methodLink "LetterRepository" (109 : Nat) ({ cls := "LetterRepository$Store", name := "refusalOfReset", desc := "(II)LLetterRepository$Refusal;" } : MethodName)) ∈ TB := tb_4 78 rfl rfl
theorem tw_4_79 : (Cond.instanceMethod ({ cls := "LetterRepository$Store", name := "refusalOfReset", desc := "(II)LLetterRepository$Refusal;" } : MethodName)) ∈ TB := tb_4 79 rfl rfl
theorem tw_4_80 : (Cond.selects "LetterRepository$Store" ({ cls := "LetterRepository$Store", name := "refusalOfReset", desc := "(II)LLetterRepository$Refusal;" } : MethodName) ({ cls := "LetterRepository$Store", name := "refusalOfReset", desc := "(II)LLetterRepository$Refusal;" } : MethodName)) ∈ TB := tb_4 80 rfl rfl
theorem tw_4_81 : (Cond.code ({ cls := "LetterRepository$Store", name := "refusalOfReset", desc := "(II)LLetterRepository$Refusal;" } : MethodName) prog_10_method_18_code (3 : Nat) (some (FieldType.object "LetterRepository$Refusal"))) ∈ TB := tb_4 81 rfl rfl
theorem tw_4_82 : (Cond.methodLink "LetterRepository" (112 : Nat) ({ cls := "LetterRepository$Store", name := "moveHead", desc := "(II)I" } : MethodName)) ∈ TB := tb_4 82 rfl rfl
theorem tw_4_83 : (Cond.instanceMethod ({ cls := "LetterRepository$Store", name := "moveHead", desc := "(II)I" } : MethodName)) ∈ TB := tb_4 83 rfl rfl
theorem tw_4_84 : (Cond.selects "LetterRepository$Store" ({ cls := "LetterRepository$Store", name := "moveHead", desc := "(II)I" } : MethodName) ({ cls := "LetterRepository$Store", name := "moveHead", desc := "(II)I" } : MethodName)) ∈ TB := tb_4 84 rfl rfl
theorem tw_4_85 : (Cond.code ({ cls := "LetterRepository$Store", name := "moveHead", desc := "(II)I" } : MethodName) prog_10_method_19_code (4 : Nat) (some FieldType.int)) ∈ TB := tb_4 85 rfl rfl
theorem tw_4_86 : (Cond.methodLink "LetterRepositoryLaw" (214 : Nat) ({ cls := "LetterRepositoryLaw", name := "addTag", desc := "(LLetterRepository;CI[J)I" } : MethodName)) ∈ TB := tb_4 86 rfl rfl
theorem tw_4_87 : (Cond.static ({ cls := "LetterRepositoryLaw", name := "addTag", desc := "(LLetterRepository;CI[J)I" } : MethodName)) ∈ TB := tb_4 87 rfl rfl
theorem tw_4_88 : (Cond.codeWith ({ cls := "LetterRepositoryLaw", name := "addTag", desc := "(LLetterRepository;CI[J)I" } : MethodName) method_12_code (5 : Nat) (some FieldType.int) [((0 : Nat), (10 : Nat), (13 : Nat), (15 : Nat)), ((0 : Nat), (10 : Nat), (17 : Nat), (30 : Nat)), ((0 : Nat), (10 : Nat), (21 : Nat), (25 : Nat))]) ∈ TB := tb_4 88 rfl rfl
theorem tw_4_89 : (Cond.methodLink "LetterRepositoryLaw" (48 : Nat) ({ cls := "LetterRepository", name := "addTag", desc := "(CI)I" } : MethodName)) ∈ TB := tb_4 89 rfl rfl
theorem tw_4_90 : (Cond.instanceMethod ({ cls := "LetterRepository", name := "addTag", desc := "(CI)I" } : MethodName)) ∈ TB := tb_4 90 rfl rfl
theorem tw_4_91 : (Cond.selects "LetterRepository" ({ cls := "LetterRepository", name := "addTag", desc := "(CI)I" } : MethodName) ({ cls := "LetterRepository", name := "addTag", desc := "(CI)I" } : MethodName)) ∈ TB := tb_4 91 rfl rfl
theorem tw_4_92 : (Cond.code ({ cls := "LetterRepository", name := "addTag", desc := "(CI)I" } : MethodName) prog_1_method_11_code (3 : Nat) (some FieldType.int)) ∈ TB := tb_4 92 rfl rfl
theorem tw_4_93 : (Cond.methodLink "LetterRepository" (115 : Nat) ({ cls := "LetterRepository$Store", name := "refusalOfTag", desc := "(II)LLetterRepository$Refusal;" } : MethodName)) ∈ TB := tb_4 93 rfl rfl
theorem tw_4_94 : (Cond.instanceMethod ({ cls := "LetterRepository$Store", name := "refusalOfTag", desc := "(II)LLetterRepository$Refusal;" } : MethodName)) ∈ TB := tb_4 94 rfl rfl
theorem tw_4_95 : (Cond.selects "LetterRepository$Store" ({ cls := "LetterRepository$Store", name := "refusalOfTag", desc := "(II)LLetterRepository$Refusal;" } : MethodName) ({ cls := "LetterRepository$Store", name := "refusalOfTag", desc := "(II)LLetterRepository$Refusal;" } : MethodName)) ∈ TB := tb_4 95 rfl rfl
theorem tw_4_96 : (Cond.code ({ cls := "LetterRepository$Store", name := "refusalOfTag", desc := "(II)LLetterRepository$Refusal;" } : MethodName) prog_10_method_38_code (3 : Nat) (some (FieldType.object "LetterRepository$Refusal"))) ∈ TB := tb_4 96 rfl rfl
theorem tw_4_97 : (Cond.methodLinkNest "LetterRepository$Store" (163 : Nat) ({ cls := "LetterRepository", name := "isCapital", desc := "(I)Z" } : MethodName) "LetterRepository") ∈ NB := nb_4 97 rfl rfl
theorem tw_4_98 : (Cond.static ({ cls := "LetterRepository", name := "isCapital", desc := "(I)Z" } : MethodName)) ∈ TB := tb_4 98 rfl rfl
theorem tw_4_99 : (Cond.code ({ cls := "LetterRepository", name := "isCapital", desc := "(I)Z" } : MethodName) prog_1_method_73_code (1 : Nat) (some FieldType.boolean)) ∈ TB := tb_4 99 rfl rfl
theorem tw_4_100 : (Cond.methodLink "LetterRepository" (118 : Nat) ({ cls := "LetterRepository$Store", name := "putTag", desc := "(II)I" } : MethodName)) ∈ TB := tb_4 100 rfl rfl
theorem tw_4_101 : (Cond.instanceMethod ({ cls := "LetterRepository$Store", name := "putTag", desc := "(II)I" } : MethodName)) ∈ TB := tb_4 101 rfl rfl
theorem tw_4_102 : (Cond.selects "LetterRepository$Store" ({ cls := "LetterRepository$Store", name := "putTag", desc := "(II)I" } : MethodName) ({ cls := "LetterRepository$Store", name := "putTag", desc := "(II)I" } : MethodName)) ∈ TB := tb_4 102 rfl rfl
theorem tw_4_103 : (Cond.code ({ cls := "LetterRepository$Store", name := "putTag", desc := "(II)I" } : MethodName) prog_10_method_39_code (3 : Nat) (some FieldType.int)) ∈ TB := tb_4 103 rfl rfl
theorem tw_4_104 : (Cond.methodLink "LetterRepository$Store" (166 : Nat) ({ cls := "LetterRepository$Store", name := "countTags", desc := "()I" } : MethodName)) ∈ TB := tb_4 104 rfl rfl
theorem tw_4_105 : (Cond.methodLink "LetterRepositoryLaw" (218 : Nat) ({ cls := "LetterRepositoryLaw", name := "removeTag", desc := "(LLetterRepository;C[J)I" } : MethodName)) ∈ TB := tb_4 105 rfl rfl
theorem tw_4_106 : (Cond.static ({ cls := "LetterRepositoryLaw", name := "removeTag", desc := "(LLetterRepository;C[J)I" } : MethodName)) ∈ TB := tb_4 106 rfl rfl
theorem tw_4_107 : (Cond.codeWith ({ cls := "LetterRepositoryLaw", name := "removeTag", desc := "(LLetterRepository;C[J)I" } : MethodName) method_13_code (4 : Nat) (some FieldType.int) [((0 : Nat), (9 : Nat), (12 : Nat), (30 : Nat))]) ∈ TB := tb_4 107 rfl rfl
theorem tw_4_108 : (Cond.methodLink "LetterRepositoryLaw" (52 : Nat) ({ cls := "LetterRepository", name := "removeTag", desc := "(C)I" } : MethodName)) ∈ TB := tb_4 108 rfl rfl
theorem tw_4_109 : (Cond.instanceMethod ({ cls := "LetterRepository", name := "removeTag", desc := "(C)I" } : MethodName)) ∈ TB := tb_4 109 rfl rfl
theorem tw_4_110 : (Cond.selects "LetterRepository" ({ cls := "LetterRepository", name := "removeTag", desc := "(C)I" } : MethodName) ({ cls := "LetterRepository", name := "removeTag", desc := "(C)I" } : MethodName)) ∈ TB := tb_4 110 rfl rfl
theorem tw_4_111 : (Cond.code ({ cls := "LetterRepository", name := "removeTag", desc := "(C)I" } : MethodName) prog_1_method_12_code (2 : Nat) (some FieldType.int)) ∈ TB := tb_4 111 rfl rfl
theorem tw_4_112 : (Cond.methodLink "LetterRepository" (121 : Nat) ({ cls := "LetterRepository$Store", name := "refusalOfUntag", desc := "(I)LLetterRepository$Refusal;" } : MethodName)) ∈ TB := tb_4 112 rfl rfl
theorem tw_4_113 : (Cond.instanceMethod ({ cls := "LetterRepository$Store", name := "refusalOfUntag", desc := "(I)LLetterRepository$Refusal;" } : MethodName)) ∈ TB := tb_4 113 rfl rfl
theorem tw_4_114 : (Cond.selects "LetterRepository$Store" ({ cls := "LetterRepository$Store", name := "refusalOfUntag", desc := "(I)LLetterRepository$Refusal;" } : MethodName) ({ cls := "LetterRepository$Store", name := "refusalOfUntag", desc := "(I)LLetterRepository$Refusal;" } : MethodName)) ∈ TB := tb_4 114 rfl rfl
theorem tw_4_115 : (Cond.code ({ cls := "LetterRepository$Store", name := "refusalOfUntag", desc := "(I)LLetterRepository$Refusal;" } : MethodName) prog_10_method_40_code (2 : Nat) (some (FieldType.object "LetterRepository$Refusal"))) ∈ TB := tb_4 115 rfl rfl
theorem tw_4_116 : (Cond.methodLink "LetterRepository" (124 : Nat) ({ cls := "LetterRepository$Store", name := "takeTag", desc := "(I)I" } : MethodName)) ∈ TB := tb_4 116 rfl rfl
theorem tw_4_117 : (Cond.instanceMethod ({ cls := "LetterRepository$Store", name := "takeTag", desc := "(I)I" } : MethodName)) ∈ TB := tb_4 117 rfl rfl
theorem tw_4_118 : (Cond.selects "LetterRepository$Store" ({ cls := "LetterRepository$Store", name := "takeTag", desc := "(I)I" } : MethodName) ({ cls := "LetterRepository$Store", name := "takeTag", desc := "(I)I" } : MethodName)) ∈ TB := tb_4 118 rfl rfl
theorem tw_4_119 : (Cond.code ({ cls := "LetterRepository$Store", name := "takeTag", desc := "(I)I" } : MethodName) prog_10_method_41_code (3 : Nat) (some FieldType.int)) ∈ TB := tb_4 119 rfl rfl
theorem tw_4_120 : (Cond.methodLink "LetterRepositoryLaw" (230 : Nat) ({ cls := "LetterRepositoryLaw", name := "isArchived", desc := "(LLetterRepository;I[J)I" } : MethodName)) ∈ TB := tb_4 120 rfl rfl
theorem tw_4_121 : (Cond.static ({ cls := "LetterRepositoryLaw", name := "isArchived", desc := "(LLetterRepository;I[J)I" } : MethodName)) ∈ TB := tb_4 121 rfl rfl
theorem tw_4_122 : (Cond.codeWith ({ cls := "LetterRepositoryLaw", name := "isArchived", desc := "(LLetterRepository;I[J)I" } : MethodName) method_14_code (4 : Nat) (some FieldType.int) [((0 : Nat), (16 : Nat), (19 : Nat), (30 : Nat))]) ∈ TB := tb_4 122 rfl rfl
theorem tw_4_123 : (Cond.methodLink "LetterRepositoryLaw" (56 : Nat) ({ cls := "LetterRepository", name := "isArchived", desc := "(I)Z" } : MethodName)) ∈ TB := tb_4 123 rfl rfl
theorem tw_4_124 : (Cond.instanceMethod ({ cls := "LetterRepository", name := "isArchived", desc := "(I)Z" } : MethodName)) ∈ TB := tb_4 124 rfl rfl
theorem tw_4_125 : (Cond.selects "LetterRepository" ({ cls := "LetterRepository", name := "isArchived", desc := "(I)Z" } : MethodName) ({ cls := "LetterRepository", name := "isArchived", desc := "(I)Z" } : MethodName)) ∈ TB := tb_4 125 rfl rfl
theorem tw_4_126 : (Cond.code ({ cls := "LetterRepository", name := "isArchived", desc := "(I)Z" } : MethodName) prog_1_method_15_code (2 : Nat) (some FieldType.boolean)) ∈ TB := tb_4 126 rfl rfl
theorem tw_4_127 : (Cond.methodLink "LetterRepository" (140 : Nat) ({ cls := "LetterRepository", name := "requireRevision", desc := "(I)V" } : MethodName)) ∈ TB := tb_4 127 rfl rfl
theorem tw_4_129 : (Cond.instanceMethod ({ cls := "LetterRepository", name := "requireRevision", desc := "(I)V" } : MethodName)) ∈ TB := tb_4 129 rfl rfl
theorem tw_4_130 : (Cond.code ({ cls := "LetterRepository", name := "requireRevision", desc := "(I)V" } : MethodName) prog_1_method_68_code (2 : Nat) (none : Option FieldType)) ∈ TB := tb_4 130 rfl rfl
theorem tw_4_131 : (Cond.methodLink "LetterRepository" (420 : Nat) ({ cls := "LetterRepository$Revisions", name := "has", desc := "(I)Z" } : MethodName)) ∈ TB := tb_4 131 rfl rfl
theorem tw_4_133 : (Cond.methodLink "LetterRepository" (144 : Nat) ({ cls := "LetterRepository$Revisions", name := "inArchive", desc := "(I)Z" } : MethodName)) ∈ TB := tb_4 133 rfl rfl
theorem tw_4_134 : (Cond.methodLink "LetterRepositoryLaw" (233 : Nat) ({ cls := "LetterRepositoryLaw", name := "firstParent", desc := "(LLetterRepository;I[J)I" } : MethodName)) ∈ TB := tb_4 134 rfl rfl
theorem tw_4_135 : (Cond.static ({ cls := "LetterRepositoryLaw", name := "firstParent", desc := "(LLetterRepository;I[J)I" } : MethodName)) ∈ TB := tb_4 135 rfl rfl
theorem tw_4_136 : (Cond.codeWith ({ cls := "LetterRepositoryLaw", name := "firstParent", desc := "(LLetterRepository;I[J)I" } : MethodName) method_15_code (4 : Nat) (some FieldType.int) [((0 : Nat), (9 : Nat), (12 : Nat), (30 : Nat))]) ∈ TB := tb_4 136 rfl rfl
theorem tw_4_137 : (Cond.methodLink "LetterRepositoryLaw" (60 : Nat) ({ cls := "LetterRepository", name := "firstParent", desc := "(I)I" } : MethodName)) ∈ TB := tb_4 137 rfl rfl
theorem tw_4_138 : (Cond.instanceMethod ({ cls := "LetterRepository", name := "firstParent", desc := "(I)I" } : MethodName)) ∈ TB := tb_4 138 rfl rfl
theorem tw_4_139 : (Cond.selects "LetterRepository" ({ cls := "LetterRepository", name := "firstParent", desc := "(I)I" } : MethodName) ({ cls := "LetterRepository", name := "firstParent", desc := "(I)I" } : MethodName)) ∈ TB := tb_4 139 rfl rfl
theorem tw_4_140 : (Cond.code ({ cls := "LetterRepository", name := "firstParent", desc := "(I)I" } : MethodName) prog_1_method_16_code (2 : Nat) (some FieldType.int)) ∈ TB := tb_4 140 rfl rfl
theorem tw_4_141 : (Cond.methodLink "LetterRepository" (148 : Nat) ({ cls := "LetterRepository$Revisions", name := "firstParentOf", desc := "(I)I" } : MethodName)) ∈ TB := tb_4 141 rfl rfl
theorem tw_4_142 : (Cond.methodLink "LetterRepository" (151 : Nat) ({ cls := "LetterRepository", name := "requirePresent", desc := "(I)I" } : MethodName)) ∈ TB := tb_4 142 rfl rfl
theorem tw_4_143 : (Cond.static ({ cls := "LetterRepository", name := "requirePresent", desc := "(I)I" } : MethodName)) ∈ TB := tb_4 143 rfl rfl
theorem tw_4_144 : (Cond.code ({ cls := "LetterRepository", name := "requirePresent", desc := "(I)I" } : MethodName) prog_1_method_69_code (1 : Nat) (some FieldType.int)) ∈ TB := tb_4 144 rfl rfl
theorem tw_4_146 : (Cond.methodLink "LetterRepositoryLaw" (236 : Nat) ({ cls := "LetterRepositoryLaw", name := "secondParent", desc := "(LLetterRepository;I[J)I" } : MethodName)) ∈ TB := tb_4 146 rfl rfl
theorem tw_4_147 : (Cond.static ({ cls := "LetterRepositoryLaw", name := "secondParent", desc := "(LLetterRepository;I[J)I" } : MethodName)) ∈ TB := tb_4 147 rfl rfl
theorem tw_4_148 : (Cond.codeWith ({ cls := "LetterRepositoryLaw", name := "secondParent", desc := "(LLetterRepository;I[J)I" } : MethodName) method_16_code (4 : Nat) (some FieldType.int) [((0 : Nat), (9 : Nat), (12 : Nat), (30 : Nat))]) ∈ TB := tb_4 148 rfl rfl
theorem tw_4_149 : (Cond.methodLink "LetterRepositoryLaw" (63 : Nat) ({ cls := "LetterRepository", name := "secondParent", desc := "(I)I" } : MethodName)) ∈ TB := tb_4 149 rfl rfl
theorem tw_4_150 : (Cond.instanceMethod ({ cls := "LetterRepository", name := "secondParent", desc := "(I)I" } : MethodName)) ∈ TB := tb_4 150 rfl rfl
theorem tw_4_151 : (Cond.selects "LetterRepository" ({ cls := "LetterRepository", name := "secondParent", desc := "(I)I" } : MethodName) ({ cls := "LetterRepository", name := "secondParent", desc := "(I)I" } : MethodName)) ∈ TB := tb_4 151 rfl rfl
theorem tw_4_152 : (Cond.code ({ cls := "LetterRepository", name := "secondParent", desc := "(I)I" } : MethodName) prog_1_method_17_code (2 : Nat) (some FieldType.int)) ∈ TB := tb_4 152 rfl rfl
theorem tw_4_153 : (Cond.methodLink "LetterRepository" (154 : Nat) ({ cls := "LetterRepository$Revisions", name := "secondParentOf", desc := "(I)I" } : MethodName)) ∈ TB := tb_4 153 rfl rfl
theorem tw_4_154 : (Cond.methodLink "LetterRepositoryLaw" (239 : Nat) ({ cls := "LetterRepositoryLaw", name := "authorOf", desc := "(LLetterRepository;I[J)I" } : MethodName)) ∈ TB := tb_4 154 rfl rfl
theorem tw_4_155 : (Cond.static ({ cls := "LetterRepositoryLaw", name := "authorOf", desc := "(LLetterRepository;I[J)I" } : MethodName)) ∈ TB := tb_4 155 rfl rfl
theorem tw_4_156 : (Cond.codeWith ({ cls := "LetterRepositoryLaw", name := "authorOf", desc := "(LLetterRepository;I[J)I" } : MethodName) method_17_code (4 : Nat) (some FieldType.int) [((0 : Nat), (9 : Nat), (12 : Nat), (30 : Nat))]) ∈ TB := tb_4 156 rfl rfl
theorem tw_4_157 : (Cond.methodLink "LetterRepositoryLaw" (66 : Nat) ({ cls := "LetterRepository", name := "authorOf", desc := "(I)I" } : MethodName)) ∈ TB := tb_4 157 rfl rfl
theorem tw_4_158 : (Cond.instanceMethod ({ cls := "LetterRepository", name := "authorOf", desc := "(I)I" } : MethodName)) ∈ TB := tb_4 158 rfl rfl
theorem tw_4_159 : (Cond.selects "LetterRepository" ({ cls := "LetterRepository", name := "authorOf", desc := "(I)I" } : MethodName) ({ cls := "LetterRepository", name := "authorOf", desc := "(I)I" } : MethodName)) ∈ TB := tb_4 159 rfl rfl
theorem tw_4_160 : (Cond.code ({ cls := "LetterRepository", name := "authorOf", desc := "(I)I" } : MethodName) prog_1_method_18_code (2 : Nat) (some FieldType.int)) ∈ TB := tb_4 160 rfl rfl
theorem tw_4_161 : (Cond.methodLink "LetterRepository" (157 : Nat) ({ cls := "LetterRepository$Revisions", name := "writerOf", desc := "(I)I" } : MethodName)) ∈ TB := tb_4 161 rfl rfl
theorem tw_4_162 : (Cond.methodLink "LetterRepositoryLaw" (242 : Nat) ({ cls := "LetterRepositoryLaw", name := "generation", desc := "(LLetterRepository;I[J)I" } : MethodName)) ∈ TB := tb_4 162 rfl rfl
theorem tw_4_163 : (Cond.static ({ cls := "LetterRepositoryLaw", name := "generation", desc := "(LLetterRepository;I[J)I" } : MethodName)) ∈ TB := tb_4 163 rfl rfl
theorem tw_4_164 : (Cond.codeWith ({ cls := "LetterRepositoryLaw", name := "generation", desc := "(LLetterRepository;I[J)I" } : MethodName) method_18_code (4 : Nat) (some FieldType.int) [((0 : Nat), (9 : Nat), (12 : Nat), (30 : Nat))]) ∈ TB := tb_4 164 rfl rfl
theorem tw_4_165 : (Cond.methodLink "LetterRepositoryLaw" (69 : Nat) ({ cls := "LetterRepository", name := "generation", desc := "(I)I" } : MethodName)) ∈ TB := tb_4 165 rfl rfl
theorem tw_4_166 : (Cond.instanceMethod ({ cls := "LetterRepository", name := "generation", desc := "(I)I" } : MethodName)) ∈ TB := tb_4 166 rfl rfl
theorem tw_4_167 : (Cond.selects "LetterRepository" ({ cls := "LetterRepository", name := "generation", desc := "(I)I" } : MethodName) ({ cls := "LetterRepository", name := "generation", desc := "(I)I" } : MethodName)) ∈ TB := tb_4 167 rfl rfl
theorem tw_4_168 : (Cond.code ({ cls := "LetterRepository", name := "generation", desc := "(I)I" } : MethodName) prog_1_method_19_code (2 : Nat) (some FieldType.int)) ∈ TB := tb_4 168 rfl rfl
theorem tw_4_169 : (Cond.methodLink "LetterRepository" (160 : Nat) ({ cls := "LetterRepository$Revisions", name := "generationOf", desc := "(I)I" } : MethodName)) ∈ TB := tb_4 169 rfl rfl
theorem tw_4_170 : (Cond.methodLink "LetterRepositoryLaw" (245 : Nat) ({ cls := "LetterRepositoryLaw", name := "letterIn", desc := "(LLetterRepository;II[J)I" } : MethodName)) ∈ TB := tb_4 170 rfl rfl
theorem tw_4_171 : (Cond.static ({ cls := "LetterRepositoryLaw", name := "letterIn", desc := "(LLetterRepository;II[J)I" } : MethodName)) ∈ TB := tb_4 171 rfl rfl
theorem tw_4_172 : (Cond.codeWith ({ cls := "LetterRepositoryLaw", name := "letterIn", desc := "(LLetterRepository;II[J)I" } : MethodName) method_19_code (5 : Nat) (some FieldType.int) [((0 : Nat), (10 : Nat), (13 : Nat), (30 : Nat)), ((0 : Nat), (10 : Nat), (17 : Nat), (13 : Nat))]) ∈ TB := tb_4 172 rfl rfl
theorem tw_4_173 : (Cond.methodLink "LetterRepositoryLaw" (72 : Nat) ({ cls := "LetterRepository", name := "letterIn", desc := "(II)C" } : MethodName)) ∈ TB := tb_4 173 rfl rfl
theorem tw_4_174 : (Cond.instanceMethod ({ cls := "LetterRepository", name := "letterIn", desc := "(II)C" } : MethodName)) ∈ TB := tb_4 174 rfl rfl
theorem tw_4_175 : (Cond.selects "LetterRepository" ({ cls := "LetterRepository", name := "letterIn", desc := "(II)C" } : MethodName) ({ cls := "LetterRepository", name := "letterIn", desc := "(II)C" } : MethodName)) ∈ TB := tb_4 175 rfl rfl
theorem tw_4_176 : (Cond.code ({ cls := "LetterRepository", name := "letterIn", desc := "(II)C" } : MethodName) prog_1_method_20_code (3 : Nat) (some FieldType.char)) ∈ TB := tb_4 176 rfl rfl
theorem tw_4_177 : (Cond.methodLink "LetterRepository" (163 : Nat) ({ cls := "LetterRepository", name := "requireField", desc := "(I)V" } : MethodName)) ∈ TB := tb_4 177 rfl rfl
theorem tw_4_178 : (Cond.static ({ cls := "LetterRepository", name := "requireField", desc := "(I)V" } : MethodName)) ∈ TB := tb_4 178 rfl rfl
theorem tw_4_179 : (Cond.code ({ cls := "LetterRepository", name := "requireField", desc := "(I)V" } : MethodName) prog_1_method_67_code (1 : Nat) (none : Option FieldType)) ∈ TB := tb_4 179 rfl rfl
theorem tw_4_180 : (Cond.methodLink "LetterRepository" (415 : Nat) ({ cls := "LetterRepository", name := "isField", desc := "(I)Z" } : MethodName)) ∈ TB := tb_4 180 rfl rfl
theorem tw_4_182 : (Cond.methodLink "LetterRepository" (166 : Nat) ({ cls := "LetterRepository$Revisions", name := "letterOf", desc := "(II)I" } : MethodName)) ∈ TB := tb_4 182 rfl rfl
theorem tw_4_183 : (Cond.methodLink "LetterRepositoryLaw" (248 : Nat) ({ cls := "LetterRepositoryLaw", name := "isAncestor", desc := "(LLetterRepository;II[J)I" } : MethodName)) ∈ TB := tb_4 183 rfl rfl
theorem tw_4_184 : (Cond.static ({ cls := "LetterRepositoryLaw", name := "isAncestor", desc := "(LLetterRepository;II[J)I" } : MethodName)) ∈ TB := tb_4 184 rfl rfl
theorem tw_4_185 : (Cond.codeWith ({ cls := "LetterRepositoryLaw", name := "isAncestor", desc := "(LLetterRepository;II[J)I" } : MethodName) method_20_code (5 : Nat) (some FieldType.int) [((0 : Nat), (17 : Nat), (20 : Nat), (30 : Nat))]) ∈ TB := tb_4 185 rfl rfl
theorem tw_4_186 : (Cond.methodLink "LetterRepositoryLaw" (76 : Nat) ({ cls := "LetterRepository", name := "isAncestor", desc := "(II)Z" } : MethodName)) ∈ TB := tb_4 186 rfl rfl
theorem tw_4_187 : (Cond.instanceMethod ({ cls := "LetterRepository", name := "isAncestor", desc := "(II)Z" } : MethodName)) ∈ TB := tb_4 187 rfl rfl
theorem tw_4_188 : (Cond.selects "LetterRepository" ({ cls := "LetterRepository", name := "isAncestor", desc := "(II)Z" } : MethodName) ({ cls := "LetterRepository", name := "isAncestor", desc := "(II)Z" } : MethodName)) ∈ TB := tb_4 188 rfl rfl
theorem tw_4_189 : (Cond.code ({ cls := "LetterRepository", name := "isAncestor", desc := "(II)Z" } : MethodName) prog_1_method_21_code (3 : Nat) (some FieldType.boolean)) ∈ TB := tb_4 189 rfl rfl
theorem tw_4_190 : (Cond.methodLink "LetterRepository" (169 : Nat) ({ cls := "LetterRepository$Revisions", name := "ancestorSetOf", desc := "(I)I" } : MethodName)) ∈ TB := tb_4 190 rfl rfl
theorem tw_4_191 : (Cond.methodLink "LetterRepository" (172 : Nat) ({ cls := "LetterRepository", name := "contains", desc := "(II)Z" } : MethodName)) ∈ TB := tb_4 191 rfl rfl
theorem tw_4_192 : (Cond.methodLink "LetterRepositoryLaw" (251 : Nat) ({ cls := "LetterRepositoryLaw", name := "ancestorCount", desc := "(LLetterRepository;I[J)I" } : MethodName)) ∈ TB := tb_4 192 rfl rfl
theorem tw_4_193 : (Cond.static ({ cls := "LetterRepositoryLaw", name := "ancestorCount", desc := "(LLetterRepository;I[J)I" } : MethodName)) ∈ TB := tb_4 193 rfl rfl
theorem tw_4_194 : (Cond.codeWith ({ cls := "LetterRepositoryLaw", name := "ancestorCount", desc := "(LLetterRepository;I[J)I" } : MethodName) method_21_code (4 : Nat) (some FieldType.int) [((0 : Nat), (9 : Nat), (12 : Nat), (30 : Nat))]) ∈ TB := tb_4 194 rfl rfl
theorem tw_4_195 : (Cond.methodLink "LetterRepositoryLaw" (80 : Nat) ({ cls := "LetterRepository", name := "ancestorCount", desc := "(I)I" } : MethodName)) ∈ TB := tb_4 195 rfl rfl
theorem tw_4_196 : (Cond.instanceMethod ({ cls := "LetterRepository", name := "ancestorCount", desc := "(I)I" } : MethodName)) ∈ TB := tb_4 196 rfl rfl
theorem tw_4_197 : (Cond.selects "LetterRepository" ({ cls := "LetterRepository", name := "ancestorCount", desc := "(I)I" } : MethodName) ({ cls := "LetterRepository", name := "ancestorCount", desc := "(I)I" } : MethodName)) ∈ TB := tb_4 197 rfl rfl
theorem tw_4_198 : (Cond.code ({ cls := "LetterRepository", name := "ancestorCount", desc := "(I)I" } : MethodName) prog_1_method_22_code (2 : Nat) (some FieldType.int)) ∈ TB := tb_4 198 rfl rfl
theorem tw_4_199 : (Cond.methodLink "LetterRepositoryLaw" (254 : Nat) ({ cls := "LetterRepositoryLaw", name := "commonAncestor", desc := "(LLetterRepository;II[J)I" } : MethodName)) ∈ TB := tb_4 199 rfl rfl
theorem tw_4_200 : (Cond.static ({ cls := "LetterRepositoryLaw", name := "commonAncestor", desc := "(LLetterRepository;II[J)I" } : MethodName)) ∈ TB := tb_4 200 rfl rfl
theorem tw_4_201 : (Cond.codeWith ({ cls := "LetterRepositoryLaw", name := "commonAncestor", desc := "(LLetterRepository;II[J)I" } : MethodName) method_22_code (5 : Nat) (some FieldType.int) [((0 : Nat), (10 : Nat), (13 : Nat), (30 : Nat))]) ∈ TB := tb_4 201 rfl rfl
theorem tw_4_202 : (Cond.methodLink "LetterRepositoryLaw" (83 : Nat) ({ cls := "LetterRepository", name := "commonAncestor", desc := "(II)I" } : MethodName)) ∈ TB := tb_4 202 rfl rfl
theorem tw_4_203 : (Cond.instanceMethod ({ cls := "LetterRepository", name := "commonAncestor", desc := "(II)I" } : MethodName)) ∈ TB := tb_4 203 rfl rfl
theorem tw_4_204 : (Cond.selects "LetterRepository" ({ cls := "LetterRepository", name := "commonAncestor", desc := "(II)I" } : MethodName) ({ cls := "LetterRepository", name := "commonAncestor", desc := "(II)I" } : MethodName)) ∈ TB := tb_4 204 rfl rfl
theorem tw_4_205 : (Cond.code ({ cls := "LetterRepository", name := "commonAncestor", desc := "(II)I" } : MethodName) prog_1_method_23_code (3 : Nat) (some FieldType.int)) ∈ TB := tb_4 205 rfl rfl
theorem tw_4_206 : (Cond.methodLink "LetterRepository" (181 : Nat) ({ cls := "LetterRepository$Revisions", name := "latestCommon", desc := "(II)I" } : MethodName)) ∈ TB := tb_4 206 rfl rfl
theorem tw_4_207 : (Cond.methodLink "LetterRepositoryLaw" (257 : Nat) ({ cls := "LetterRepositoryLaw", name := "commonAncestorBySets", desc := "(LLetterRepository;II[J)I" } : MethodName)) ∈ TB := tb_4 207 rfl rfl
theorem tw_4_208 : (Cond.static ({ cls := "LetterRepositoryLaw", name := "commonAncestorBySets", desc := "(LLetterRepository;II[J)I" } : MethodName)) ∈ TB := tb_4 208 rfl rfl
theorem tw_4_209 : (Cond.codeWith ({ cls := "LetterRepositoryLaw", name := "commonAncestorBySets", desc := "(LLetterRepository;II[J)I" } : MethodName) method_23_code (5 : Nat) (some FieldType.int) [((0 : Nat), (10 : Nat), (13 : Nat), (30 : Nat))]) ∈ TB := tb_4 209 rfl rfl
theorem tw_4_210 : (Cond.methodLink "LetterRepositoryLaw" (86 : Nat) ({ cls := "LetterRepository", name := "commonAncestorBySets", desc := "(II)I" } : MethodName)) ∈ TB := tb_4 210 rfl rfl
theorem tw_4_211 : (Cond.instanceMethod ({ cls := "LetterRepository", name := "commonAncestorBySets", desc := "(II)I" } : MethodName)) ∈ TB := tb_4 211 rfl rfl
theorem tw_4_212 : (Cond.selects "LetterRepository" ({ cls := "LetterRepository", name := "commonAncestorBySets", desc := "(II)I" } : MethodName) ({ cls := "LetterRepository", name := "commonAncestorBySets", desc := "(II)I" } : MethodName)) ∈ TB := tb_4 212 rfl rfl
theorem tw_4_213 : (Cond.code ({ cls := "LetterRepository", name := "commonAncestorBySets", desc := "(II)I" } : MethodName) prog_1_method_24_code (3 : Nat) (some FieldType.int)) ∈ TB := tb_4 213 rfl rfl
theorem tw_4_214 : (Cond.methodLink "LetterRepository" (184 : Nat) ({ cls := "LetterRepository$Revisions", name := "latestCommonBySets", desc := "(II)I" } : MethodName)) ∈ TB := tb_4 214 rfl rfl
theorem tw_4_215 : (Cond.methodLink "LetterRepositoryLaw" (260 : Nat) ({ cls := "LetterRepositoryLaw", name := "distance", desc := "(LLetterRepository;II[J)I" } : MethodName)) ∈ TB := tb_4 215 rfl rfl
theorem tw_4_216 : (Cond.static ({ cls := "LetterRepositoryLaw", name := "distance", desc := "(LLetterRepository;II[J)I" } : MethodName)) ∈ TB := tb_4 216 rfl rfl
theorem tw_4_217 : (Cond.codeWith ({ cls := "LetterRepositoryLaw", name := "distance", desc := "(LLetterRepository;II[J)I" } : MethodName) method_24_code (5 : Nat) (some FieldType.int) [((0 : Nat), (10 : Nat), (13 : Nat), (30 : Nat))]) ∈ TB := tb_4 217 rfl rfl
theorem tw_4_218 : (Cond.methodLink "LetterRepositoryLaw" (89 : Nat) ({ cls := "LetterRepository", name := "distance", desc := "(II)I" } : MethodName)) ∈ TB := tb_4 218 rfl rfl
theorem tw_4_219 : (Cond.instanceMethod ({ cls := "LetterRepository", name := "distance", desc := "(II)I" } : MethodName)) ∈ TB := tb_4 219 rfl rfl
theorem tw_4_220 : (Cond.selects "LetterRepository" ({ cls := "LetterRepository", name := "distance", desc := "(II)I" } : MethodName) ({ cls := "LetterRepository", name := "distance", desc := "(II)I" } : MethodName)) ∈ TB := tb_4 220 rfl rfl
theorem tw_4_221 : (Cond.code ({ cls := "LetterRepository", name := "distance", desc := "(II)I" } : MethodName) prog_1_method_25_code (3 : Nat) (some FieldType.int)) ∈ TB := tb_4 221 rfl rfl
theorem tw_4_222 : (Cond.methodLink "LetterRepository" (187 : Nat) ({ cls := "LetterRepository$Revisions", name := "stepsBetween", desc := "(II)I" } : MethodName)) ∈ TB := tb_4 222 rfl rfl
theorem tw_4_223 : (Cond.instanceMethod ({ cls := "LetterRepository$Revisions", name := "stepsBetween", desc := "(II)I" } : MethodName)) ∈ TB := tb_4 223 rfl rfl
theorem tw_4_224 : (Cond.selects "LetterRepository$Revisions" ({ cls := "LetterRepository$Revisions", name := "stepsBetween", desc := "(II)I" } : MethodName) ({ cls := "LetterRepository$Revisions", name := "stepsBetween", desc := "(II)I" } : MethodName)) ∈ TB := tb_4 224 rfl rfl
theorem tw_4_225 : (Cond.code ({ cls := "LetterRepository$Revisions", name := "stepsBetween", desc := "(II)I" } : MethodName) prog_8_method_20_code (5 : Nat) (some FieldType.int)) ∈ TB := tb_4 225 rfl rfl
theorem tw_4_226 : (Cond.methodLink "LetterRepository$Revisions" (92 : Nat) ({ cls := "LetterRepository$Revisions", name := "withNeighbours", desc := "(I)I" } : MethodName)) ∈ TB := tb_4 226 rfl rfl
theorem tw_4_228 : (Cond.instanceMethod ({ cls := "LetterRepository$Revisions", name := "withNeighbours", desc := "(I)I" } : MethodName)) ∈ TB := tb_4 228 rfl rfl
theorem tw_4_229 : (Cond.code ({ cls := "LetterRepository$Revisions", name := "withNeighbours", desc := "(I)I" } : MethodName) prog_8_method_21_code (5 : Nat) (some FieldType.int)) ∈ TB := tb_4 229 rfl rfl
theorem tw_4_230 : (Cond.methodLink "LetterRepositoryLaw" (263 : Nat) ({ cls := "LetterRepositoryLaw", name := "differences", desc := "(LLetterRepository;II[J)I" } : MethodName)) ∈ TB := tb_4 230 rfl rfl
theorem tw_4_231 : (Cond.static ({ cls := "LetterRepositoryLaw", name := "differences", desc := "(LLetterRepository;II[J)I" } : MethodName)) ∈ TB := tb_4 231 rfl rfl
theorem tw_4_232 : (Cond.codeWith ({ cls := "LetterRepositoryLaw", name := "differences", desc := "(LLetterRepository;II[J)I" } : MethodName) method_25_code (5 : Nat) (some FieldType.int) [((0 : Nat), (10 : Nat), (13 : Nat), (30 : Nat))]) ∈ TB := tb_4 232 rfl rfl
theorem tw_4_233 : (Cond.methodLink "LetterRepositoryLaw" (92 : Nat) ({ cls := "LetterRepository", name := "differences", desc := "(II)I" } : MethodName)) ∈ TB := tb_4 233 rfl rfl
theorem tw_4_234 : (Cond.instanceMethod ({ cls := "LetterRepository", name := "differences", desc := "(II)I" } : MethodName)) ∈ TB := tb_4 234 rfl rfl
theorem tw_4_235 : (Cond.selects "LetterRepository" ({ cls := "LetterRepository", name := "differences", desc := "(II)I" } : MethodName) ({ cls := "LetterRepository", name := "differences", desc := "(II)I" } : MethodName)) ∈ TB := tb_4 235 rfl rfl
theorem tw_4_236 : (Cond.code ({ cls := "LetterRepository", name := "differences", desc := "(II)I" } : MethodName) prog_1_method_26_code (3 : Nat) (some FieldType.int)) ∈ TB := tb_4 236 rfl rfl
theorem tw_4_237 : (Cond.methodLink "LetterRepository" (190 : Nat) ({ cls := "LetterRepository$Revisions", name := "differingFields", desc := "(II)I" } : MethodName)) ∈ TB := tb_4 237 rfl rfl
theorem tw_4_238 : (Cond.instanceMethod ({ cls := "LetterRepository$Revisions", name := "differingFields", desc := "(II)I" } : MethodName)) ∈ TB := tb_4 238 rfl rfl
theorem tw_4_239 : (Cond.selects "LetterRepository$Revisions" ({ cls := "LetterRepository$Revisions", name := "differingFields", desc := "(II)I" } : MethodName) ({ cls := "LetterRepository$Revisions", name := "differingFields", desc := "(II)I" } : MethodName)) ∈ TB := tb_4 239 rfl rfl
theorem tw_5_0 : (Cond.code ({ cls := "LetterRepository$Revisions", name := "differingFields", desc := "(II)I" } : MethodName) prog_8_method_22_code (5 : Nat) (some FieldType.int)) ∈ TB := tb_5 0 rfl rfl
theorem tw_5_1 : (Cond.methodLink "LetterRepositoryLaw" (266 : Nat) ({ cls := "LetterRepositoryLaw", name := "originOf", desc := "(LLetterRepository;II[J)I" } : MethodName)) ∈ TB := tb_5 1 rfl rfl
theorem tw_5_2 : (Cond.static ({ cls := "LetterRepositoryLaw", name := "originOf", desc := "(LLetterRepository;II[J)I" } : MethodName)) ∈ TB := tb_5 2 rfl rfl
theorem tw_5_3 : (Cond.codeWith ({ cls := "LetterRepositoryLaw", name := "originOf", desc := "(LLetterRepository;II[J)I" } : MethodName) method_26_code (5 : Nat) (some FieldType.int) [((0 : Nat), (10 : Nat), (13 : Nat), (30 : Nat)), ((0 : Nat), (10 : Nat), (17 : Nat), (13 : Nat))]) ∈ TB := tb_5 3 rfl rfl
theorem tw_5_4 : (Cond.methodLink "LetterRepositoryLaw" (95 : Nat) ({ cls := "LetterRepository", name := "originOf", desc := "(II)I" } : MethodName)) ∈ TB := tb_5 4 rfl rfl
theorem tw_5_5 : (Cond.instanceMethod ({ cls := "LetterRepository", name := "originOf", desc := "(II)I" } : MethodName)) ∈ TB := tb_5 5 rfl rfl
theorem tw_5_6 : (Cond.selects "LetterRepository" ({ cls := "LetterRepository", name := "originOf", desc := "(II)I" } : MethodName) ({ cls := "LetterRepository", name := "originOf", desc := "(II)I" } : MethodName)) ∈ TB := tb_5 6 rfl rfl
theorem tw_5_7 : (Cond.code ({ cls := "LetterRepository", name := "originOf", desc := "(II)I" } : MethodName) prog_1_method_27_code (3 : Nat) (some FieldType.int)) ∈ TB := tb_5 7 rfl rfl
theorem tw_5_8 : (Cond.methodLink "LetterRepository" (193 : Nat) ({ cls := "LetterRepository$Revisions", name := "sourceOf", desc := "(II)I" } : MethodName)) ∈ TB := tb_5 8 rfl rfl
theorem tw_5_9 : (Cond.methodLink "LetterRepositoryLaw" (269 : Nat) ({ cls := "LetterRepositoryLaw", name := "originByRecursion", desc := "(LLetterRepository;II[J)I" } : MethodName)) ∈ TB := tb_5 9 rfl rfl
theorem tw_5_10 : (Cond.static ({ cls := "LetterRepositoryLaw", name := "originByRecursion", desc := "(LLetterRepository;II[J)I" } : MethodName)) ∈ TB := tb_5 10 rfl rfl
theorem tw_5_11 : (Cond.codeWith ({ cls := "LetterRepositoryLaw", name := "originByRecursion", desc := "(LLetterRepository;II[J)I" } : MethodName) method_27_code (5 : Nat) (some FieldType.int) [((0 : Nat), (10 : Nat), (13 : Nat), (30 : Nat)), ((0 : Nat), (10 : Nat), (17 : Nat), (13 : Nat))]) ∈ TB := tb_5 11 rfl rfl
theorem tw_5_12 : (Cond.methodLink "LetterRepositoryLaw" (98 : Nat) ({ cls := "LetterRepository", name := "originByRecursion", desc := "(II)I" } : MethodName)) ∈ TB := tb_5 12 rfl rfl
theorem tw_5_13 : (Cond.instanceMethod ({ cls := "LetterRepository", name := "originByRecursion", desc := "(II)I" } : MethodName)) ∈ TB := tb_5 13 rfl rfl
theorem tw_5_14 : (Cond.selects "LetterRepository" ({ cls := "LetterRepository", name := "originByRecursion", desc := "(II)I" } : MethodName) ({ cls := "LetterRepository", name := "originByRecursion", desc := "(II)I" } : MethodName)) ∈ TB := tb_5 14 rfl rfl
theorem tw_5_15 : (Cond.code ({ cls := "LetterRepository", name := "originByRecursion", desc := "(II)I" } : MethodName) prog_1_method_28_code (3 : Nat) (some FieldType.int)) ∈ TB := tb_5 15 rfl rfl
theorem tw_5_16 : (Cond.methodLinkNest "LetterRepository" (196 : Nat) ({ cls := "LetterRepository$Revisions", name := "sourceByRecursion", desc := "(LLetterRepository$Revisions;III)I" } : MethodName) "LetterRepository") ∈ NB := nb_5 16 rfl rfl
theorem tw_5_17 : (Cond.methodLink "LetterRepositoryLaw" (272 : Nat) ({ cls := "LetterRepositoryLaw", name := "revisionsBy", desc := "(LLetterRepository;I[J)I" } : MethodName)) ∈ TB := tb_5 17 rfl rfl
theorem tw_5_18 : (Cond.static ({ cls := "LetterRepositoryLaw", name := "revisionsBy", desc := "(LLetterRepository;I[J)I" } : MethodName)) ∈ TB := tb_5 18 rfl rfl
theorem tw_5_19 : (Cond.codeWith ({ cls := "LetterRepositoryLaw", name := "revisionsBy", desc := "(LLetterRepository;I[J)I" } : MethodName) method_28_code (4 : Nat) (some FieldType.int) [((0 : Nat), (9 : Nat), (12 : Nat), (15 : Nat))]) ∈ TB := tb_5 19 rfl rfl
theorem tw_5_20 : (Cond.methodLink "LetterRepositoryLaw" (101 : Nat) ({ cls := "LetterRepository", name := "revisionsBy", desc := "(I)I" } : MethodName)) ∈ TB := tb_5 20 rfl rfl
theorem tw_5_21 : (Cond.instanceMethod ({ cls := "LetterRepository", name := "revisionsBy", desc := "(I)I" } : MethodName)) ∈ TB := tb_5 21 rfl rfl
theorem tw_5_22 : (Cond.selects "LetterRepository" ({ cls := "LetterRepository", name := "revisionsBy", desc := "(I)I" } : MethodName) ({ cls := "LetterRepository", name := "revisionsBy", desc := "(I)I" } : MethodName)) ∈ TB := tb_5 22 rfl rfl
theorem tw_5_23 : (Cond.code ({ cls := "LetterRepository", name := "revisionsBy", desc := "(I)I" } : MethodName) prog_1_method_29_code (2 : Nat) (some FieldType.int)) ∈ TB := tb_5 23 rfl rfl
theorem tw_5_24 : (Cond.methodLink "LetterRepository" (200 : Nat) ({ cls := "LetterRepository", name := "isAuthor", desc := "(I)Z" } : MethodName)) ∈ TB := tb_5 24 rfl rfl
theorem tw_5_26 : (Cond.methodLink "LetterRepositoryLaw" (283 : Nat) ({ cls := "LetterRepositoryLaw", name := "head", desc := "(LLetterRepository;I[J)I" } : MethodName)) ∈ TB := tb_5 26 rfl rfl
theorem tw_5_27 : (Cond.static ({ cls := "LetterRepositoryLaw", name := "head", desc := "(LLetterRepository;I[J)I" } : MethodName)) ∈ TB := tb_5 27 rfl rfl
theorem tw_5_28 : (Cond.codeWith ({ cls := "LetterRepositoryLaw", name := "head", desc := "(LLetterRepository;I[J)I" } : MethodName) method_29_code (4 : Nat) (some FieldType.int) [((0 : Nat), (9 : Nat), (12 : Nat), (13 : Nat))]) ∈ TB := tb_5 28 rfl rfl
theorem tw_5_29 : (Cond.methodLink "LetterRepositoryLaw" (104 : Nat) ({ cls := "LetterRepository", name := "head", desc := "(I)I" } : MethodName)) ∈ TB := tb_5 29 rfl rfl
theorem tw_5_30 : (Cond.instanceMethod ({ cls := "LetterRepository", name := "head", desc := "(I)I" } : MethodName)) ∈ TB := tb_5 30 rfl rfl
theorem tw_5_31 : (Cond.selects "LetterRepository" ({ cls := "LetterRepository", name := "head", desc := "(I)I" } : MethodName) ({ cls := "LetterRepository", name := "head", desc := "(I)I" } : MethodName)) ∈ TB := tb_5 31 rfl rfl
theorem tw_5_32 : (Cond.code ({ cls := "LetterRepository", name := "head", desc := "(I)I" } : MethodName) prog_1_method_32_code (2 : Nat) (some FieldType.int)) ∈ TB := tb_5 32 rfl rfl
theorem tw_5_33 : (Cond.methodLink "LetterRepository" (216 : Nat) ({ cls := "LetterRepository", name := "requireBranch", desc := "(I)V" } : MethodName)) ∈ TB := tb_5 33 rfl rfl
theorem tw_5_35 : (Cond.instanceMethod ({ cls := "LetterRepository", name := "requireBranch", desc := "(I)V" } : MethodName)) ∈ TB := tb_5 35 rfl rfl
theorem tw_5_36 : (Cond.code ({ cls := "LetterRepository", name := "requireBranch", desc := "(I)V" } : MethodName) prog_1_method_65_code (2 : Nat) (none : Option FieldType)) ∈ TB := tb_5 36 rfl rfl
theorem tw_5_37 : (Cond.methodLink "LetterRepository" (407 : Nat) ({ cls := "LetterRepository$Store", name := "hasBranch", desc := "(I)Z" } : MethodName)) ∈ TB := tb_5 37 rfl rfl
theorem tw_5_39 : (Cond.methodLink "LetterRepository" (219 : Nat) ({ cls := "LetterRepository$Store", name := "headOf", desc := "(I)I" } : MethodName)) ∈ TB := tb_5 39 rfl rfl
theorem tw_5_40 : (Cond.methodLink "LetterRepositoryLaw" (286 : Nat) ({ cls := "LetterRepositoryLaw", name := "letterAt", desc := "(LLetterRepository;II[J)I" } : MethodName)) ∈ TB := tb_5 40 rfl rfl
theorem tw_5_41 : (Cond.static ({ cls := "LetterRepositoryLaw", name := "letterAt", desc := "(LLetterRepository;II[J)I" } : MethodName)) ∈ TB := tb_5 41 rfl rfl
theorem tw_5_42 : (Cond.codeWith ({ cls := "LetterRepositoryLaw", name := "letterAt", desc := "(LLetterRepository;II[J)I" } : MethodName) method_30_code (5 : Nat) (some FieldType.int) [((0 : Nat), (10 : Nat), (13 : Nat), (13 : Nat))]) ∈ TB := tb_5 42 rfl rfl
theorem tw_5_43 : (Cond.methodLink "LetterRepositoryLaw" (107 : Nat) ({ cls := "LetterRepository", name := "letterAt", desc := "(II)C" } : MethodName)) ∈ TB := tb_5 43 rfl rfl
theorem tw_5_44 : (Cond.instanceMethod ({ cls := "LetterRepository", name := "letterAt", desc := "(II)C" } : MethodName)) ∈ TB := tb_5 44 rfl rfl
theorem tw_5_45 : (Cond.selects "LetterRepository" ({ cls := "LetterRepository", name := "letterAt", desc := "(II)C" } : MethodName) ({ cls := "LetterRepository", name := "letterAt", desc := "(II)C" } : MethodName)) ∈ TB := tb_5 45 rfl rfl
theorem tw_5_46 : (Cond.code ({ cls := "LetterRepository", name := "letterAt", desc := "(II)C" } : MethodName) prog_1_method_33_code (3 : Nat) (some FieldType.char)) ∈ TB := tb_5 46 rfl rfl
theorem tw_5_47 : (Cond.methodLink "LetterRepository" (222 : Nat) ({ cls := "LetterRepository$Store", name := "workingLetter", desc := "(II)I" } : MethodName)) ∈ TB := tb_5 47 rfl rfl
theorem tw_5_48 : (Cond.methodLink "LetterRepositoryLaw" (289 : Nat) ({ cls := "LetterRepositoryLaw", name := "isEdited", desc := "(LLetterRepository;II[J)I" } : MethodName)) ∈ TB := tb_5 48 rfl rfl
theorem tw_5_49 : (Cond.static ({ cls := "LetterRepositoryLaw", name := "isEdited", desc := "(LLetterRepository;II[J)I" } : MethodName)) ∈ TB := tb_5 49 rfl rfl
theorem tw_5_50 : (Cond.codeWith ({ cls := "LetterRepositoryLaw", name := "isEdited", desc := "(LLetterRepository;II[J)I" } : MethodName) method_31_code (5 : Nat) (some FieldType.int) [((0 : Nat), (17 : Nat), (20 : Nat), (13 : Nat))]) ∈ TB := tb_5 50 rfl rfl
theorem tw_5_51 : (Cond.methodLink "LetterRepositoryLaw" (110 : Nat) ({ cls := "LetterRepository", name := "isEdited", desc := "(II)Z" } : MethodName)) ∈ TB := tb_5 51 rfl rfl
theorem tw_5_52 : (Cond.instanceMethod ({ cls := "LetterRepository", name := "isEdited", desc := "(II)Z" } : MethodName)) ∈ TB := tb_5 52 rfl rfl
theorem tw_5_53 : (Cond.selects "LetterRepository" ({ cls := "LetterRepository", name := "isEdited", desc := "(II)Z" } : MethodName) ({ cls := "LetterRepository", name := "isEdited", desc := "(II)Z" } : MethodName)) ∈ TB := tb_5 53 rfl rfl
theorem tw_5_54 : (Cond.code ({ cls := "LetterRepository", name := "isEdited", desc := "(II)Z" } : MethodName) prog_1_method_34_code (3 : Nat) (some FieldType.boolean)) ∈ TB := tb_5 54 rfl rfl
theorem tw_5_55 : (Cond.methodLink "LetterRepository" (225 : Nat) ({ cls := "LetterRepository$Store", name := "differsFromHead", desc := "(II)Z" } : MethodName)) ∈ TB := tb_5 55 rfl rfl
theorem tw_5_56 : (Cond.methodLink "LetterRepositoryLaw" (292 : Nat) ({ cls := "LetterRepositoryLaw", name := "editCount", desc := "(LLetterRepository;I[J)I" } : MethodName)) ∈ TB := tb_5 56 rfl rfl
theorem tw_5_57 : (Cond.static ({ cls := "LetterRepositoryLaw", name := "editCount", desc := "(LLetterRepository;I[J)I" } : MethodName)) ∈ TB := tb_5 57 rfl rfl
theorem tw_5_58 : (Cond.codeWith ({ cls := "LetterRepositoryLaw", name := "editCount", desc := "(LLetterRepository;I[J)I" } : MethodName) method_32_code (4 : Nat) (some FieldType.int) [((0 : Nat), (9 : Nat), (12 : Nat), (13 : Nat))]) ∈ TB := tb_5 58 rfl rfl
theorem tw_5_59 : (Cond.methodLink "LetterRepositoryLaw" (113 : Nat) ({ cls := "LetterRepository", name := "editCount", desc := "(I)I" } : MethodName)) ∈ TB := tb_5 59 rfl rfl
theorem tw_5_60 : (Cond.instanceMethod ({ cls := "LetterRepository", name := "editCount", desc := "(I)I" } : MethodName)) ∈ TB := tb_5 60 rfl rfl
theorem tw_5_61 : (Cond.selects "LetterRepository" ({ cls := "LetterRepository", name := "editCount", desc := "(I)I" } : MethodName) ({ cls := "LetterRepository", name := "editCount", desc := "(I)I" } : MethodName)) ∈ TB := tb_5 61 rfl rfl
theorem tw_5_62 : (Cond.code ({ cls := "LetterRepository", name := "editCount", desc := "(I)I" } : MethodName) prog_1_method_35_code (2 : Nat) (some FieldType.int)) ∈ TB := tb_5 62 rfl rfl
theorem tw_5_63 : (Cond.methodLink "LetterRepository" (228 : Nat) ({ cls := "LetterRepository$Store", name := "countEdits", desc := "(I)I" } : MethodName)) ∈ TB := tb_5 63 rfl rfl
theorem tw_5_64 : (Cond.methodLink "LetterRepositoryLaw" (295 : Nat) ({ cls := "LetterRepositoryLaw", name := "branchByHead", desc := "(LLetterRepository;I[J)I" } : MethodName)) ∈ TB := tb_5 64 rfl rfl
theorem tw_5_65 : (Cond.static ({ cls := "LetterRepositoryLaw", name := "branchByHead", desc := "(LLetterRepository;I[J)I" } : MethodName)) ∈ TB := tb_5 65 rfl rfl
theorem tw_5_66 : (Cond.codeWith ({ cls := "LetterRepositoryLaw", name := "branchByHead", desc := "(LLetterRepository;I[J)I" } : MethodName) method_33_code (4 : Nat) (some FieldType.int) [((0 : Nat), (9 : Nat), (12 : Nat), (30 : Nat))]) ∈ TB := tb_5 66 rfl rfl
theorem tw_5_67 : (Cond.methodLink "LetterRepositoryLaw" (116 : Nat) ({ cls := "LetterRepository", name := "branchByHead", desc := "(I)I" } : MethodName)) ∈ TB := tb_5 67 rfl rfl
theorem tw_5_68 : (Cond.instanceMethod ({ cls := "LetterRepository", name := "branchByHead", desc := "(I)I" } : MethodName)) ∈ TB := tb_5 68 rfl rfl
theorem tw_5_69 : (Cond.selects "LetterRepository" ({ cls := "LetterRepository", name := "branchByHead", desc := "(I)I" } : MethodName) ({ cls := "LetterRepository", name := "branchByHead", desc := "(I)I" } : MethodName)) ∈ TB := tb_5 69 rfl rfl
theorem tw_5_70 : (Cond.code ({ cls := "LetterRepository", name := "branchByHead", desc := "(I)I" } : MethodName) prog_1_method_36_code (2 : Nat) (some FieldType.int)) ∈ TB := tb_5 70 rfl rfl
theorem tw_5_71 : (Cond.methodLink "LetterRepository" (231 : Nat) ({ cls := "LetterRepository$Store", name := "branchOfRank", desc := "(I)I" } : MethodName)) ∈ TB := tb_5 71 rfl rfl
theorem tw_5_72 : (Cond.instanceMethod ({ cls := "LetterRepository$Store", name := "branchOfRank", desc := "(I)I" } : MethodName)) ∈ TB := tb_5 72 rfl rfl
theorem tw_5_73 : (Cond.selects "LetterRepository$Store" ({ cls := "LetterRepository$Store", name := "branchOfRank", desc := "(I)I" } : MethodName) ({ cls := "LetterRepository$Store", name := "branchOfRank", desc := "(I)I" } : MethodName)) ∈ TB := tb_5 73 rfl rfl
theorem tw_5_74 : (Cond.code ({ cls := "LetterRepository$Store", name := "branchOfRank", desc := "(I)I" } : MethodName) prog_10_method_9_code (5 : Nat) (some FieldType.int)) ∈ TB := tb_5 74 rfl rfl
theorem tw_5_75 : (Cond.methodLink "LetterRepository$Store" (65 : Nat) ({ cls := "LetterRepository$Store", name := "comesBefore", desc := "(II)Z" } : MethodName)) ∈ TB := tb_5 75 rfl rfl
theorem tw_5_77 : (Cond.instanceMethod ({ cls := "LetterRepository$Store", name := "comesBefore", desc := "(II)Z" } : MethodName)) ∈ TB := tb_5 77 rfl rfl
theorem tw_5_78 : (Cond.code ({ cls := "LetterRepository$Store", name := "comesBefore", desc := "(II)Z" } : MethodName) prog_10_method_10_code (5 : Nat) (some FieldType.boolean)) ∈ TB := tb_5 78 rfl rfl
theorem tw_5_79 : (Cond.methodLink "LetterRepository$Store" (68 : Nat) ({ cls := "LetterRepository$Revisions", name := "generationOf", desc := "(I)I" } : MethodName)) ∈ TB := tb_5 79 rfl rfl
theorem tw_5_80 : (Cond.methodLink "LetterRepositoryLaw" (298 : Nat) ({ cls := "LetterRepositoryLaw", name := "conflictCount", desc := "(LLetterRepository;II[J)I" } : MethodName)) ∈ TB := tb_5 80 rfl rfl
theorem tw_5_81 : (Cond.static ({ cls := "LetterRepositoryLaw", name := "conflictCount", desc := "(LLetterRepository;II[J)I" } : MethodName)) ∈ TB := tb_5 81 rfl rfl
theorem tw_5_82 : (Cond.codeWith ({ cls := "LetterRepositoryLaw", name := "conflictCount", desc := "(LLetterRepository;II[J)I" } : MethodName) method_34_code (5 : Nat) (some FieldType.int) [((0 : Nat), (10 : Nat), (13 : Nat), (13 : Nat)), ((0 : Nat), (10 : Nat), (17 : Nat), (15 : Nat))]) ∈ TB := tb_5 82 rfl rfl
theorem tw_5_83 : (Cond.methodLink "LetterRepositoryLaw" (119 : Nat) ({ cls := "LetterRepository", name := "conflictCount", desc := "(II)I" } : MethodName)) ∈ TB := tb_5 83 rfl rfl
theorem tw_5_84 : (Cond.instanceMethod ({ cls := "LetterRepository", name := "conflictCount", desc := "(II)I" } : MethodName)) ∈ TB := tb_5 84 rfl rfl
theorem tw_5_85 : (Cond.selects "LetterRepository" ({ cls := "LetterRepository", name := "conflictCount", desc := "(II)I" } : MethodName) ({ cls := "LetterRepository", name := "conflictCount", desc := "(II)I" } : MethodName)) ∈ TB := tb_5 85 rfl rfl
theorem tw_5_86 : (Cond.code ({ cls := "LetterRepository", name := "conflictCount", desc := "(II)I" } : MethodName) prog_1_method_37_code (3 : Nat) (some FieldType.int)) ∈ TB := tb_5 86 rfl rfl
theorem tw_5_87 : (Cond.methodLink "LetterRepository" (234 : Nat) ({ cls := "LetterRepository", name := "requirePair", desc := "(II)V" } : MethodName)) ∈ TB := tb_5 87 rfl rfl
theorem tw_5_89 : (Cond.instanceMethod ({ cls := "LetterRepository", name := "requirePair", desc := "(II)V" } : MethodName)) ∈ TB := tb_5 89 rfl rfl
theorem tw_5_90 : (Cond.code ({ cls := "LetterRepository", name := "requirePair", desc := "(II)V" } : MethodName) prog_1_method_66_code (3 : Nat) (none : Option FieldType)) ∈ TB := tb_5 90 rfl rfl
theorem tw_5_91 : (Cond.methodLink "LetterRepository" (412 : Nat) ({ cls := "LetterRepository$Store", name := "refusalOfPair", desc := "(II)LLetterRepository$Refusal;" } : MethodName)) ∈ TB := tb_5 91 rfl rfl
theorem tw_5_92 : (Cond.methodLink "LetterRepository" (238 : Nat) ({ cls := "LetterRepository$Store", name := "countConflicts", desc := "(II)I" } : MethodName)) ∈ TB := tb_5 92 rfl rfl
theorem tw_5_93 : (Cond.methodLink "LetterRepositoryLaw" (301 : Nat) ({ cls := "LetterRepositoryLaw", name := "conflictAt", desc := "(LLetterRepository;III[J)I" } : MethodName)) ∈ TB := tb_5 93 rfl rfl
theorem tw_5_94 : (Cond.static ({ cls := "LetterRepositoryLaw", name := "conflictAt", desc := "(LLetterRepository;III[J)I" } : MethodName)) ∈ TB := tb_5 94 rfl rfl
theorem tw_5_95 : (Cond.codeWith ({ cls := "LetterRepositoryLaw", name := "conflictAt", desc := "(LLetterRepository;III[J)I" } : MethodName) method_35_code (6 : Nat) (some FieldType.int) [((0 : Nat), (12 : Nat), (15 : Nat), (13 : Nat)), ((0 : Nat), (12 : Nat), (19 : Nat), (15 : Nat)), ((0 : Nat), (12 : Nat), (23 : Nat), (30 : Nat))]) ∈ TB := tb_5 95 rfl rfl
theorem tw_5_96 : (Cond.methodLink "LetterRepositoryLaw" (122 : Nat) ({ cls := "LetterRepository", name := "conflictAt", desc := "(III)I" } : MethodName)) ∈ TB := tb_5 96 rfl rfl
theorem tw_5_97 : (Cond.instanceMethod ({ cls := "LetterRepository", name := "conflictAt", desc := "(III)I" } : MethodName)) ∈ TB := tb_5 97 rfl rfl
theorem tw_5_98 : (Cond.selects "LetterRepository" ({ cls := "LetterRepository", name := "conflictAt", desc := "(III)I" } : MethodName) ({ cls := "LetterRepository", name := "conflictAt", desc := "(III)I" } : MethodName)) ∈ TB := tb_5 98 rfl rfl
theorem tw_5_99 : (Cond.code ({ cls := "LetterRepository", name := "conflictAt", desc := "(III)I" } : MethodName) prog_1_method_38_code (4 : Nat) (some FieldType.int)) ∈ TB := tb_5 99 rfl rfl
theorem tw_5_100 : (Cond.methodLink "LetterRepository" (241 : Nat) ({ cls := "LetterRepository$Store", name := "conflictField", desc := "(III)I" } : MethodName)) ∈ TB := tb_5 100 rfl rfl
theorem tw_5_101 : (Cond.instanceMethod ({ cls := "LetterRepository$Store", name := "conflictField", desc := "(III)I" } : MethodName)) ∈ TB := tb_5 101 rfl rfl
theorem tw_5_102 : (Cond.selects "LetterRepository$Store" ({ cls := "LetterRepository$Store", name := "conflictField", desc := "(III)I" } : MethodName) ({ cls := "LetterRepository$Store", name := "conflictField", desc := "(III)I" } : MethodName)) ∈ TB := tb_5 102 rfl rfl
theorem tw_5_103 : (Cond.code ({ cls := "LetterRepository$Store", name := "conflictField", desc := "(III)I" } : MethodName) prog_10_method_29_code (6 : Nat) (some FieldType.int)) ∈ TB := tb_5 103 rfl rfl
theorem tw_5_104 : (Cond.methodLink "LetterRepositoryLaw" (305 : Nat) ({ cls := "LetterRepositoryLaw", name := "canMerge", desc := "(LLetterRepository;II[J)I" } : MethodName)) ∈ TB := tb_5 104 rfl rfl
theorem tw_5_105 : (Cond.static ({ cls := "LetterRepositoryLaw", name := "canMerge", desc := "(LLetterRepository;II[J)I" } : MethodName)) ∈ TB := tb_5 105 rfl rfl
theorem tw_5_106 : (Cond.codeWith ({ cls := "LetterRepositoryLaw", name := "canMerge", desc := "(LLetterRepository;II[J)I" } : MethodName) method_36_code (5 : Nat) (some FieldType.int) [((0 : Nat), (17 : Nat), (20 : Nat), (13 : Nat)), ((0 : Nat), (17 : Nat), (24 : Nat), (15 : Nat))]) ∈ TB := tb_5 106 rfl rfl
theorem tw_5_107 : (Cond.methodLink "LetterRepositoryLaw" (126 : Nat) ({ cls := "LetterRepository", name := "canMerge", desc := "(II)Z" } : MethodName)) ∈ TB := tb_5 107 rfl rfl
theorem tw_5_108 : (Cond.instanceMethod ({ cls := "LetterRepository", name := "canMerge", desc := "(II)Z" } : MethodName)) ∈ TB := tb_5 108 rfl rfl
theorem tw_5_109 : (Cond.selects "LetterRepository" ({ cls := "LetterRepository", name := "canMerge", desc := "(II)Z" } : MethodName) ({ cls := "LetterRepository", name := "canMerge", desc := "(II)Z" } : MethodName)) ∈ TB := tb_5 109 rfl rfl
theorem tw_5_110 : (Cond.code ({ cls := "LetterRepository", name := "canMerge", desc := "(II)Z" } : MethodName) prog_1_method_39_code (3 : Nat) (some FieldType.boolean)) ∈ TB := tb_5 110 rfl rfl
theorem tw_5_111 : (Cond.fieldLink "LetterRepository" (244 : Nat) "LetterRepository$Refusal" "NOTHING" "LLetterRepository$Refusal;") ∈ TB := tb_5 111 rfl rfl
theorem tw_5_112 : (Cond.methodLink "LetterRepositoryLaw" (308 : Nat) ({ cls := "LetterRepositoryLaw", name := "mergedLetter", desc := "(LLetterRepository;III[J)I" } : MethodName)) ∈ TB := tb_5 112 rfl rfl
theorem tw_5_113 : (Cond.static ({ cls := "LetterRepositoryLaw", name := "mergedLetter", desc := "(LLetterRepository;III[J)I" } : MethodName)) ∈ TB := tb_5 113 rfl rfl
theorem tw_5_114 : (Cond.codeWith ({ cls := "LetterRepositoryLaw", name := "mergedLetter", desc := "(LLetterRepository;III[J)I" } : MethodName) method_37_code (6 : Nat) (some FieldType.int) [((0 : Nat), (12 : Nat), (15 : Nat), (13 : Nat)), ((0 : Nat), (12 : Nat), (19 : Nat), (15 : Nat)), ((0 : Nat), (12 : Nat), (23 : Nat), (30 : Nat))]) ∈ TB := tb_5 114 rfl rfl
theorem tw_5_115 : (Cond.methodLink "LetterRepositoryLaw" (129 : Nat) ({ cls := "LetterRepository", name := "mergedLetter", desc := "(III)C" } : MethodName)) ∈ TB := tb_5 115 rfl rfl
theorem tw_5_116 : (Cond.instanceMethod ({ cls := "LetterRepository", name := "mergedLetter", desc := "(III)C" } : MethodName)) ∈ TB := tb_5 116 rfl rfl
theorem tw_5_117 : (Cond.selects "LetterRepository" ({ cls := "LetterRepository", name := "mergedLetter", desc := "(III)C" } : MethodName) ({ cls := "LetterRepository", name := "mergedLetter", desc := "(III)C" } : MethodName)) ∈ TB := tb_5 117 rfl rfl
theorem tw_5_118 : (Cond.code ({ cls := "LetterRepository", name := "mergedLetter", desc := "(III)C" } : MethodName) prog_1_method_40_code (5 : Nat) (some FieldType.char)) ∈ TB := tb_5 118 rfl rfl
theorem tw_5_119 : (Cond.methodLink "LetterRepository" (250 : Nat) ({ cls := "LetterRepository$Store", name := "mergedSign", desc := "(III)I" } : MethodName)) ∈ TB := tb_5 119 rfl rfl
theorem tw_5_121 : (Cond.methodLink "LetterRepositoryLaw" (311 : Nat) ({ cls := "LetterRepositoryLaw", name := "canPick", desc := "(LLetterRepository;II[J)I" } : MethodName)) ∈ TB := tb_5 121 rfl rfl
theorem tw_5_122 : (Cond.static ({ cls := "LetterRepositoryLaw", name := "canPick", desc := "(LLetterRepository;II[J)I" } : MethodName)) ∈ TB := tb_5 122 rfl rfl
theorem tw_5_123 : (Cond.codeWith ({ cls := "LetterRepositoryLaw", name := "canPick", desc := "(LLetterRepository;II[J)I" } : MethodName) method_38_code (5 : Nat) (some FieldType.int) [((0 : Nat), (17 : Nat), (20 : Nat), (13 : Nat)), ((0 : Nat), (17 : Nat), (24 : Nat), (30 : Nat))]) ∈ TB := tb_5 123 rfl rfl
theorem tw_5_124 : (Cond.methodLink "LetterRepositoryLaw" (133 : Nat) ({ cls := "LetterRepository", name := "canPick", desc := "(II)Z" } : MethodName)) ∈ TB := tb_5 124 rfl rfl
theorem tw_5_125 : (Cond.instanceMethod ({ cls := "LetterRepository", name := "canPick", desc := "(II)Z" } : MethodName)) ∈ TB := tb_5 125 rfl rfl
theorem tw_5_126 : (Cond.selects "LetterRepository" ({ cls := "LetterRepository", name := "canPick", desc := "(II)Z" } : MethodName) ({ cls := "LetterRepository", name := "canPick", desc := "(II)Z" } : MethodName)) ∈ TB := tb_5 126 rfl rfl
theorem tw_5_127 : (Cond.code ({ cls := "LetterRepository", name := "canPick", desc := "(II)Z" } : MethodName) prog_1_method_41_code (3 : Nat) (some FieldType.boolean)) ∈ TB := tb_5 127 rfl rfl
theorem tw_5_128 : (Cond.methodLink "LetterRepositoryLaw" (318 : Nat) ({ cls := "LetterRepositoryLaw", name := "taggedRevision", desc := "(LLetterRepository;C[J)I" } : MethodName)) ∈ TB := tb_5 128 rfl rfl
theorem tw_5_129 : (Cond.static ({ cls := "LetterRepositoryLaw", name := "taggedRevision", desc := "(LLetterRepository;C[J)I" } : MethodName)) ∈ TB := tb_5 129 rfl rfl
theorem tw_5_130 : (Cond.codeWith ({ cls := "LetterRepositoryLaw", name := "taggedRevision", desc := "(LLetterRepository;C[J)I" } : MethodName) method_39_code (4 : Nat) (some FieldType.int) [((0 : Nat), (9 : Nat), (12 : Nat), (30 : Nat))]) ∈ TB := tb_5 130 rfl rfl
theorem tw_5_131 : (Cond.methodLink "LetterRepositoryLaw" (136 : Nat) ({ cls := "LetterRepository", name := "taggedRevision", desc := "(C)I" } : MethodName)) ∈ TB := tb_5 131 rfl rfl
theorem tw_5_132 : (Cond.instanceMethod ({ cls := "LetterRepository", name := "taggedRevision", desc := "(C)I" } : MethodName)) ∈ TB := tb_5 132 rfl rfl
theorem tw_5_133 : (Cond.selects "LetterRepository" ({ cls := "LetterRepository", name := "taggedRevision", desc := "(C)I" } : MethodName) ({ cls := "LetterRepository", name := "taggedRevision", desc := "(C)I" } : MethodName)) ∈ TB := tb_5 133 rfl rfl
theorem tw_5_134 : (Cond.code ({ cls := "LetterRepository", name := "taggedRevision", desc := "(C)I" } : MethodName) prog_1_method_43_code (2 : Nat) (some FieldType.int)) ∈ TB := tb_5 134 rfl rfl
theorem tw_5_135 : (Cond.methodLink "LetterRepository" (261 : Nat) ({ cls := "LetterRepository$Store", name := "revisionWithTag", desc := "(I)I" } : MethodName)) ∈ TB := tb_5 135 rfl rfl
theorem tw_5_136 : (Cond.methodLink "LetterRepositoryLaw" (321 : Nat) ({ cls := "LetterRepositoryLaw", name := "tagOf", desc := "(LLetterRepository;I[J)I" } : MethodName)) ∈ TB := tb_5 136 rfl rfl
theorem tw_5_137 : (Cond.static ({ cls := "LetterRepositoryLaw", name := "tagOf", desc := "(LLetterRepository;I[J)I" } : MethodName)) ∈ TB := tb_5 137 rfl rfl
theorem tw_5_138 : (Cond.codeWith ({ cls := "LetterRepositoryLaw", name := "tagOf", desc := "(LLetterRepository;I[J)I" } : MethodName) method_40_code (4 : Nat) (some FieldType.int) [((0 : Nat), (9 : Nat), (12 : Nat), (30 : Nat))]) ∈ TB := tb_5 138 rfl rfl
theorem tw_5_139 : (Cond.methodLink "LetterRepositoryLaw" (139 : Nat) ({ cls := "LetterRepository", name := "tagOf", desc := "(I)C" } : MethodName)) ∈ TB := tb_5 139 rfl rfl
theorem tw_5_140 : (Cond.instanceMethod ({ cls := "LetterRepository", name := "tagOf", desc := "(I)C" } : MethodName)) ∈ TB := tb_5 140 rfl rfl
theorem tw_5_141 : (Cond.selects "LetterRepository" ({ cls := "LetterRepository", name := "tagOf", desc := "(I)C" } : MethodName) ({ cls := "LetterRepository", name := "tagOf", desc := "(I)C" } : MethodName)) ∈ TB := tb_5 141 rfl rfl
theorem tw_5_142 : (Cond.code ({ cls := "LetterRepository", name := "tagOf", desc := "(I)C" } : MethodName) prog_1_method_44_code (2 : Nat) (some FieldType.char)) ∈ TB := tb_5 142 rfl rfl
theorem tw_5_143 : (Cond.methodLink "LetterRepository" (264 : Nat) ({ cls := "LetterRepository$Store", name := "firstTagOf", desc := "(I)I" } : MethodName)) ∈ TB := tb_5 143 rfl rfl
theorem tw_5_144 : (Cond.instanceMethod ({ cls := "LetterRepository$Store", name := "firstTagOf", desc := "(I)I" } : MethodName)) ∈ TB := tb_5 144 rfl rfl
theorem tw_5_145 : (Cond.selects "LetterRepository$Store" ({ cls := "LetterRepository$Store", name := "firstTagOf", desc := "(I)I" } : MethodName) ({ cls := "LetterRepository$Store", name := "firstTagOf", desc := "(I)I" } : MethodName)) ∈ TB := tb_5 145 rfl rfl
theorem tw_5_146 : (Cond.code ({ cls := "LetterRepository$Store", name := "firstTagOf", desc := "(I)I" } : MethodName) prog_10_method_37_code (3 : Nat) (some FieldType.int)) ∈ TB := tb_5 146 rfl rfl
theorem tw_5_147 : (Cond.methodLink "LetterRepositoryLaw" (347 : Nat) ({ cls := "LetterRepositoryLaw", name := "formatRevision", desc := "(LLetterRepository;I[J)I" } : MethodName)) ∈ TB := tb_5 147 rfl rfl
theorem tw_5_148 : (Cond.static ({ cls := "LetterRepositoryLaw", name := "formatRevision", desc := "(LLetterRepository;I[J)I" } : MethodName)) ∈ TB := tb_5 148 rfl rfl
theorem tw_5_149 : (Cond.codeWith ({ cls := "LetterRepositoryLaw", name := "formatRevision", desc := "(LLetterRepository;I[J)I" } : MethodName) method_41_code (4 : Nat) (some FieldType.int) [((0 : Nat), (9 : Nat), (12 : Nat), (30 : Nat))]) ∈ TB := tb_5 149 rfl rfl
theorem tw_5_150 : (Cond.methodLink "LetterRepositoryLaw" (143 : Nat) ({ cls := "LetterRepository", name := "formatRevision", desc := "(I)I" } : MethodName)) ∈ TB := tb_5 150 rfl rfl
theorem tw_5_151 : (Cond.instanceMethod ({ cls := "LetterRepository", name := "formatRevision", desc := "(I)I" } : MethodName)) ∈ TB := tb_5 151 rfl rfl
theorem tw_5_152 : (Cond.selects "LetterRepository" ({ cls := "LetterRepository", name := "formatRevision", desc := "(I)I" } : MethodName) ({ cls := "LetterRepository", name := "formatRevision", desc := "(I)I" } : MethodName)) ∈ TB := tb_5 152 rfl rfl
theorem tw_5_153 : (Cond.code ({ cls := "LetterRepository", name := "formatRevision", desc := "(I)I" } : MethodName) prog_1_method_50_code (4 : Nat) (some FieldType.int)) ∈ TB := tb_5 153 rfl rfl
theorem tw_5_154 : (Cond.methodLink "LetterRepository" (291 : Nat) ({ cls := "java/lang/StringBuilder", name := "setLength", desc := "(I)V" } : MethodName)) ∈ TB := tb_5 154 rfl rfl
theorem tw_5_155 : (Cond.instanceMethod ({ cls := "java/lang/StringBuilder", name := "setLength", desc := "(I)V" } : MethodName)) ∈ TB := tb_5 155 rfl rfl
theorem tw_5_156 : (Cond.selects "java/lang/StringBuilder" ({ cls := "java/lang/StringBuilder", name := "setLength", desc := "(I)V" } : MethodName) ({ cls := "java/lang/StringBuilder", name := "setLength", desc := "(I)V" } : MethodName)) ∈ TB := tb_5 156 rfl rfl
theorem tw_5_157 : (Cond.code ({ cls := "java/lang/StringBuilder", name := "setLength", desc := "(I)V" } : MethodName) prog_30_method_89_code (2 : Nat) (none : Option FieldType)) ∈ TB := tb_5 157 rfl rfl
theorem tw_5_158 : (Cond.methodLink "java/lang/StringBuilder" (333 : Nat) ({ cls := "java/lang/AbstractStringBuilder", name := "setLength", desc := "(I)V" } : MethodName)) ∈ TB := tb_5 158 rfl rfl
theorem tw_5_159 : (Cond.instanceMethod ({ cls := "java/lang/AbstractStringBuilder", name := "setLength", desc := "(I)V" } : MethodName)) ∈ TB := tb_5 159 rfl rfl
theorem tw_5_160 : (Cond.code ({ cls := "java/lang/AbstractStringBuilder", name := "setLength", desc := "(I)V" } : MethodName) prog_14_method_13_code (2 : Nat) (none : Option FieldType)) ∈ TB := tb_5 160 rfl rfl
theorem tw_5_161 : (Cond.classLink "java/lang/AbstractStringBuilder" (129 : Nat) "java/lang/StringIndexOutOfBoundsException") ∈ TB := tb_5 161 rfl rfl
theorem tw_5_162 : (Cond.instantiable "java/lang/StringIndexOutOfBoundsException" (6 : Nat)) ∈ TB := tb_5 162 rfl rfl
theorem tw_5_163 : (Cond.methodLink "java/lang/AbstractStringBuilder" (131 : Nat) ({ cls := "java/lang/StringIndexOutOfBoundsException", name := "<init>", desc := "(I)V" } : MethodName)) ∈ TB := tb_5 163 rfl rfl
theorem tw_5_164 : (Cond.instanceMethod ({ cls := "java/lang/StringIndexOutOfBoundsException", name := "<init>", desc := "(I)V" } : MethodName)) ∈ TB := tb_5 164 rfl rfl
theorem tw_5_165 : (Cond.code ({ cls := "java/lang/StringIndexOutOfBoundsException", name := "<init>", desc := "(I)V" } : MethodName) prog_31_method_3_code (2 : Nat) (none : Option FieldType)) ∈ TB := tb_5 165 rfl rfl
theorem tw_5_166 : (Cond.classLink "java/lang/StringIndexOutOfBoundsException" (10 : Nat) "java/lang/StringBuilder") ∈ TB := tb_5 166 rfl rfl
theorem tw_5_167 : (Cond.methodLink "java/lang/StringIndexOutOfBoundsException" (12 : Nat) ({ cls := "java/lang/StringBuilder", name := "<init>", desc := "()V" } : MethodName)) ∈ TB := tb_5 167 rfl rfl
theorem tw_5_169 : (Cond.methodLink "java/lang/StringIndexOutOfBoundsException" (15 : Nat) ({ cls := "java/lang/StringBuilder", name := "append", desc := "(Ljava/lang/String;)Ljava/lang/StringBuilder;" } : MethodName)) ∈ TB := tb_5 169 rfl rfl
theorem tw_5_170 : (Cond.instanceMethod ({ cls := "java/lang/StringBuilder", name := "append", desc := "(Ljava/lang/String;)Ljava/lang/StringBuilder;" } : MethodName)) ∈ TB := tb_5 170 rfl rfl
theorem tw_5_171 : (Cond.selects "java/lang/StringBuilder" ({ cls := "java/lang/StringBuilder", name := "append", desc := "(Ljava/lang/String;)Ljava/lang/StringBuilder;" } : MethodName) ({ cls := "java/lang/StringBuilder", name := "append", desc := "(Ljava/lang/String;)Ljava/lang/StringBuilder;" } : MethodName)) ∈ TB := tb_5 171 rfl rfl
theorem tw_5_172 : (Cond.code ({ cls := "java/lang/StringBuilder", name := "append", desc := "(Ljava/lang/String;)Ljava/lang/StringBuilder;" } : MethodName) prog_30_method_7_code (2 : Nat) (some (FieldType.object "java/lang/StringBuilder"))) ∈ TB := tb_5 172 rfl rfl
theorem tw_5_173 : (Cond.methodLink "java/lang/StringBuilder" (29 : Nat) ({ cls := "java/lang/AbstractStringBuilder", name := "append", desc := "(Ljava/lang/String;)Ljava/lang/AbstractStringBuilder;" } : MethodName)) ∈ TB := tb_5 173 rfl rfl
theorem tw_5_174 : (Cond.instanceMethod ({ cls := "java/lang/AbstractStringBuilder", name := "append", desc := "(Ljava/lang/String;)Ljava/lang/AbstractStringBuilder;" } : MethodName)) ∈ TB := tb_5 174 rfl rfl
theorem tw_5_175 : (Cond.code ({ cls := "java/lang/AbstractStringBuilder", name := "append", desc := "(Ljava/lang/String;)Ljava/lang/AbstractStringBuilder;" } : MethodName) prog_14_method_22_code (3 : Nat) (some (FieldType.object "java/lang/AbstractStringBuilder"))) ∈ TB := tb_5 175 rfl rfl
theorem tw_5_176 : (Cond.methodLink "java/lang/AbstractStringBuilder" (204 : Nat) ({ cls := "java/lang/AbstractStringBuilder", name := "appendNull", desc := "()Ljava/lang/AbstractStringBuilder;" } : MethodName)) ∈ TB := tb_5 176 rfl rfl
theorem tw_5_178 : (Cond.instanceMethod ({ cls := "java/lang/AbstractStringBuilder", name := "appendNull", desc := "()Ljava/lang/AbstractStringBuilder;" } : MethodName)) ∈ TB := tb_5 178 rfl rfl
theorem tw_5_179 : (Cond.code ({ cls := "java/lang/AbstractStringBuilder", name := "appendNull", desc := "()Ljava/lang/AbstractStringBuilder;" } : MethodName) prog_14_method_26_code (3 : Nat) (some (FieldType.object "java/lang/AbstractStringBuilder"))) ∈ TB := tb_5 179 rfl rfl
theorem tw_5_180 : (Cond.methodLink "java/lang/AbstractStringBuilder" (100 : Nat) ({ cls := "java/lang/AbstractStringBuilder", name := "ensureCapacityInternal", desc := "(I)V" } : MethodName)) ∈ TB := tb_5 180 rfl rfl
theorem tw_5_182 : (Cond.instanceMethod ({ cls := "java/lang/AbstractStringBuilder", name := "ensureCapacityInternal", desc := "(I)V" } : MethodName)) ∈ TB := tb_5 182 rfl rfl
theorem tw_5_183 : (Cond.code ({ cls := "java/lang/AbstractStringBuilder", name := "ensureCapacityInternal", desc := "(I)V" } : MethodName) prog_14_method_9_code (3 : Nat) (none : Option FieldType)) ∈ TB := tb_5 183 rfl rfl
theorem tw_5_184 : (Cond.methodLink "java/lang/AbstractStringBuilder" (104 : Nat) ({ cls := "java/lang/AbstractStringBuilder", name := "newCapacity", desc := "(I)I" } : MethodName)) ∈ TB := tb_5 184 rfl rfl
theorem tw_5_186 : (Cond.instanceMethod ({ cls := "java/lang/AbstractStringBuilder", name := "newCapacity", desc := "(I)I" } : MethodName)) ∈ TB := tb_5 186 rfl rfl
theorem tw_5_187 : (Cond.code ({ cls := "java/lang/AbstractStringBuilder", name := "newCapacity", desc := "(I)I" } : MethodName) prog_14_method_10_code (6 : Nat) (some FieldType.int)) ∈ TB := tb_5 187 rfl rfl
theorem tw_5_188 : (Cond.methodLink "java/lang/AbstractStringBuilder" (114 : Nat) ({ cls := "jdk/internal/util/ArraysSupport", name := "newLength", desc := "(III)I" } : MethodName)) ∈ TB := tb_5 188 rfl rfl
theorem tw_5_189 : (Cond.static ({ cls := "jdk/internal/util/ArraysSupport", name := "newLength", desc := "(III)I" } : MethodName)) ∈ TB := tb_5 189 rfl rfl
theorem tw_5_190 : (Cond.code ({ cls := "jdk/internal/util/ArraysSupport", name := "newLength", desc := "(III)I" } : MethodName) prog_40_method_27_code (4 : Nat) (some FieldType.int)) ∈ TB := tb_5 190 rfl rfl
theorem tw_5_191 : (Cond.methodLink "jdk/internal/util/ArraysSupport" (194 : Nat) ({ cls := "java/lang/Math", name := "max", desc := "(II)I" } : MethodName)) ∈ TB := tb_5 191 rfl rfl
theorem tw_5_192 : (Cond.constant "jdk/internal/util/ArraysSupport" (200 : Nat) (2147483639 : Int32)) ∈ TB := tb_5 192 rfl rfl
theorem tw_5_193 : (Cond.methodLink "jdk/internal/util/ArraysSupport" (201 : Nat) ({ cls := "jdk/internal/util/ArraysSupport", name := "hugeLength", desc := "(II)I" } : MethodName)) ∈ TB := tb_5 193 rfl rfl
theorem tw_5_194 : (Cond.static ({ cls := "jdk/internal/util/ArraysSupport", name := "hugeLength", desc := "(II)I" } : MethodName)) ∈ TB := tb_5 194 rfl rfl
theorem tw_5_195 : (Cond.code ({ cls := "jdk/internal/util/ArraysSupport", name := "hugeLength", desc := "(II)I" } : MethodName) prog_40_method_28_code (3 : Nat) (some FieldType.int)) ∈ TB := tb_5 195 rfl rfl
theorem tw_5_196 : (Cond.constant "java/lang/AbstractStringBuilder" (39 : Nat) (2147483647 : Int32)) ∈ TB := tb_5 196 rfl rfl
theorem tw_5_197 : (Cond.methodLink "java/lang/AbstractStringBuilder" (108 : Nat) ({ cls := "java/util/Arrays", name := "copyOf", desc := "([BI)[B" } : MethodName)) ∈ TB := tb_5 197 rfl rfl
theorem tw_5_198 : (Cond.static ({ cls := "java/util/Arrays", name := "copyOf", desc := "([BI)[B" } : MethodName)) ∈ TB := tb_5 198 rfl rfl
theorem tw_5_199 : (Cond.code ({ cls := "java/util/Arrays", name := "copyOf", desc := "([BI)[B" } : MethodName) prog_38_method_121_code (3 : Nat) (some (FieldType.array FieldType.byte))) ∈ TB := tb_5 199 rfl rfl
theorem tw_5_200 : (Cond.methodLink "java/util/Arrays" (310 : Nat) ({ cls := "[B", name := "clone", desc := "()Ljava/lang/Object;" } : MethodName)) ∈ TB := tb_5 200 rfl rfl
theorem tw_5_201 : (Cond.sameMethod "[B" "java/lang/Object" "clone" "()Ljava/lang/Object;") ∈ TB := tb_5 201 rfl rfl
theorem tw_5_202 : (Cond.native ({ cls := "java/lang/Object", name := "clone", desc := "()Ljava/lang/Object;" } : MethodName)) ∈ TB := tb_5 202 rfl rfl
theorem tw_5_203 : (Cond.instanceMethod ({ cls := "java/lang/Object", name := "clone", desc := "()Ljava/lang/Object;" } : MethodName)) ∈ TB := tb_5 203 rfl rfl
theorem tw_5_204 : (Cond.selects "[B" ({ cls := "[B", name := "clone", desc := "()Ljava/lang/Object;" } : MethodName) ({ cls := "java/lang/Object", name := "clone", desc := "()Ljava/lang/Object;" } : MethodName)) ∈ TB := tb_5 204 rfl rfl
theorem tw_5_205 : (Cond.castable "[B" "java/lang/Cloneable") ∈ NB := nb_5 205 rfl rfl
theorem tw_5_206 : (Cond.classLink "java/util/Arrays" (311 : Nat) "[B") ∈ TB := tb_5 206 rfl rfl
theorem tw_5_207 : (Cond.methodLink "java/util/Arrays" (304 : Nat) ({ cls := "java/lang/Math", name := "min", desc := "(II)I" } : MethodName)) ∈ TB := tb_5 207 rfl rfl
theorem tw_5_208 : (Cond.methodLink "java/util/Arrays" (150 : Nat) ({ cls := "java/lang/System", name := "arraycopy", desc := "(Ljava/lang/Object;ILjava/lang/Object;II)V" } : MethodName)) ∈ TB := tb_5 208 rfl rfl
theorem tw_5_209 : (Cond.methodLink "java/lang/AbstractStringBuilder" (83 : Nat) ({ cls := "java/lang/AbstractStringBuilder", name := "isLatin1", desc := "()Z" } : MethodName)) ∈ TB := tb_5 209 rfl rfl
theorem tw_5_210 : (Cond.instanceMethod ({ cls := "java/lang/AbstractStringBuilder", name := "isLatin1", desc := "()Z" } : MethodName)) ∈ TB := tb_5 210 rfl rfl
theorem tw_5_211 : (Cond.sameMethod "java/lang/AbstractStringBuilder" "java/lang/AbstractStringBuilder" "isLatin1" "()Z") ∈ TB := tb_5 211 rfl rfl
theorem tw_5_212 : (Cond.selects "java/lang/StringBuilder" ({ cls := "java/lang/AbstractStringBuilder", name := "isLatin1", desc := "()Z" } : MethodName) ({ cls := "java/lang/AbstractStringBuilder", name := "isLatin1", desc := "()Z" } : MethodName)) ∈ TB := tb_5 212 rfl rfl
theorem tw_5_213 : (Cond.code ({ cls := "java/lang/AbstractStringBuilder", name := "isLatin1", desc := "()Z" } : MethodName) prog_14_method_68_code (1 : Nat) (some FieldType.boolean)) ∈ TB := tb_5 213 rfl rfl
theorem tw_5_214 : (Cond.methodLink "java/lang/AbstractStringBuilder" (226 : Nat) ({ cls := "java/lang/StringUTF16", name := "putCharsAt", desc := "([BICCCC)I" } : MethodName)) ∈ TB := tb_5 214 rfl rfl
theorem tw_5_215 : (Cond.static ({ cls := "java/lang/StringUTF16", name := "putCharsAt", desc := "([BICCCC)I" } : MethodName)) ∈ TB := tb_5 215 rfl rfl
theorem tw_5_216 : (Cond.code ({ cls := "java/lang/StringUTF16", name := "putCharsAt", desc := "([BICCCC)I" } : MethodName) prog_33_method_81_code (7 : Nat) (some FieldType.int)) ∈ TB := tb_5 216 rfl rfl
theorem tw_5_217 : (Cond.methodLink "java/lang/StringUTF16" (96 : Nat) ({ cls := "java/lang/StringUTF16", name := "checkBoundsBeginEnd", desc := "(II[B)V" } : MethodName)) ∈ TB := tb_5 217 rfl rfl
theorem tw_5_218 : (Cond.static ({ cls := "java/lang/StringUTF16", name := "checkBoundsBeginEnd", desc := "(II[B)V" } : MethodName)) ∈ TB := tb_5 218 rfl rfl
theorem tw_5_219 : (Cond.code ({ cls := "java/lang/StringUTF16", name := "checkBoundsBeginEnd", desc := "(II[B)V" } : MethodName) prog_33_method_93_code (3 : Nat) (none : Option FieldType)) ∈ TB := tb_5 219 rfl rfl
theorem tw_5_220 : (Cond.methodLink "java/lang/StringUTF16" (48 : Nat) ({ cls := "java/lang/StringUTF16", name := "length", desc := "([B)I" } : MethodName)) ∈ TB := tb_5 220 rfl rfl
theorem tw_5_221 : (Cond.static ({ cls := "java/lang/StringUTF16", name := "length", desc := "([B)I" } : MethodName)) ∈ TB := tb_5 221 rfl rfl
theorem tw_5_222 : (Cond.code ({ cls := "java/lang/StringUTF16", name := "length", desc := "([B)I" } : MethodName) prog_33_method_6_code (1 : Nat) (some FieldType.int)) ∈ TB := tb_5 222 rfl rfl
theorem tw_5_223 : (Cond.methodLink "java/lang/StringUTF16" (241 : Nat) ({ cls := "java/lang/String", name := "checkBoundsBeginEnd", desc := "(III)V" } : MethodName)) ∈ TB := tb_5 223 rfl rfl
theorem tw_5_224 : (Cond.static ({ cls := "java/lang/String", name := "checkBoundsBeginEnd", desc := "(III)V" } : MethodName)) ∈ TB := tb_5 224 rfl rfl
theorem tw_5_225 : (Cond.code ({ cls := "java/lang/String", name := "checkBoundsBeginEnd", desc := "(III)V" } : MethodName) prog_29_method_158_code (3 : Nat) (none : Option FieldType)) ∈ TB := tb_5 225 rfl rfl
theorem tw_5_226 : (Cond.fieldLink "java/lang/String" (1053 : Nat) "jdk/internal/util/Preconditions" "SIOOBE_FORMATTER" "Ljava/util/function/BiFunction;") ∈ TB := tb_5 226 rfl rfl
theorem tw_5_228 : (Cond.methodLink "java/lang/String" (1062 : Nat) ({ cls := "jdk/internal/util/Preconditions", name := "checkFromToIndex", desc := "(IIILjava/util/function/BiFunction;)I" } : MethodName)) ∈ TB := tb_5 228 rfl rfl
theorem tw_5_229 : (Cond.static ({ cls := "jdk/internal/util/Preconditions", name := "checkFromToIndex", desc := "(IIILjava/util/function/BiFunction;)I" } : MethodName)) ∈ TB := tb_5 229 rfl rfl
theorem tw_5_230 : (Cond.code ({ cls := "jdk/internal/util/Preconditions", name := "checkFromToIndex", desc := "(IIILjava/util/function/BiFunction;)I" } : MethodName) prog_41_method_12_code (4 : Nat) (some FieldType.int)) ∈ TB := tb_5 230 rfl rfl
theorem tw_5_231 : (Cond.methodLink "java/lang/StringUTF16" (111 : Nat) ({ cls := "java/lang/StringUTF16", name := "putChar", desc := "([BII)V" } : MethodName)) ∈ TB := tb_5 231 rfl rfl
theorem tw_5_232 : (Cond.static ({ cls := "java/lang/StringUTF16", name := "putChar", desc := "([BII)V" } : MethodName)) ∈ TB := tb_5 232 rfl rfl
theorem tw_5_233 : (Cond.code ({ cls := "java/lang/StringUTF16", name := "putChar", desc := "([BII)V" } : MethodName) prog_33_method_4_code (3 : Nat) (none : Option FieldType)) ∈ TB := tb_5 233 rfl rfl
theorem tw_5_234 : (Cond.fieldLink "java/lang/StringUTF16" (44 : Nat) "java/lang/StringUTF16" "$assertionsDisabled" "Z") ∈ TB := tb_5 234 rfl rfl
theorem tw_5_236 : (Cond.fieldLink "java/lang/StringUTF16" (59 : Nat) "java/lang/StringUTF16" "HI_BYTE_SHIFT" "I") ∈ TB := tb_5 236 rfl rfl
theorem tw_5_238 : (Cond.fieldLink "java/lang/StringUTF16" (63 : Nat) "java/lang/StringUTF16" "LO_BYTE_SHIFT" "I") ∈ TB := tb_5 238 rfl rfl
theorem tw_6_0 : (Cond.methodLink "java/lang/AbstractStringBuilder" (32 : Nat) ({ cls := "java/lang/String", name := "length", desc := "()I" } : MethodName)) ∈ TB := tb_6 0 rfl rfl
theorem tw_6_1 : (Cond.instanceMethod ({ cls := "java/lang/String", name := "length", desc := "()I" } : MethodName)) ∈ TB := tb_6 1 rfl rfl
theorem tw_6_2 : (Cond.selects "java/lang/String" ({ cls := "java/lang/String", name := "length", desc := "()I" } : MethodName) ({ cls := "java/lang/String", name := "length", desc := "()I" } : MethodName)) ∈ TB := tb_6 2 rfl rfl
theorem tw_6_3 : (Cond.code ({ cls := "java/lang/String", name := "length", desc := "()I" } : MethodName) prog_29_method_54_code (1 : Nat) (some FieldType.int)) ∈ TB := tb_6 3 rfl rfl
theorem tw_6_4 : (Cond.methodLink "java/lang/String" (335 : Nat) ({ cls := "java/lang/String", name := "coder", desc := "()B" } : MethodName)) ∈ TB := tb_6 4 rfl rfl
theorem tw_6_5 : (Cond.instanceMethod ({ cls := "java/lang/String", name := "coder", desc := "()B" } : MethodName)) ∈ TB := tb_6 5 rfl rfl
theorem tw_6_6 : (Cond.selects "java/lang/String" ({ cls := "java/lang/String", name := "coder", desc := "()B" } : MethodName) ({ cls := "java/lang/String", name := "coder", desc := "()B" } : MethodName)) ∈ TB := tb_6 6 rfl rfl
theorem tw_6_7 : (Cond.code ({ cls := "java/lang/String", name := "coder", desc := "()B" } : MethodName) prog_29_method_152_code (1 : Nat) (some FieldType.byte)) ∈ TB := tb_6 7 rfl rfl
theorem tw_6_8 : (Cond.fieldLink "java/lang/String" (38 : Nat) "java/lang/String" "COMPACT_STRINGS" "Z") ∈ TB := tb_6 8 rfl rfl
theorem tw_6_9 : (Cond.methodLink "java/lang/AbstractStringBuilder" (208 : Nat) ({ cls := "java/lang/AbstractStringBuilder", name := "putStringAt", desc := "(ILjava/lang/String;)V" } : MethodName)) ∈ TB := tb_6 9 rfl rfl
theorem tw_6_11 : (Cond.instanceMethod ({ cls := "java/lang/AbstractStringBuilder", name := "putStringAt", desc := "(ILjava/lang/String;)V" } : MethodName)) ∈ TB := tb_6 11 rfl rfl
theorem tw_6_12 : (Cond.code ({ cls := "java/lang/AbstractStringBuilder", name := "putStringAt", desc := "(ILjava/lang/String;)V" } : MethodName) prog_14_method_73_code (3 : Nat) (none : Option FieldType)) ∈ TB := tb_6 12 rfl rfl
theorem tw_6_13 : (Cond.methodLink "java/lang/AbstractStringBuilder" (397 : Nat) ({ cls := "java/lang/AbstractStringBuilder", name := "inflateIfNeededFor", desc := "(Ljava/lang/String;)V" } : MethodName)) ∈ TB := tb_6 13 rfl rfl
theorem tw_6_15 : (Cond.instanceMethod ({ cls := "java/lang/AbstractStringBuilder", name := "inflateIfNeededFor", desc := "(Ljava/lang/String;)V" } : MethodName)) ∈ TB := tb_6 15 rfl rfl
theorem tw_6_16 : (Cond.code ({ cls := "java/lang/AbstractStringBuilder", name := "inflateIfNeededFor", desc := "(Ljava/lang/String;)V" } : MethodName) prog_14_method_71_code (2 : Nat) (none : Option FieldType)) ∈ TB := tb_6 16 rfl rfl
theorem tw_6_17 : (Cond.methodLink "java/lang/AbstractStringBuilder" (40 : Nat) ({ cls := "java/lang/String", name := "coder", desc := "()B" } : MethodName)) ∈ TB := tb_6 17 rfl rfl
theorem tw_6_18 : (Cond.methodLink "java/lang/AbstractStringBuilder" (195 : Nat) ({ cls := "java/lang/AbstractStringBuilder", name := "inflate", desc := "()V" } : MethodName)) ∈ TB := tb_6 18 rfl rfl
theorem tw_6_20 : (Cond.instanceMethod ({ cls := "java/lang/AbstractStringBuilder", name := "inflate", desc := "()V" } : MethodName)) ∈ TB := tb_6 20 rfl rfl
theorem tw_6_21 : (Cond.code ({ cls := "java/lang/AbstractStringBuilder", name := "inflate", desc := "()V" } : MethodName) prog_14_method_11_code (2 : Nat) (none : Option FieldType)) ∈ TB := tb_6 21 rfl rfl
theorem tw_6_22 : (Cond.methodLink "java/lang/AbstractStringBuilder" (125 : Nat) ({ cls := "java/lang/StringLatin1", name := "inflate", desc := "([BI[BII)V" } : MethodName)) ∈ TB := tb_6 22 rfl rfl
theorem tw_6_23 : (Cond.static ({ cls := "java/lang/StringLatin1", name := "inflate", desc := "([BI[BII)V" } : MethodName)) ∈ TB := tb_6 23 rfl rfl
theorem tw_6_24 : (Cond.code ({ cls := "java/lang/StringLatin1", name := "inflate", desc := "([BI[BII)V" } : MethodName) prog_32_method_50_code (5 : Nat) (none : Option FieldType)) ∈ TB := tb_6 24 rfl rfl
theorem tw_6_25 : (Cond.methodLink "java/lang/StringLatin1" (240 : Nat) ({ cls := "java/lang/StringUTF16", name := "inflate", desc := "([BI[BII)V" } : MethodName)) ∈ TB := tb_6 25 rfl rfl
theorem tw_6_26 : (Cond.static ({ cls := "java/lang/StringUTF16", name := "inflate", desc := "([BI[BII)V" } : MethodName)) ∈ TB := tb_6 26 rfl rfl
theorem tw_6_27 : (Cond.code ({ cls := "java/lang/StringUTF16", name := "inflate", desc := "([BI[BII)V" } : MethodName) prog_33_method_86_code (6 : Nat) (none : Option FieldType)) ∈ TB := tb_6 27 rfl rfl
theorem tw_6_28 : (Cond.methodLink "java/lang/StringUTF16" (173 : Nat) ({ cls := "java/lang/StringUTF16", name := "checkBoundsOffCount", desc := "(II[B)V" } : MethodName)) ∈ TB := tb_6 28 rfl rfl
theorem tw_6_29 : (Cond.static ({ cls := "java/lang/StringUTF16", name := "checkBoundsOffCount", desc := "(II[B)V" } : MethodName)) ∈ TB := tb_6 29 rfl rfl
theorem tw_6_30 : (Cond.code ({ cls := "java/lang/StringUTF16", name := "checkBoundsOffCount", desc := "(II[B)V" } : MethodName) prog_33_method_94_code (3 : Nat) (none : Option FieldType)) ∈ TB := tb_6 30 rfl rfl
theorem tw_6_31 : (Cond.methodLink "java/lang/StringUTF16" (419 : Nat) ({ cls := "java/lang/String", name := "checkBoundsOffCount", desc := "(III)I" } : MethodName)) ∈ TB := tb_6 31 rfl rfl
theorem tw_6_32 : (Cond.static ({ cls := "java/lang/String", name := "checkBoundsOffCount", desc := "(III)I" } : MethodName)) ∈ TB := tb_6 32 rfl rfl
theorem tw_6_33 : (Cond.code ({ cls := "java/lang/String", name := "checkBoundsOffCount", desc := "(III)I" } : MethodName) prog_29_method_157_code (3 : Nat) (some FieldType.int)) ∈ TB := tb_6 33 rfl rfl
theorem tw_6_34 : (Cond.methodLink "java/lang/String" (1065 : Nat) ({ cls := "jdk/internal/util/Preconditions", name := "checkFromIndexSize", desc := "(IIILjava/util/function/BiFunction;)I" } : MethodName)) ∈ TB := tb_6 34 rfl rfl
theorem tw_6_35 : (Cond.static ({ cls := "jdk/internal/util/Preconditions", name := "checkFromIndexSize", desc := "(IIILjava/util/function/BiFunction;)I" } : MethodName)) ∈ TB := tb_6 35 rfl rfl
theorem tw_6_36 : (Cond.code ({ cls := "jdk/internal/util/Preconditions", name := "checkFromIndexSize", desc := "(IIILjava/util/function/BiFunction;)I" } : MethodName) prog_41_method_13_code (4 : Nat) (some FieldType.int)) ∈ TB := tb_6 36 rfl rfl
theorem tw_6_37 : (Cond.methodLink "java/lang/AbstractStringBuilder" (399 : Nat) ({ cls := "java/lang/String", name := "getBytes", desc := "([BIB)V" } : MethodName)) ∈ TB := tb_6 37 rfl rfl
theorem tw_6_38 : (Cond.instanceMethod ({ cls := "java/lang/String", name := "getBytes", desc := "([BIB)V" } : MethodName)) ∈ TB := tb_6 38 rfl rfl
theorem tw_6_39 : (Cond.selects "java/lang/String" ({ cls := "java/lang/String", name := "getBytes", desc := "([BIB)V" } : MethodName) ({ cls := "java/lang/String", name := "getBytes", desc := "([BIB)V" } : MethodName)) ∈ TB := tb_6 39 rfl rfl
theorem tw_6_40 : (Cond.code ({ cls := "java/lang/String", name := "getBytes", desc := "([BIB)V" } : MethodName) prog_29_method_147_code (4 : Nat) (none : Option FieldType)) ∈ TB := tb_6 40 rfl rfl
theorem tw_6_41 : (Cond.methodLink "java/lang/String" (212 : Nat) ({ cls := "java/lang/System", name := "arraycopy", desc := "(Ljava/lang/Object;ILjava/lang/Object;II)V" } : MethodName)) ∈ TB := tb_6 41 rfl rfl
theorem tw_6_42 : (Cond.methodLink "java/lang/String" (106 : Nat) ({ cls := "java/lang/StringLatin1", name := "inflate", desc := "([BI[BII)V" } : MethodName)) ∈ TB := tb_6 42 rfl rfl
theorem tw_6_43 : (Cond.methodLink "java/lang/StringIndexOutOfBoundsException" (19 : Nat) ({ cls := "java/lang/StringBuilder", name := "append", desc := "(I)Ljava/lang/StringBuilder;" } : MethodName)) ∈ TB := tb_6 43 rfl rfl
theorem tw_6_44 : (Cond.instanceMethod ({ cls := "java/lang/StringBuilder", name := "append", desc := "(I)Ljava/lang/StringBuilder;" } : MethodName)) ∈ TB := tb_6 44 rfl rfl
theorem tw_6_45 : (Cond.selects "java/lang/StringBuilder" ({ cls := "java/lang/StringBuilder", name := "append", desc := "(I)Ljava/lang/StringBuilder;" } : MethodName) ({ cls := "java/lang/StringBuilder", name := "append", desc := "(I)Ljava/lang/StringBuilder;" } : MethodName)) ∈ TB := tb_6 45 rfl rfl
theorem tw_6_46 : (Cond.code ({ cls := "java/lang/StringBuilder", name := "append", desc := "(I)Ljava/lang/StringBuilder;" } : MethodName) prog_30_method_15_code (2 : Nat) (some (FieldType.object "java/lang/StringBuilder"))) ∈ TB := tb_6 46 rfl rfl
theorem tw_6_47 : (Cond.methodLink "java/lang/StringBuilder" (53 : Nat) ({ cls := "java/lang/AbstractStringBuilder", name := "append", desc := "(I)Ljava/lang/AbstractStringBuilder;" } : MethodName)) ∈ TB := tb_6 47 rfl rfl
theorem tw_6_48 : (Cond.instanceMethod ({ cls := "java/lang/AbstractStringBuilder", name := "append", desc := "(I)Ljava/lang/AbstractStringBuilder;" } : MethodName)) ∈ TB := tb_6 48 rfl rfl
theorem tw_6_49 : (Cond.code ({ cls := "java/lang/AbstractStringBuilder", name := "append", desc := "(I)Ljava/lang/AbstractStringBuilder;" } : MethodName) prog_14_method_32_code (4 : Nat) (some (FieldType.object "java/lang/AbstractStringBuilder"))) ∈ TB := tb_6 49 rfl rfl
theorem tw_6_50 : (Cond.methodLink "java/lang/AbstractStringBuilder" (245 : Nat) ({ cls := "java/lang/Integer", name := "stringSize", desc := "(I)I" } : MethodName)) ∈ TB := tb_6 50 rfl rfl
theorem tw_6_51 : (Cond.static ({ cls := "java/lang/Integer", name := "stringSize", desc := "(I)I" } : MethodName)) ∈ TB := tb_6 51 rfl rfl
theorem tw_6_52 : (Cond.code ({ cls := "java/lang/Integer", name := "stringSize", desc := "(I)I" } : MethodName) prog_25_method_13_code (4 : Nat) (some FieldType.int)) ∈ TB := tb_6 52 rfl rfl
theorem tw_6_53 : (Cond.methodLink "java/lang/AbstractStringBuilder" (248 : Nat) ({ cls := "java/lang/Integer", name := "getChars", desc := "(II[B)I" } : MethodName)) ∈ TB := tb_6 53 rfl rfl
theorem tw_6_54 : (Cond.static ({ cls := "java/lang/Integer", name := "getChars", desc := "(II[B)I" } : MethodName)) ∈ TB := tb_6 54 rfl rfl
theorem tw_6_55 : (Cond.code ({ cls := "java/lang/Integer", name := "getChars", desc := "(II[B)I" } : MethodName) prog_25_method_12_code (7 : Nat) (some FieldType.int)) ∈ TB := tb_6 55 rfl rfl
theorem tw_6_56 : (Cond.fieldLink "java/lang/Integer" (83 : Nat) "java/lang/Integer" "DigitOnes" "[B") ∈ TB := tb_6 56 rfl rfl
theorem tw_6_58 : (Cond.fieldLink "java/lang/Integer" (87 : Nat) "java/lang/Integer" "DigitTens" "[B") ∈ TB := tb_6 58 rfl rfl
theorem tw_6_60 : (Cond.methodLink "java/lang/AbstractStringBuilder" (251 : Nat) ({ cls := "java/lang/StringUTF16", name := "getChars", desc := "(III[B)I" } : MethodName)) ∈ TB := tb_6 60 rfl rfl
theorem tw_6_61 : (Cond.static ({ cls := "java/lang/StringUTF16", name := "getChars", desc := "(III[B)I" } : MethodName)) ∈ TB := tb_6 61 rfl rfl
theorem tw_6_62 : (Cond.code ({ cls := "java/lang/StringUTF16", name := "getChars", desc := "(III[B)I" } : MethodName) prog_33_method_77_code (5 : Nat) (some FieldType.int)) ∈ TB := tb_6 62 rfl rfl
theorem tw_6_63 : (Cond.methodLink "java/lang/StringUTF16" (393 : Nat) ({ cls := "java/lang/StringUTF16", name := "getChars", desc := "(II[B)I" } : MethodName)) ∈ TB := tb_6 63 rfl rfl
theorem tw_6_64 : (Cond.static ({ cls := "java/lang/StringUTF16", name := "getChars", desc := "(II[B)I" } : MethodName)) ∈ TB := tb_6 64 rfl rfl
theorem tw_6_65 : (Cond.code ({ cls := "java/lang/StringUTF16", name := "getChars", desc := "(II[B)I" } : MethodName) prog_33_method_89_code (7 : Nat) (some FieldType.int)) ∈ TB := tb_6 65 rfl rfl
theorem tw_6_66 : (Cond.fieldLink "java/lang/StringUTF16" (403 : Nat) "java/lang/Integer" "DigitOnes" "[B") ∈ TB := tb_6 66 rfl rfl
theorem tw_6_67 : (Cond.fieldLink "java/lang/StringUTF16" (407 : Nat) "java/lang/Integer" "DigitTens" "[B") ∈ TB := tb_6 67 rfl rfl
theorem tw_6_68 : (Cond.methodLink "java/lang/StringIndexOutOfBoundsException" (22 : Nat) ({ cls := "java/lang/StringBuilder", name := "toString", desc := "()Ljava/lang/String;" } : MethodName)) ∈ TB := tb_6 68 rfl rfl
theorem tw_6_69 : (Cond.instanceMethod ({ cls := "java/lang/StringBuilder", name := "toString", desc := "()Ljava/lang/String;" } : MethodName)) ∈ TB := tb_6 69 rfl rfl
theorem tw_6_70 : (Cond.selects "java/lang/StringBuilder" ({ cls := "java/lang/StringBuilder", name := "toString", desc := "()Ljava/lang/String;" } : MethodName) ({ cls := "java/lang/StringBuilder", name := "toString", desc := "()Ljava/lang/String;" } : MethodName)) ∈ TB := tb_6 70 rfl rfl
theorem tw_6_71 : (Cond.code ({ cls := "java/lang/StringBuilder", name := "toString", desc := "()Ljava/lang/String;" } : MethodName) prog_30_method_42_code (1 : Nat) (some (FieldType.object "java/lang/String"))) ∈ TB := tb_6 71 rfl rfl
theorem tw_6_72 : (Cond.classLink "java/lang/StringBuilder" (18 : Nat) "java/lang/String") ∈ TB := tb_6 72 rfl rfl
theorem tw_6_73 : (Cond.instantiable "java/lang/String" (4 : Nat)) ∈ TB := tb_6 73 rfl rfl
theorem tw_6_74 : (Cond.methodLink "java/lang/StringBuilder" (137 : Nat) ({ cls := "java/lang/String", name := "<init>", desc := "(Ljava/lang/StringBuilder;)V" } : MethodName)) ∈ TB := tb_6 74 rfl rfl
theorem tw_6_75 : (Cond.instanceMethod ({ cls := "java/lang/String", name := "<init>", desc := "(Ljava/lang/StringBuilder;)V" } : MethodName)) ∈ TB := tb_6 75 rfl rfl
theorem tw_6_76 : (Cond.code ({ cls := "java/lang/String", name := "<init>", desc := "(Ljava/lang/StringBuilder;)V" } : MethodName) prog_29_method_53_code (2 : Nat) (none : Option FieldType)) ∈ TB := tb_6 76 rfl rfl
theorem tw_6_77 : (Cond.methodLink "java/lang/String" (489 : Nat) ({ cls := "java/lang/String", name := "<init>", desc := "(Ljava/lang/AbstractStringBuilder;Ljava/lang/Void;)V" } : MethodName)) ∈ TB := tb_6 77 rfl rfl
theorem tw_6_78 : (Cond.instanceMethod ({ cls := "java/lang/String", name := "<init>", desc := "(Ljava/lang/AbstractStringBuilder;Ljava/lang/Void;)V" } : MethodName)) ∈ TB := tb_6 78 rfl rfl
theorem tw_6_79 : (Cond.code ({ cls := "java/lang/String", name := "<init>", desc := "(Ljava/lang/AbstractStringBuilder;Ljava/lang/Void;)V" } : MethodName) prog_29_method_150_code (5 : Nat) (none : Option FieldType)) ∈ TB := tb_6 79 rfl rfl
theorem tw_6_80 : (Cond.methodLink "java/lang/String" (1 : Nat) ({ cls := "java/lang/Object", name := "<init>", desc := "()V" } : MethodName)) ∈ TB := tb_6 80 rfl rfl
theorem tw_6_81 : (Cond.methodLink "java/lang/String" (552 : Nat) ({ cls := "java/lang/AbstractStringBuilder", name := "getValue", desc := "()[B" } : MethodName)) ∈ TB := tb_6 81 rfl rfl
theorem tw_6_82 : (Cond.instanceMethod ({ cls := "java/lang/AbstractStringBuilder", name := "getValue", desc := "()[B" } : MethodName)) ∈ TB := tb_6 82 rfl rfl
theorem tw_6_83 : (Cond.sameMethod "java/lang/AbstractStringBuilder" "java/lang/AbstractStringBuilder" "getValue" "()[B") ∈ TB := tb_6 83 rfl rfl
theorem tw_6_84 : (Cond.selects "java/lang/StringBuilder" ({ cls := "java/lang/AbstractStringBuilder", name := "getValue", desc := "()[B" } : MethodName) ({ cls := "java/lang/AbstractStringBuilder", name := "getValue", desc := "()[B" } : MethodName)) ∈ TB := tb_6 84 rfl rfl
theorem tw_6_85 : (Cond.code ({ cls := "java/lang/AbstractStringBuilder", name := "getValue", desc := "()[B" } : MethodName) prog_14_method_64_code (1 : Nat) (some (FieldType.array FieldType.byte))) ∈ TB := tb_6 85 rfl rfl
theorem tw_6_86 : (Cond.methodLink "java/lang/String" (549 : Nat) ({ cls := "java/lang/AbstractStringBuilder", name := "length", desc := "()I" } : MethodName)) ∈ TB := tb_6 86 rfl rfl
theorem tw_6_87 : (Cond.instanceMethod ({ cls := "java/lang/AbstractStringBuilder", name := "length", desc := "()I" } : MethodName)) ∈ TB := tb_6 87 rfl rfl
theorem tw_6_88 : (Cond.sameMethod "java/lang/AbstractStringBuilder" "java/lang/AbstractStringBuilder" "length" "()I") ∈ TB := tb_6 88 rfl rfl
theorem tw_6_89 : (Cond.selects "java/lang/StringBuilder" ({ cls := "java/lang/AbstractStringBuilder", name := "length", desc := "()I" } : MethodName) ({ cls := "java/lang/StringBuilder", name := "length", desc := "()I" } : MethodName)) ∈ TB := tb_6 89 rfl rfl
theorem tw_6_90 : (Cond.instanceMethod ({ cls := "java/lang/StringBuilder", name := "length", desc := "()I" } : MethodName)) ∈ TB := tb_6 90 rfl rfl
theorem tw_6_91 : (Cond.code ({ cls := "java/lang/StringBuilder", name := "length", desc := "()I" } : MethodName) prog_30_method_93_code (1 : Nat) (some FieldType.int)) ∈ TB := tb_6 91 rfl rfl
theorem tw_6_92 : (Cond.methodLink "java/lang/StringBuilder" (343 : Nat) ({ cls := "java/lang/AbstractStringBuilder", name := "length", desc := "()I" } : MethodName)) ∈ TB := tb_6 92 rfl rfl
theorem tw_6_93 : (Cond.code ({ cls := "java/lang/AbstractStringBuilder", name := "length", desc := "()I" } : MethodName) prog_14_method_6_code (1 : Nat) (some FieldType.int)) ∈ TB := tb_6 93 rfl rfl
theorem tw_6_94 : (Cond.methodLink "java/lang/String" (1047 : Nat) ({ cls := "java/lang/AbstractStringBuilder", name := "isLatin1", desc := "()Z" } : MethodName)) ∈ TB := tb_6 94 rfl rfl
theorem tw_6_95 : (Cond.methodLink "java/lang/String" (54 : Nat) ({ cls := "java/util/Arrays", name := "copyOfRange", desc := "([BII)[B" } : MethodName)) ∈ TB := tb_6 95 rfl rfl
theorem tw_6_96 : (Cond.static ({ cls := "java/util/Arrays", name := "copyOfRange", desc := "([BII)[B" } : MethodName)) ∈ TB := tb_6 96 rfl rfl
theorem tw_6_97 : (Cond.code ({ cls := "java/util/Arrays", name := "copyOfRange", desc := "([BII)[B" } : MethodName) prog_38_method_132_code (3 : Nat) (some (FieldType.array FieldType.byte))) ∈ TB := tb_6 97 rfl rfl
theorem tw_6_98 : (Cond.methodLink "java/util/Arrays" (339 : Nat) ({ cls := "java/util/Arrays", name := "copyOfRangeByte", desc := "([BII)[B" } : MethodName)) ∈ TB := tb_6 98 rfl rfl
theorem tw_6_99 : (Cond.static ({ cls := "java/util/Arrays", name := "copyOfRangeByte", desc := "([BII)[B" } : MethodName)) ∈ TB := tb_6 99 rfl rfl
theorem tw_6_100 : (Cond.code ({ cls := "java/util/Arrays", name := "copyOfRangeByte", desc := "([BII)[B" } : MethodName) prog_38_method_133_code (5 : Nat) (some (FieldType.array FieldType.byte))) ∈ TB := tb_6 100 rfl rfl
theorem tw_6_101 : (Cond.methodLink "java/util/Arrays" (343 : Nat) ({ cls := "java/util/Arrays", name := "checkLength", desc := "(II)V" } : MethodName)) ∈ TB := tb_6 101 rfl rfl
theorem tw_6_102 : (Cond.static ({ cls := "java/util/Arrays", name := "checkLength", desc := "(II)V" } : MethodName)) ∈ TB := tb_6 102 rfl rfl
theorem tw_6_103 : (Cond.code ({ cls := "java/util/Arrays", name := "checkLength", desc := "(II)V" } : MethodName) prog_38_method_131_code (2 : Nat) (none : Option FieldType)) ∈ TB := tb_6 103 rfl rfl
theorem tw_6_104 : (Cond.classLink "java/util/Arrays" (43 : Nat) "java/lang/IllegalArgumentException") ∈ TB := tb_6 104 rfl rfl
theorem tw_6_105 : (Cond.classLink "java/util/Arrays" (45 : Nat) "java/lang/StringBuilder") ∈ TB := tb_6 105 rfl rfl
theorem tw_6_106 : (Cond.methodLink "java/util/Arrays" (47 : Nat) ({ cls := "java/lang/StringBuilder", name := "<init>", desc := "()V" } : MethodName)) ∈ TB := tb_6 106 rfl rfl
theorem tw_6_107 : (Cond.methodLink "java/util/Arrays" (54 : Nat) ({ cls := "java/lang/StringBuilder", name := "append", desc := "(I)Ljava/lang/StringBuilder;" } : MethodName)) ∈ TB := tb_6 107 rfl rfl
theorem tw_6_109 : (Cond.methodLink "java/util/Arrays" (50 : Nat) ({ cls := "java/lang/StringBuilder", name := "append", desc := "(Ljava/lang/String;)Ljava/lang/StringBuilder;" } : MethodName)) ∈ TB := tb_6 109 rfl rfl
theorem tw_6_110 : (Cond.methodLink "java/util/Arrays" (61 : Nat) ({ cls := "java/lang/StringBuilder", name := "toString", desc := "()Ljava/lang/String;" } : MethodName)) ∈ TB := tb_6 110 rfl rfl
theorem tw_6_111 : (Cond.methodLink "java/util/Arrays" (65 : Nat) ({ cls := "java/lang/IllegalArgumentException", name := "<init>", desc := "(Ljava/lang/String;)V" } : MethodName)) ∈ TB := tb_6 111 rfl rfl
theorem tw_6_112 : (Cond.methodLink "java/lang/String" (1051 : Nat) ({ cls := "java/lang/StringUTF16", name := "compress", desc := "([BII)[B" } : MethodName)) ∈ TB := tb_6 112 rfl rfl
theorem tw_6_113 : (Cond.static ({ cls := "java/lang/StringUTF16", name := "compress", desc := "([BII)[B" } : MethodName)) ∈ TB := tb_6 113 rfl rfl
theorem tw_6_114 : (Cond.code ({ cls := "java/lang/StringUTF16", name := "compress", desc := "([BII)[B" } : MethodName) prog_33_method_17_code (6 : Nat) (some (FieldType.array FieldType.byte))) ∈ TB := tb_6 114 rfl rfl
theorem tw_6_115 : (Cond.methodLink "java/lang/StringUTF16" (123 : Nat) ({ cls := "java/lang/StringUTF16", name := "compress", desc := "([BI[BII)I" } : MethodName)) ∈ TB := tb_6 115 rfl rfl
theorem tw_6_116 : (Cond.static ({ cls := "java/lang/StringUTF16", name := "compress", desc := "([BI[BII)I" } : MethodName)) ∈ TB := tb_6 116 rfl rfl
theorem tw_6_117 : (Cond.code ({ cls := "java/lang/StringUTF16", name := "compress", desc := "([BI[BII)I" } : MethodName) prog_33_method_22_code (7 : Nat) (some FieldType.int)) ∈ TB := tb_6 117 rfl rfl
theorem tw_6_118 : (Cond.methodLink "java/lang/StringUTF16" (71 : Nat) ({ cls := "java/lang/StringUTF16", name := "getChar", desc := "([BI)C" } : MethodName)) ∈ TB := tb_6 118 rfl rfl
theorem tw_6_119 : (Cond.static ({ cls := "java/lang/StringUTF16", name := "getChar", desc := "([BI)C" } : MethodName)) ∈ TB := tb_6 119 rfl rfl
theorem tw_6_120 : (Cond.code ({ cls := "java/lang/StringUTF16", name := "getChar", desc := "([BI)C" } : MethodName) prog_33_method_5_code (2 : Nat) (some FieldType.char)) ∈ TB := tb_6 120 rfl rfl
theorem tw_6_121 : (Cond.methodLink "java/lang/StringUTF16" (126 : Nat) ({ cls := "java/util/Arrays", name := "copyOfRange", desc := "([BII)[B" } : MethodName)) ∈ TB := tb_6 121 rfl rfl
theorem tw_6_122 : (Cond.methodLink "java/lang/String" (47 : Nat) ({ cls := "java/lang/StringUTF16", name := "coderFromArrayLen", desc := "([BI)B" } : MethodName)) ∈ TB := tb_6 122 rfl rfl
theorem tw_6_123 : (Cond.static ({ cls := "java/lang/StringUTF16", name := "coderFromArrayLen", desc := "([BI)B" } : MethodName)) ∈ TB := tb_6 123 rfl rfl
theorem tw_6_124 : (Cond.code ({ cls := "java/lang/StringUTF16", name := "coderFromArrayLen", desc := "([BI)B" } : MethodName) prog_33_method_15_code (2 : Nat) (some FieldType.byte)) ∈ TB := tb_6 124 rfl rfl
theorem tw_6_125 : (Cond.fieldLink "java/lang/String" (9 : Nat) "java/lang/String" "value" "[B") ∈ TB := tb_6 125 rfl rfl
theorem tw_6_126 : (Cond.fieldLink "java/lang/String" (15 : Nat) "java/lang/String" "coder" "B") ∈ TB := tb_6 126 rfl rfl
theorem tw_6_127 : (Cond.laysFinal "java/lang/String" "java/lang/String" "value" "[B") ∈ TB := tb_6 127 rfl rfl
theorem tw_6_128 : (Cond.soleField "java/lang/String" "value") ∈ TB := tb_6 128 rfl rfl
theorem tw_6_129 : (Cond.laysFinal "java/lang/String" "java/lang/String" "coder" "B") ∈ TB := tb_6 129 rfl rfl
theorem tw_6_130 : (Cond.soleField "java/lang/String" "coder") ∈ TB := tb_6 130 rfl rfl
theorem tw_6_131 : (Cond.lays "java/lang/String" "java/lang/String" "hash" "I") ∈ TB := tb_6 131 rfl rfl
theorem tw_6_132 : (Cond.soleField "java/lang/String" "hash") ∈ TB := tb_6 132 rfl rfl
theorem tw_6_133 : (Cond.lays "java/lang/String" "java/lang/String" "hashIsZero" "Z") ∈ TB := tb_6 133 rfl rfl
theorem tw_6_134 : (Cond.soleField "java/lang/String" "hashIsZero") ∈ TB := tb_6 134 rfl rfl
theorem tw_6_135 : (Cond.superclass "java/lang/String" "java/lang/Object") ∈ TB := tb_6 135 rfl rfl
theorem tw_6_136 : (Cond.methodLink "java/lang/StringIndexOutOfBoundsException" (7 : Nat) ({ cls := "java/lang/IndexOutOfBoundsException", name := "<init>", desc := "(Ljava/lang/String;)V" } : MethodName)) ∈ TB := tb_6 136 rfl rfl
theorem tw_6_137 : (Cond.lays "java/lang/StringIndexOutOfBoundsException" "java/lang/Throwable" "backtrace" "Ljava/lang/Object;") ∈ TB := tb_6 137 rfl rfl
theorem tw_6_138 : (Cond.lays "java/lang/StringIndexOutOfBoundsException" "java/lang/Throwable" "detailMessage" "Ljava/lang/String;") ∈ TB := tb_6 138 rfl rfl
theorem tw_6_139 : (Cond.lays "java/lang/StringIndexOutOfBoundsException" "java/lang/Throwable" "cause" "Ljava/lang/Throwable;") ∈ TB := tb_6 139 rfl rfl
theorem tw_6_140 : (Cond.lays "java/lang/StringIndexOutOfBoundsException" "java/lang/Throwable" "stackTrace" "[Ljava/lang/StackTraceElement;") ∈ TB := tb_6 140 rfl rfl
theorem tw_6_141 : (Cond.lays "java/lang/StringIndexOutOfBoundsException" "java/lang/Throwable" "depth" "I") ∈ TB := tb_6 141 rfl rfl
theorem tw_6_142 : (Cond.lays "java/lang/StringIndexOutOfBoundsException" "java/lang/Throwable" "suppressedExceptions" "Ljava/util/List;") ∈ TB := tb_6 142 rfl rfl
theorem tw_6_143 : (Cond.superclass "java/lang/StringIndexOutOfBoundsException" "java/lang/IndexOutOfBoundsException") ∈ TB := tb_6 143 rfl rfl
theorem tw_6_144 : (Cond.methodLink "java/lang/AbstractStringBuilder" (133 : Nat) ({ cls := "java/lang/StringLatin1", name := "fillNull", desc := "([BII)V" } : MethodName)) ∈ TB := tb_6 144 rfl rfl
theorem tw_6_145 : (Cond.static ({ cls := "java/lang/StringLatin1", name := "fillNull", desc := "([BII)V" } : MethodName)) ∈ TB := tb_6 145 rfl rfl
theorem tw_6_146 : (Cond.code ({ cls := "java/lang/StringLatin1", name := "fillNull", desc := "([BII)V" } : MethodName) prog_32_method_48_code (3 : Nat) (none : Option FieldType)) ∈ TB := tb_6 146 rfl rfl
theorem tw_6_147 : (Cond.methodLink "java/lang/StringLatin1" (236 : Nat) ({ cls := "java/util/Arrays", name := "fill", desc := "([BIIB)V" } : MethodName)) ∈ TB := tb_6 147 rfl rfl
theorem tw_6_148 : (Cond.static ({ cls := "java/util/Arrays", name := "fill", desc := "([BIIB)V" } : MethodName)) ∈ TB := tb_6 148 rfl rfl
theorem tw_6_149 : (Cond.code ({ cls := "java/util/Arrays", name := "fill", desc := "([BIIB)V" } : MethodName) prog_38_method_110_code (5 : Nat) (none : Option FieldType)) ∈ TB := tb_6 149 rfl rfl
theorem tw_6_150 : (Cond.methodLink "java/util/Arrays" (13 : Nat) ({ cls := "java/util/Arrays", name := "rangeCheck", desc := "(III)V" } : MethodName)) ∈ TB := tb_6 150 rfl rfl
theorem tw_6_151 : (Cond.static ({ cls := "java/util/Arrays", name := "rangeCheck", desc := "(III)V" } : MethodName)) ∈ TB := tb_6 151 rfl rfl
theorem tw_6_152 : (Cond.code ({ cls := "java/util/Arrays", name := "rangeCheck", desc := "(III)V" } : MethodName) prog_38_method_30_code (3 : Nat) (none : Option FieldType)) ∈ TB := tb_6 152 rfl rfl
theorem tw_6_156 : (Cond.classLink "java/util/Arrays" (68 : Nat) "java/lang/ArrayIndexOutOfBoundsException") ∈ TB := tb_6 156 rfl rfl
theorem tw_6_157 : (Cond.instantiable "java/lang/ArrayIndexOutOfBoundsException" (6 : Nat)) ∈ TB := tb_6 157 rfl rfl
theorem tw_6_158 : (Cond.castable "java/lang/ArrayIndexOutOfBoundsException" "java/lang/ArrayIndexOutOfBoundsException") ∈ NB := nb_6 158 rfl rfl
theorem tw_6_159 : (Cond.declares ({ cls := "java/lang/IndexOutOfBoundsException", name := "<init>", desc := "()V" } : MethodName)) ∈ NB := nb_6 159 rfl rfl
theorem tw_6_160 : (Cond.declares ({ cls := "java/lang/IndexOutOfBoundsException", name := "<init>", desc := "(Ljava/lang/String;)V" } : MethodName)) ∈ NB := nb_6 160 rfl rfl
theorem tw_6_161 : (Cond.selects "java/lang/ArrayIndexOutOfBoundsException" ({ cls := "java/lang/Throwable", name := "fillInStackTrace", desc := "(I)Ljava/lang/Throwable;" } : MethodName) ({ cls := "java/lang/Throwable", name := "fillInStackTrace", desc := "(I)Ljava/lang/Throwable;" } : MethodName)) ∈ TB := tb_6 161 rfl rfl
theorem tw_6_162 : (Cond.lays "java/lang/ArrayIndexOutOfBoundsException" "java/lang/Throwable" "cause" "Ljava/lang/Throwable;") ∈ TB := tb_6 162 rfl rfl
theorem tw_6_163 : (Cond.lays "java/lang/ArrayIndexOutOfBoundsException" "java/lang/Throwable" "stackTrace" "[Ljava/lang/StackTraceElement;") ∈ TB := tb_6 163 rfl rfl
theorem tw_6_164 : (Cond.lays "java/lang/ArrayIndexOutOfBoundsException" "java/lang/Throwable" "suppressedExceptions" "Ljava/util/List;") ∈ TB := tb_6 164 rfl rfl
theorem tw_6_165 : (Cond.lays "java/lang/ArrayIndexOutOfBoundsException" "java/lang/Throwable" "detailMessage" "Ljava/lang/String;") ∈ TB := tb_6 165 rfl rfl
theorem tw_6_166 : (Cond.lays "java/lang/ArrayIndexOutOfBoundsException" "java/lang/Throwable" "backtrace" "Ljava/lang/Object;") ∈ TB := tb_6 166 rfl rfl
theorem tw_6_167 : (Cond.methodLink "java/util/Arrays" (70 : Nat) ({ cls := "java/lang/ArrayIndexOutOfBoundsException", name := "<init>", desc := "(I)V" } : MethodName)) ∈ TB := tb_6 167 rfl rfl
theorem tw_6_168 : (Cond.instanceMethod ({ cls := "java/lang/ArrayIndexOutOfBoundsException", name := "<init>", desc := "(I)V" } : MethodName)) ∈ TB := tb_6 168 rfl rfl
theorem tw_6_169 : (Cond.code ({ cls := "java/lang/ArrayIndexOutOfBoundsException", name := "<init>", desc := "(I)V" } : MethodName) prog_16_method_3_code (2 : Nat) (none : Option FieldType)) ∈ TB := tb_6 169 rfl rfl
theorem tw_6_170 : (Cond.classLink "java/lang/ArrayIndexOutOfBoundsException" (10 : Nat) "java/lang/StringBuilder") ∈ TB := tb_6 170 rfl rfl
theorem tw_6_171 : (Cond.methodLink "java/lang/ArrayIndexOutOfBoundsException" (12 : Nat) ({ cls := "java/lang/StringBuilder", name := "<init>", desc := "()V" } : MethodName)) ∈ TB := tb_6 171 rfl rfl
theorem tw_6_173 : (Cond.methodLink "java/lang/ArrayIndexOutOfBoundsException" (15 : Nat) ({ cls := "java/lang/StringBuilder", name := "append", desc := "(Ljava/lang/String;)Ljava/lang/StringBuilder;" } : MethodName)) ∈ TB := tb_6 173 rfl rfl
theorem tw_6_174 : (Cond.methodLink "java/lang/ArrayIndexOutOfBoundsException" (19 : Nat) ({ cls := "java/lang/StringBuilder", name := "append", desc := "(I)Ljava/lang/StringBuilder;" } : MethodName)) ∈ TB := tb_6 174 rfl rfl
theorem tw_6_175 : (Cond.methodLink "java/lang/ArrayIndexOutOfBoundsException" (22 : Nat) ({ cls := "java/lang/StringBuilder", name := "toString", desc := "()Ljava/lang/String;" } : MethodName)) ∈ TB := tb_6 175 rfl rfl
theorem tw_6_176 : (Cond.methodLink "java/lang/ArrayIndexOutOfBoundsException" (7 : Nat) ({ cls := "java/lang/IndexOutOfBoundsException", name := "<init>", desc := "(Ljava/lang/String;)V" } : MethodName)) ∈ TB := tb_6 176 rfl rfl
theorem tw_6_177 : (Cond.lays "java/lang/ArrayIndexOutOfBoundsException" "java/lang/Throwable" "depth" "I") ∈ TB := tb_6 177 rfl rfl
theorem tw_6_178 : (Cond.superclass "java/lang/ArrayIndexOutOfBoundsException" "java/lang/IndexOutOfBoundsException") ∈ TB := tb_6 178 rfl rfl
theorem tw_6_179 : (Cond.methodLink "java/lang/AbstractStringBuilder" (137 : Nat) ({ cls := "java/lang/StringUTF16", name := "fillNull", desc := "([BII)V" } : MethodName)) ∈ TB := tb_6 179 rfl rfl
theorem tw_6_180 : (Cond.static ({ cls := "java/lang/StringUTF16", name := "fillNull", desc := "([BII)V" } : MethodName)) ∈ TB := tb_6 180 rfl rfl
theorem tw_6_181 : (Cond.code ({ cls := "java/lang/StringUTF16", name := "fillNull", desc := "([BII)V" } : MethodName) prog_33_method_70_code (3 : Nat) (none : Option FieldType)) ∈ TB := tb_6 181 rfl rfl
theorem tw_6_182 : (Cond.methodLink "java/lang/StringUTF16" (380 : Nat) ({ cls := "java/util/Arrays", name := "fill", desc := "([BIIB)V" } : MethodName)) ∈ TB := tb_6 182 rfl rfl
theorem tw_6_183 : (Cond.methodLink "LetterRepository" (294 : Nat) ({ cls := "java/lang/StringBuilder", name := "append", desc := "(C)Ljava/lang/StringBuilder;" } : MethodName)) ∈ TB := tb_6 183 rfl rfl
theorem tw_6_184 : (Cond.instanceMethod ({ cls := "java/lang/StringBuilder", name := "append", desc := "(C)Ljava/lang/StringBuilder;" } : MethodName)) ∈ TB := tb_6 184 rfl rfl
theorem tw_6_185 : (Cond.selects "java/lang/StringBuilder" ({ cls := "java/lang/StringBuilder", name := "append", desc := "(C)Ljava/lang/StringBuilder;" } : MethodName) ({ cls := "java/lang/StringBuilder", name := "append", desc := "(C)Ljava/lang/StringBuilder;" } : MethodName)) ∈ TB := tb_6 185 rfl rfl
theorem tw_6_186 : (Cond.code ({ cls := "java/lang/StringBuilder", name := "append", desc := "(C)Ljava/lang/StringBuilder;" } : MethodName) prog_30_method_14_code (2 : Nat) (some (FieldType.object "java/lang/StringBuilder"))) ∈ TB := tb_6 186 rfl rfl
theorem tw_6_187 : (Cond.methodLink "java/lang/StringBuilder" (50 : Nat) ({ cls := "java/lang/AbstractStringBuilder", name := "append", desc := "(C)Ljava/lang/AbstractStringBuilder;" } : MethodName)) ∈ TB := tb_6 187 rfl rfl
theorem tw_6_188 : (Cond.instanceMethod ({ cls := "java/lang/AbstractStringBuilder", name := "append", desc := "(C)Ljava/lang/AbstractStringBuilder;" } : MethodName)) ∈ TB := tb_6 188 rfl rfl
theorem tw_6_189 : (Cond.code ({ cls := "java/lang/AbstractStringBuilder", name := "append", desc := "(C)Ljava/lang/AbstractStringBuilder;" } : MethodName) prog_14_method_31_code (2 : Nat) (some (FieldType.object "java/lang/AbstractStringBuilder"))) ∈ TB := tb_6 189 rfl rfl
theorem tw_6_190 : (Cond.methodLink "java/lang/AbstractStringBuilder" (191 : Nat) ({ cls := "java/lang/StringLatin1", name := "canEncode", desc := "(C)Z" } : MethodName)) ∈ TB := tb_6 190 rfl rfl
theorem tw_6_191 : (Cond.static ({ cls := "java/lang/StringLatin1", name := "canEncode", desc := "(C)Z" } : MethodName)) ∈ TB := tb_6 191 rfl rfl
theorem tw_6_192 : (Cond.code ({ cls := "java/lang/StringLatin1", name := "canEncode", desc := "(C)Z" } : MethodName) prog_32_method_3_code (1 : Nat) (some FieldType.boolean)) ∈ TB := tb_6 192 rfl rfl
theorem tw_6_193 : (Cond.methodLink "java/lang/AbstractStringBuilder" (197 : Nat) ({ cls := "java/lang/StringUTF16", name := "putCharSB", desc := "([BII)V" } : MethodName)) ∈ TB := tb_6 193 rfl rfl
theorem tw_6_194 : (Cond.static ({ cls := "java/lang/StringUTF16", name := "putCharSB", desc := "([BII)V" } : MethodName)) ∈ TB := tb_6 194 rfl rfl
theorem tw_6_195 : (Cond.code ({ cls := "java/lang/StringUTF16", name := "putCharSB", desc := "([BII)V" } : MethodName) prog_33_method_71_code (3 : Nat) (none : Option FieldType)) ∈ TB := tb_6 195 rfl rfl
theorem tw_6_196 : (Cond.methodLink "java/lang/StringUTF16" (67 : Nat) ({ cls := "java/lang/StringUTF16", name := "checkIndex", desc := "(I[B)V" } : MethodName)) ∈ TB := tb_6 196 rfl rfl
theorem tw_6_197 : (Cond.static ({ cls := "java/lang/StringUTF16", name := "checkIndex", desc := "(I[B)V" } : MethodName)) ∈ TB := tb_6 197 rfl rfl
theorem tw_6_198 : (Cond.code ({ cls := "java/lang/StringUTF16", name := "checkIndex", desc := "(I[B)V" } : MethodName) prog_33_method_91_code (2 : Nat) (none : Option FieldType)) ∈ TB := tb_6 198 rfl rfl
theorem tw_6_199 : (Cond.methodLink "java/lang/StringUTF16" (414 : Nat) ({ cls := "java/lang/String", name := "checkIndex", desc := "(II)V" } : MethodName)) ∈ TB := tb_6 199 rfl rfl
theorem tw_6_200 : (Cond.static ({ cls := "java/lang/String", name := "checkIndex", desc := "(II)V" } : MethodName)) ∈ TB := tb_6 200 rfl rfl
theorem tw_6_201 : (Cond.code ({ cls := "java/lang/String", name := "checkIndex", desc := "(II)V" } : MethodName) prog_29_method_155_code (2 : Nat) (none : Option FieldType)) ∈ TB := tb_6 201 rfl rfl
theorem tw_6_202 : (Cond.methodLink "java/lang/String" (1059 : Nat) ({ cls := "jdk/internal/util/Preconditions", name := "checkIndex", desc := "(IILjava/util/function/BiFunction;)I" } : MethodName)) ∈ TB := tb_6 202 rfl rfl
theorem tw_6_203 : (Cond.static ({ cls := "jdk/internal/util/Preconditions", name := "checkIndex", desc := "(IILjava/util/function/BiFunction;)I" } : MethodName)) ∈ TB := tb_6 203 rfl rfl
theorem tw_6_204 : (Cond.code ({ cls := "jdk/internal/util/Preconditions", name := "checkIndex", desc := "(IILjava/util/function/BiFunction;)I" } : MethodName) prog_41_method_11_code (3 : Nat) (some FieldType.int)) ∈ TB := tb_6 204 rfl rfl
theorem tw_6_205 : (Cond.methodLink "LetterRepository" (298 : Nat) ({ cls := "java/lang/StringBuilder", name := "append", desc := "(I)Ljava/lang/StringBuilder;" } : MethodName)) ∈ TB := tb_6 205 rfl rfl
theorem tw_6_207 : (Cond.methodLink "LetterRepository" (303 : Nat) ({ cls := "java/lang/StringBuilder", name := "append", desc := "(Ljava/lang/String;)Ljava/lang/StringBuilder;" } : MethodName)) ∈ TB := tb_6 207 rfl rfl
theorem tw_6_209 : (Cond.methodLink "LetterRepository" (308 : Nat) ({ cls := "LetterRepository", name := "appendParent", desc := "(Ljava/lang/String;I)V" } : MethodName)) ∈ TB := tb_6 209 rfl rfl
theorem tw_6_211 : (Cond.instanceMethod ({ cls := "LetterRepository", name := "appendParent", desc := "(Ljava/lang/String;I)V" } : MethodName)) ∈ TB := tb_6 211 rfl rfl
theorem tw_6_212 : (Cond.code ({ cls := "LetterRepository", name := "appendParent", desc := "(Ljava/lang/String;I)V" } : MethodName) prog_1_method_51_code (3 : Nat) (none : Option FieldType)) ∈ TB := tb_6 212 rfl rfl
theorem tw_6_215 : (Cond.methodLink "LetterRepository" (316 : Nat) ({ cls := "java/lang/StringBuilder", name := "length", desc := "()I" } : MethodName)) ∈ TB := tb_6 215 rfl rfl
theorem tw_6_216 : (Cond.methodLink "LetterRepositoryLaw" (350 : Nat) ({ cls := "LetterRepositoryLaw", name := "formatBranch", desc := "(LLetterRepository;I[J)I" } : MethodName)) ∈ TB := tb_6 216 rfl rfl
theorem tw_6_217 : (Cond.static ({ cls := "LetterRepositoryLaw", name := "formatBranch", desc := "(LLetterRepository;I[J)I" } : MethodName)) ∈ TB := tb_6 217 rfl rfl
theorem tw_6_218 : (Cond.codeWith ({ cls := "LetterRepositoryLaw", name := "formatBranch", desc := "(LLetterRepository;I[J)I" } : MethodName) method_42_code (4 : Nat) (some FieldType.int) [((0 : Nat), (9 : Nat), (12 : Nat), (13 : Nat))]) ∈ TB := tb_6 218 rfl rfl
theorem tw_6_219 : (Cond.methodLink "LetterRepositoryLaw" (146 : Nat) ({ cls := "LetterRepository", name := "formatBranch", desc := "(I)I" } : MethodName)) ∈ TB := tb_6 219 rfl rfl
theorem tw_6_220 : (Cond.instanceMethod ({ cls := "LetterRepository", name := "formatBranch", desc := "(I)I" } : MethodName)) ∈ TB := tb_6 220 rfl rfl
theorem tw_6_221 : (Cond.selects "LetterRepository" ({ cls := "LetterRepository", name := "formatBranch", desc := "(I)I" } : MethodName) ({ cls := "LetterRepository", name := "formatBranch", desc := "(I)I" } : MethodName)) ∈ TB := tb_6 221 rfl rfl
theorem tw_6_222 : (Cond.code ({ cls := "LetterRepository", name := "formatBranch", desc := "(I)I" } : MethodName) prog_1_method_52_code (4 : Nat) (some FieldType.int)) ∈ TB := tb_6 222 rfl rfl
theorem tw_6_223 : (Cond.methodLink "LetterRepositoryLaw" (353 : Nat) ({ cls := "LetterRepositoryLaw", name := "formatMerge", desc := "(LLetterRepository;II[J)I" } : MethodName)) ∈ TB := tb_6 223 rfl rfl
theorem tw_6_224 : (Cond.static ({ cls := "LetterRepositoryLaw", name := "formatMerge", desc := "(LLetterRepository;II[J)I" } : MethodName)) ∈ TB := tb_6 224 rfl rfl
theorem tw_6_225 : (Cond.codeWith ({ cls := "LetterRepositoryLaw", name := "formatMerge", desc := "(LLetterRepository;II[J)I" } : MethodName) method_43_code (5 : Nat) (some FieldType.int) [((0 : Nat), (10 : Nat), (13 : Nat), (13 : Nat)), ((0 : Nat), (10 : Nat), (17 : Nat), (15 : Nat))]) ∈ TB := tb_6 225 rfl rfl
theorem tw_6_226 : (Cond.methodLink "LetterRepositoryLaw" (149 : Nat) ({ cls := "LetterRepository", name := "formatMerge", desc := "(II)I" } : MethodName)) ∈ TB := tb_6 226 rfl rfl
theorem tw_6_227 : (Cond.instanceMethod ({ cls := "LetterRepository", name := "formatMerge", desc := "(II)I" } : MethodName)) ∈ TB := tb_6 227 rfl rfl
theorem tw_6_228 : (Cond.selects "LetterRepository" ({ cls := "LetterRepository", name := "formatMerge", desc := "(II)I" } : MethodName) ({ cls := "LetterRepository", name := "formatMerge", desc := "(II)I" } : MethodName)) ∈ TB := tb_6 228 rfl rfl
theorem tw_6_229 : (Cond.code ({ cls := "LetterRepository", name := "formatMerge", desc := "(II)I" } : MethodName) prog_1_method_53_code (4 : Nat) (some FieldType.int)) ∈ TB := tb_6 229 rfl rfl
theorem tw_6_230 : (Cond.methodLink "LetterRepositoryLaw" (356 : Nat) ({ cls := "LetterRepositoryLaw", name := "lineChar", desc := "(LLetterRepository;I[J)I" } : MethodName)) ∈ TB := tb_6 230 rfl rfl
theorem tw_6_231 : (Cond.static ({ cls := "LetterRepositoryLaw", name := "lineChar", desc := "(LLetterRepository;I[J)I" } : MethodName)) ∈ TB := tb_6 231 rfl rfl
theorem tw_6_232 : (Cond.codeWith ({ cls := "LetterRepositoryLaw", name := "lineChar", desc := "(LLetterRepository;I[J)I" } : MethodName) method_44_code (4 : Nat) (some FieldType.int) [((0 : Nat), (9 : Nat), (12 : Nat), (13 : Nat))]) ∈ TB := tb_6 232 rfl rfl
theorem tw_6_233 : (Cond.methodLink "LetterRepositoryLaw" (152 : Nat) ({ cls := "LetterRepository", name := "lineChar", desc := "(I)C" } : MethodName)) ∈ TB := tb_6 233 rfl rfl
theorem tw_6_234 : (Cond.instanceMethod ({ cls := "LetterRepository", name := "lineChar", desc := "(I)C" } : MethodName)) ∈ TB := tb_6 234 rfl rfl
theorem tw_6_235 : (Cond.selects "LetterRepository" ({ cls := "LetterRepository", name := "lineChar", desc := "(I)C" } : MethodName) ({ cls := "LetterRepository", name := "lineChar", desc := "(I)C" } : MethodName)) ∈ TB := tb_6 235 rfl rfl
theorem tw_6_236 : (Cond.code ({ cls := "LetterRepository", name := "lineChar", desc := "(I)C" } : MethodName) prog_1_method_54_code (2 : Nat) (some FieldType.char)) ∈ TB := tb_6 236 rfl rfl
theorem tw_6_238 : (Cond.methodLink "LetterRepository" (324 : Nat) ({ cls := "java/lang/StringBuilder", name := "charAt", desc := "(I)C" } : MethodName)) ∈ TB := tb_6 238 rfl rfl
theorem tw_6_239 : (Cond.instanceMethod ({ cls := "java/lang/StringBuilder", name := "charAt", desc := "(I)C" } : MethodName)) ∈ TB := tb_6 239 rfl rfl
theorem tw_7_0 : (Cond.selects "java/lang/StringBuilder" ({ cls := "java/lang/StringBuilder", name := "charAt", desc := "(I)C" } : MethodName) ({ cls := "java/lang/StringBuilder", name := "charAt", desc := "(I)C" } : MethodName)) ∈ TB := tb_7 0 rfl rfl
theorem tw_7_1 : (Cond.code ({ cls := "java/lang/StringBuilder", name := "charAt", desc := "(I)C" } : MethodName) prog_30_method_88_code (2 : Nat) (some FieldType.char)) ∈ TB := tb_7 1 rfl rfl
theorem tw_7_2 : (Cond.methodLink "java/lang/StringBuilder" (329 : Nat) ({ cls := "java/lang/AbstractStringBuilder", name := "charAt", desc := "(I)C" } : MethodName)) ∈ TB := tb_7 2 rfl rfl
theorem tw_7_3 : (Cond.instanceMethod ({ cls := "java/lang/AbstractStringBuilder", name := "charAt", desc := "(I)C" } : MethodName)) ∈ TB := tb_7 3 rfl rfl
theorem tw_7_4 : (Cond.code ({ cls := "java/lang/AbstractStringBuilder", name := "charAt", desc := "(I)C" } : MethodName) prog_14_method_14_code (5 : Nat) (some FieldType.char)) ∈ TB := tb_7 4 rfl rfl
theorem tw_7_5 : (Cond.methodLink "java/lang/AbstractStringBuilder" (138 : Nat) ({ cls := "java/lang/Math", name := "min", desc := "(II)I" } : MethodName)) ∈ TB := tb_7 5 rfl rfl
theorem tw_7_6 : (Cond.methodLink "java/lang/AbstractStringBuilder" (144 : Nat) ({ cls := "java/lang/String", name := "checkIndex", desc := "(II)V" } : MethodName)) ∈ TB := tb_7 6 rfl rfl
theorem tw_7_7 : (Cond.methodLink "java/lang/AbstractStringBuilder" (148 : Nat) ({ cls := "java/lang/StringUTF16", name := "getChar", desc := "([BI)C" } : MethodName)) ∈ TB := tb_7 7 rfl rfl
theorem tw_7_8 : (Cond.methodLink "LetterRepositoryLaw" (359 : Nat) ({ cls := "LetterRepositoryLaw", name := "append", desc := "(LLetterRepository;C[J)I" } : MethodName)) ∈ TB := tb_7 8 rfl rfl
theorem tw_7_9 : (Cond.static ({ cls := "LetterRepositoryLaw", name := "append", desc := "(LLetterRepository;C[J)I" } : MethodName)) ∈ TB := tb_7 9 rfl rfl
theorem tw_7_10 : (Cond.codeWith ({ cls := "LetterRepositoryLaw", name := "append", desc := "(LLetterRepository;C[J)I" } : MethodName) method_45_code (4 : Nat) (some FieldType.int) [((0 : Nat), (9 : Nat), (12 : Nat), (15 : Nat)), ((0 : Nat), (9 : Nat), (15 : Nat), (25 : Nat))]) ∈ TB := tb_7 10 rfl rfl
theorem tw_7_11 : (Cond.methodLink "LetterRepositoryLaw" (155 : Nat) ({ cls := "LetterRepository", name := "append", desc := "(C)I" } : MethodName)) ∈ TB := tb_7 11 rfl rfl
theorem tw_7_12 : (Cond.instanceMethod ({ cls := "LetterRepository", name := "append", desc := "(C)I" } : MethodName)) ∈ TB := tb_7 12 rfl rfl
theorem tw_7_13 : (Cond.selects "LetterRepository" ({ cls := "LetterRepository", name := "append", desc := "(C)I" } : MethodName) ({ cls := "LetterRepository", name := "append", desc := "(C)I" } : MethodName)) ∈ TB := tb_7 13 rfl rfl
theorem tw_7_14 : (Cond.code ({ cls := "LetterRepository", name := "append", desc := "(C)I" } : MethodName) prog_1_method_55_code (2 : Nat) (some FieldType.int)) ∈ TB := tb_7 14 rfl rfl
theorem tw_7_17 : (Cond.methodLink "LetterRepositoryLaw" (362 : Nat) ({ cls := "LetterRepositoryLaw", name := "run", desc := "(LLetterRepository;[J)I" } : MethodName)) ∈ TB := tb_7 17 rfl rfl
theorem tw_7_18 : (Cond.static ({ cls := "LetterRepositoryLaw", name := "run", desc := "(LLetterRepository;[J)I" } : MethodName)) ∈ TB := tb_7 18 rfl rfl
theorem tw_7_19 : (Cond.codeWith ({ cls := "LetterRepositoryLaw", name := "run", desc := "(LLetterRepository;[J)I" } : MethodName) method_46_code (3 : Nat) (some FieldType.int) [((0 : Nat), (8 : Nat), (11 : Nat), (15 : Nat)), ((0 : Nat), (8 : Nat), (14 : Nat), (25 : Nat))]) ∈ TB := tb_7 19 rfl rfl
theorem tw_7_20 : (Cond.methodLink "LetterRepositoryLaw" (158 : Nat) ({ cls := "LetterRepository", name := "run", desc := "()I" } : MethodName)) ∈ TB := tb_7 20 rfl rfl
theorem tw_7_21 : (Cond.instanceMethod ({ cls := "LetterRepository", name := "run", desc := "()I" } : MethodName)) ∈ TB := tb_7 21 rfl rfl
theorem tw_7_22 : (Cond.selects "LetterRepository" ({ cls := "LetterRepository", name := "run", desc := "()I" } : MethodName) ({ cls := "LetterRepository", name := "run", desc := "()I" } : MethodName)) ∈ TB := tb_7 22 rfl rfl
theorem tw_7_23 : (Cond.code ({ cls := "LetterRepository", name := "run", desc := "()I" } : MethodName) prog_1_method_56_code (3 : Nat) (some FieldType.int)) ∈ TB := tb_7 23 rfl rfl
theorem tw_7_24 : (Cond.methodLink "LetterRepository" (335 : Nat) ({ cls := "LetterRepository$Program", name := "parse", desc := "(Ljava/lang/StringBuilder;)V" } : MethodName)) ∈ TB := tb_7 24 rfl rfl
theorem tw_7_25 : (Cond.instanceMethod ({ cls := "LetterRepository$Program", name := "parse", desc := "(Ljava/lang/StringBuilder;)V" } : MethodName)) ∈ TB := tb_7 25 rfl rfl
theorem tw_7_26 : (Cond.selects "LetterRepository$Program" ({ cls := "LetterRepository$Program", name := "parse", desc := "(Ljava/lang/StringBuilder;)V" } : MethodName) ({ cls := "LetterRepository$Program", name := "parse", desc := "(Ljava/lang/StringBuilder;)V" } : MethodName)) ∈ TB := tb_7 26 rfl rfl
theorem tw_7_27 : (Cond.code ({ cls := "LetterRepository$Program", name := "parse", desc := "(Ljava/lang/StringBuilder;)V" } : MethodName) prog_6_method_3_code (4 : Nat) (none : Option FieldType)) ∈ TB := tb_7 27 rfl rfl
theorem tw_7_28 : (Cond.methodLink "LetterRepository$Program" (28 : Nat) ({ cls := "LetterRepository$Program", name := "readCommand", desc := "(Ljava/lang/StringBuilder;)Z" } : MethodName)) ∈ TB := tb_7 28 rfl rfl
theorem tw_7_30 : (Cond.instanceMethod ({ cls := "LetterRepository$Program", name := "readCommand", desc := "(Ljava/lang/StringBuilder;)Z" } : MethodName)) ∈ TB := tb_7 30 rfl rfl
theorem tw_7_31 : (Cond.code ({ cls := "LetterRepository$Program", name := "readCommand", desc := "(Ljava/lang/StringBuilder;)Z" } : MethodName) prog_6_method_4_code (8 : Nat) (some FieldType.boolean)) ∈ TB := tb_7 31 rfl rfl
theorem tw_7_32 : (Cond.fieldLinkNest "LetterRepository$Program" (35 : Nat) "LetterRepository" "KINDS" "[LLetterRepository$Kind;" "LetterRepository") ∈ NB := nb_7 32 rfl rfl
theorem tw_7_34 : (Cond.methodLink "LetterRepository$Program" (39 : Nat) ({ cls := "LetterRepository$Program", name := "readForm", desc := "(LLetterRepository$Kind;Ljava/lang/StringBuilder;)Z" } : MethodName)) ∈ TB := tb_7 34 rfl rfl
theorem tw_7_36 : (Cond.instanceMethod ({ cls := "LetterRepository$Program", name := "readForm", desc := "(LLetterRepository$Kind;Ljava/lang/StringBuilder;)Z" } : MethodName)) ∈ TB := tb_7 36 rfl rfl
theorem tw_7_37 : (Cond.code ({ cls := "LetterRepository$Program", name := "readForm", desc := "(LLetterRepository$Kind;Ljava/lang/StringBuilder;)Z" } : MethodName) prog_6_method_6_code (5 : Nat) (some FieldType.boolean)) ∈ TB := tb_7 37 rfl rfl
theorem tw_7_38 : (Cond.methodLink "LetterRepository$Program" (53 : Nat) ({ cls := "LetterRepository$Program", name := "commandAt", desc := "(I)LLetterRepository$Command;" } : MethodName)) ∈ TB := tb_7 38 rfl rfl
theorem tw_7_39 : (Cond.instanceMethod ({ cls := "LetterRepository$Program", name := "commandAt", desc := "(I)LLetterRepository$Command;" } : MethodName)) ∈ TB := tb_7 39 rfl rfl
theorem tw_7_40 : (Cond.selects "LetterRepository$Program" ({ cls := "LetterRepository$Program", name := "commandAt", desc := "(I)LLetterRepository$Command;" } : MethodName) ({ cls := "LetterRepository$Program", name := "commandAt", desc := "(I)LLetterRepository$Command;" } : MethodName)) ∈ TB := tb_7 40 rfl rfl
theorem tw_7_41 : (Cond.code ({ cls := "LetterRepository$Program", name := "commandAt", desc := "(I)LLetterRepository$Command;" } : MethodName) prog_6_method_2_code (2 : Nat) (some (FieldType.object "LetterRepository$Command"))) ∈ TB := tb_7 41 rfl rfl
theorem tw_7_42 : (Cond.methodLink "LetterRepository$Program" (57 : Nat) ({ cls := "LetterRepository$Command", name := "begin", desc := "(LLetterRepository$Kind;)V" } : MethodName)) ∈ TB := tb_7 42 rfl rfl
theorem tw_7_43 : (Cond.instanceMethod ({ cls := "LetterRepository$Command", name := "begin", desc := "(LLetterRepository$Kind;)V" } : MethodName)) ∈ TB := tb_7 43 rfl rfl
theorem tw_7_44 : (Cond.selects "LetterRepository$Command" ({ cls := "LetterRepository$Command", name := "begin", desc := "(LLetterRepository$Kind;)V" } : MethodName) ({ cls := "LetterRepository$Command", name := "begin", desc := "(LLetterRepository$Kind;)V" } : MethodName)) ∈ TB := tb_7 44 rfl rfl
theorem tw_7_45 : (Cond.code ({ cls := "LetterRepository$Command", name := "begin", desc := "(LLetterRepository$Kind;)V" } : MethodName) prog_3_method_2_code (2 : Nat) (none : Option FieldType)) ∈ TB := tb_7 45 rfl rfl
theorem tw_7_46 : (Cond.methodLink "LetterRepository$Program" (67 : Nat) ({ cls := "java/lang/String", name := "length", desc := "()I" } : MethodName)) ∈ TB := tb_7 46 rfl rfl
theorem tw_7_47 : (Cond.methodLink "LetterRepository$Program" (73 : Nat) ({ cls := "java/lang/String", name := "charAt", desc := "(I)C" } : MethodName)) ∈ TB := tb_7 47 rfl rfl
theorem tw_7_48 : (Cond.instanceMethod ({ cls := "java/lang/String", name := "charAt", desc := "(I)C" } : MethodName)) ∈ TB := tb_7 48 rfl rfl
theorem tw_7_49 : (Cond.selects "java/lang/String" ({ cls := "java/lang/String", name := "charAt", desc := "(I)C" } : MethodName) ({ cls := "java/lang/String", name := "charAt", desc := "(I)C" } : MethodName)) ∈ TB := tb_7 49 rfl rfl
theorem tw_7_50 : (Cond.code ({ cls := "java/lang/String", name := "charAt", desc := "(I)C" } : MethodName) prog_29_method_56_code (2 : Nat) (some FieldType.char)) ∈ TB := tb_7 50 rfl rfl
theorem tw_7_51 : (Cond.methodLink "java/lang/String" (492 : Nat) ({ cls := "java/lang/String", name := "isLatin1", desc := "()Z" } : MethodName)) ∈ TB := tb_7 51 rfl rfl
theorem tw_7_52 : (Cond.instanceMethod ({ cls := "java/lang/String", name := "isLatin1", desc := "()Z" } : MethodName)) ∈ TB := tb_7 52 rfl rfl
theorem tw_7_53 : (Cond.selects "java/lang/String" ({ cls := "java/lang/String", name := "isLatin1", desc := "()Z" } : MethodName) ({ cls := "java/lang/String", name := "isLatin1", desc := "()Z" } : MethodName)) ∈ TB := tb_7 53 rfl rfl
theorem tw_7_54 : (Cond.code ({ cls := "java/lang/String", name := "isLatin1", desc := "()Z" } : MethodName) prog_29_method_154_code (1 : Nat) (some FieldType.boolean)) ∈ TB := tb_7 54 rfl rfl
theorem tw_7_55 : (Cond.methodLink "java/lang/String" (495 : Nat) ({ cls := "java/lang/StringLatin1", name := "charAt", desc := "([BI)C" } : MethodName)) ∈ TB := tb_7 55 rfl rfl
theorem tw_7_56 : (Cond.static ({ cls := "java/lang/StringLatin1", name := "charAt", desc := "([BI)C" } : MethodName)) ∈ TB := tb_7 56 rfl rfl
theorem tw_7_57 : (Cond.code ({ cls := "java/lang/StringLatin1", name := "charAt", desc := "([BI)C" } : MethodName) prog_32_method_2_code (2 : Nat) (some FieldType.char)) ∈ TB := tb_7 57 rfl rfl
theorem tw_7_58 : (Cond.methodLink "java/lang/StringLatin1" (9 : Nat) ({ cls := "java/lang/String", name := "checkIndex", desc := "(II)V" } : MethodName)) ∈ TB := tb_7 58 rfl rfl
theorem tw_7_59 : (Cond.methodLink "java/lang/String" (498 : Nat) ({ cls := "java/lang/StringUTF16", name := "charAt", desc := "([BI)C" } : MethodName)) ∈ TB := tb_7 59 rfl rfl
theorem tw_7_60 : (Cond.static ({ cls := "java/lang/StringUTF16", name := "charAt", desc := "([BI)C" } : MethodName)) ∈ TB := tb_7 60 rfl rfl
theorem tw_7_61 : (Cond.code ({ cls := "java/lang/StringUTF16", name := "charAt", desc := "([BI)C" } : MethodName) prog_33_method_83_code (2 : Nat) (some FieldType.char)) ∈ TB := tb_7 61 rfl rfl
theorem tw_7_62 : (Cond.methodLink "LetterRepository$Program" (77 : Nat) ({ cls := "LetterRepository$Program", name := "readSign", desc := "(CLjava/lang/StringBuilder;LLetterRepository$Command;)Z" } : MethodName)) ∈ TB := tb_7 62 rfl rfl
theorem tw_7_64 : (Cond.instanceMethod ({ cls := "LetterRepository$Program", name := "readSign", desc := "(CLjava/lang/StringBuilder;LLetterRepository$Command;)Z" } : MethodName)) ∈ TB := tb_7 64 rfl rfl
theorem tw_7_65 : (Cond.code ({ cls := "LetterRepository$Program", name := "readSign", desc := "(CLjava/lang/StringBuilder;LLetterRepository$Command;)Z" } : MethodName) prog_6_method_7_code (5 : Nat) (some FieldType.boolean)) ∈ TB := tb_7 65 rfl rfl
theorem tw_7_66 : (Cond.methodLink "LetterRepository$Program" (49 : Nat) ({ cls := "LetterRepository$Program", name := "signAt", desc := "(Ljava/lang/StringBuilder;)I" } : MethodName)) ∈ TB := tb_7 66 rfl rfl
theorem tw_7_68 : (Cond.instanceMethod ({ cls := "LetterRepository$Program", name := "signAt", desc := "(Ljava/lang/StringBuilder;)I" } : MethodName)) ∈ TB := tb_7 68 rfl rfl
theorem tw_7_69 : (Cond.code ({ cls := "LetterRepository$Program", name := "signAt", desc := "(Ljava/lang/StringBuilder;)I" } : MethodName) prog_6_method_10_code (2 : Nat) (some FieldType.int)) ∈ TB := tb_7 69 rfl rfl
theorem tw_7_70 : (Cond.methodLink "LetterRepository$Program" (103 : Nat) ({ cls := "java/lang/StringBuilder", name := "length", desc := "()I" } : MethodName)) ∈ TB := tb_7 70 rfl rfl
theorem tw_7_71 : (Cond.methodLink "LetterRepository$Program" (106 : Nat) ({ cls := "java/lang/StringBuilder", name := "charAt", desc := "(I)C" } : MethodName)) ∈ TB := tb_7 71 rfl rfl
theorem tw_7_72 : (Cond.methodLink "LetterRepository$Program" (81 : Nat) ({ cls := "LetterRepository$Program", name := "fits", desc := "(IC)Z" } : MethodName)) ∈ TB := tb_7 72 rfl rfl
theorem tw_7_73 : (Cond.static ({ cls := "LetterRepository$Program", name := "fits", desc := "(IC)Z" } : MethodName)) ∈ TB := tb_7 73 rfl rfl
theorem tw_7_74 : (Cond.code ({ cls := "LetterRepository$Program", name := "fits", desc := "(IC)Z" } : MethodName) prog_6_method_8_code (2 : Nat) (some FieldType.boolean)) ∈ TB := tb_7 74 rfl rfl
theorem tw_7_75 : (Cond.methodLinkNest "LetterRepository$Program" (93 : Nat) ({ cls := "LetterRepository", name := "isDigit", desc := "(I)Z" } : MethodName) "LetterRepository") ∈ NB := nb_7 75 rfl rfl
theorem tw_7_76 : (Cond.static ({ cls := "LetterRepository", name := "isDigit", desc := "(I)Z" } : MethodName)) ∈ TB := tb_7 76 rfl rfl
theorem tw_7_77 : (Cond.code ({ cls := "LetterRepository", name := "isDigit", desc := "(I)Z" } : MethodName) prog_1_method_74_code (1 : Nat) (some FieldType.boolean)) ∈ TB := tb_7 77 rfl rfl
theorem tw_7_78 : (Cond.methodLinkNest "LetterRepository$Program" (97 : Nat) ({ cls := "LetterRepository", name := "isSmall", desc := "(I)Z" } : MethodName) "LetterRepository") ∈ NB := nb_7 78 rfl rfl
theorem tw_7_79 : (Cond.methodLinkNest "LetterRepository$Program" (100 : Nat) ({ cls := "LetterRepository", name := "isCapital", desc := "(I)Z" } : MethodName) "LetterRepository") ∈ NB := nb_7 79 rfl rfl
theorem tw_7_80 : (Cond.methodLink "LetterRepository$Program" (85 : Nat) ({ cls := "LetterRepository$Command", name := "addArgument", desc := "(I)V" } : MethodName)) ∈ TB := tb_7 80 rfl rfl
theorem tw_7_81 : (Cond.instanceMethod ({ cls := "LetterRepository$Command", name := "addArgument", desc := "(I)V" } : MethodName)) ∈ TB := tb_7 81 rfl rfl
theorem tw_7_82 : (Cond.selects "LetterRepository$Command" ({ cls := "LetterRepository$Command", name := "addArgument", desc := "(I)V" } : MethodName) ({ cls := "LetterRepository$Command", name := "addArgument", desc := "(I)V" } : MethodName)) ∈ TB := tb_7 82 rfl rfl
theorem tw_7_83 : (Cond.code ({ cls := "LetterRepository$Command", name := "addArgument", desc := "(I)V" } : MethodName) prog_3_method_3_code (2 : Nat) (none : Option FieldType)) ∈ TB := tb_7 83 rfl rfl
theorem tw_7_84 : (Cond.methodLink "LetterRepository$Command" (33 : Nat) ({ cls := "LetterRepository$Row", name := "set", desc := "(II)V" } : MethodName)) ∈ TB := tb_7 84 rfl rfl
theorem tw_7_85 : (Cond.methodLink "LetterRepository$Program" (89 : Nat) ({ cls := "LetterRepository$Program", name := "numberFrom", desc := "(ILjava/lang/StringBuilder;)I" } : MethodName)) ∈ TB := tb_7 85 rfl rfl
theorem tw_7_87 : (Cond.instanceMethod ({ cls := "LetterRepository$Program", name := "numberFrom", desc := "(ILjava/lang/StringBuilder;)I" } : MethodName)) ∈ TB := tb_7 87 rfl rfl
theorem tw_7_88 : (Cond.code ({ cls := "LetterRepository$Program", name := "numberFrom", desc := "(ILjava/lang/StringBuilder;)I" } : MethodName) prog_6_method_9_code (4 : Nat) (some FieldType.int)) ∈ TB := tb_7 88 rfl rfl
theorem tw_7_89 : (Cond.methodLink "LetterRepository$Program" (43 : Nat) ({ cls := "java/lang/Math", name := "max", desc := "(II)I" } : MethodName)) ∈ TB := tb_7 89 rfl rfl
theorem tw_7_90 : (Cond.methodLink "LetterRepository$Program" (32 : Nat) ({ cls := "LetterRepository$Program", name := "readSemicolon", desc := "(Ljava/lang/StringBuilder;)Z" } : MethodName)) ∈ TB := tb_7 90 rfl rfl
theorem tw_7_92 : (Cond.instanceMethod ({ cls := "LetterRepository$Program", name := "readSemicolon", desc := "(Ljava/lang/StringBuilder;)Z" } : MethodName)) ∈ TB := tb_7 92 rfl rfl
theorem tw_7_93 : (Cond.code ({ cls := "LetterRepository$Program", name := "readSemicolon", desc := "(Ljava/lang/StringBuilder;)Z" } : MethodName) prog_6_method_5_code (3 : Nat) (some FieldType.boolean)) ∈ TB := tb_7 93 rfl rfl
theorem tw_7_95 : (Cond.methodLink "LetterRepository" (349 : Nat) ({ cls := "LetterRepository$Program", name := "commandAt", desc := "(I)LLetterRepository$Command;" } : MethodName)) ∈ TB := tb_7 95 rfl rfl
theorem tw_7_96 : (Cond.methodLink "LetterRepository" (353 : Nat) ({ cls := "LetterRepository$Store", name := "refusalOf", desc := "(LLetterRepository$Command;)LLetterRepository$Refusal;" } : MethodName)) ∈ TB := tb_7 96 rfl rfl
theorem tw_7_97 : (Cond.instanceMethod ({ cls := "LetterRepository$Store", name := "refusalOf", desc := "(LLetterRepository$Command;)LLetterRepository$Refusal;" } : MethodName)) ∈ TB := tb_7 97 rfl rfl
theorem tw_7_98 : (Cond.selects "LetterRepository$Store" ({ cls := "LetterRepository$Store", name := "refusalOf", desc := "(LLetterRepository$Command;)LLetterRepository$Refusal;" } : MethodName) ({ cls := "LetterRepository$Store", name := "refusalOf", desc := "(LLetterRepository$Command;)LLetterRepository$Refusal;" } : MethodName)) ∈ TB := tb_7 98 rfl rfl
theorem tw_7_99 : (Cond.code ({ cls := "LetterRepository$Store", name := "refusalOf", desc := "(LLetterRepository$Command;)LLetterRepository$Refusal;" } : MethodName) prog_10_method_47_code (4 : Nat) (some (FieldType.object "LetterRepository$Refusal"))) ∈ TB := tb_7 99 rfl rfl
theorem tw_7_100 : (Cond.methodLink "LetterRepository$Store" (203 : Nat) ({ cls := "LetterRepository$Command", name := "argument", desc := "(I)I" } : MethodName)) ∈ TB := tb_7 100 rfl rfl
theorem tw_7_101 : (Cond.instanceMethod ({ cls := "LetterRepository$Command", name := "argument", desc := "(I)I" } : MethodName)) ∈ TB := tb_7 101 rfl rfl
theorem tw_7_102 : (Cond.selects "LetterRepository$Command" ({ cls := "LetterRepository$Command", name := "argument", desc := "(I)I" } : MethodName) ({ cls := "LetterRepository$Command", name := "argument", desc := "(I)I" } : MethodName)) ∈ TB := tb_7 102 rfl rfl
theorem tw_7_103 : (Cond.code ({ cls := "LetterRepository$Command", name := "argument", desc := "(I)I" } : MethodName) prog_3_method_4_code (2 : Nat) (some FieldType.int)) ∈ TB := tb_7 103 rfl rfl
theorem tw_7_104 : (Cond.methodLink "LetterRepository$Command" (36 : Nat) ({ cls := "LetterRepository$Row", name := "get", desc := "(I)I" } : MethodName)) ∈ TB := tb_7 104 rfl rfl
theorem tw_7_105 : (Cond.fieldLink "LetterRepository$Store" (208 : Nat) "LetterRepository$1" "$SwitchMap$LetterRepository$Kind" "[I") ∈ TB := tb_7 105 rfl rfl
theorem tw_7_107 : (Cond.methodLink "LetterRepository$Store" (218 : Nat) ({ cls := "LetterRepository$Kind", name := "ordinal", desc := "()I" } : MethodName)) ∈ TB := tb_7 107 rfl rfl
theorem tw_7_108 : (Cond.sameMethod "LetterRepository$Kind" "java/lang/Enum" "ordinal" "()I") ∈ TB := tb_7 108 rfl rfl
theorem tw_7_109 : (Cond.declares ({ cls := "java/lang/Enum", name := "ordinal", desc := "()I" } : MethodName)) ∈ NB := nb_7 109 rfl rfl
theorem tw_7_110 : (Cond.selects "LetterRepository$Kind" ({ cls := "LetterRepository$Kind", name := "ordinal", desc := "()I" } : MethodName) ({ cls := "java/lang/Enum", name := "ordinal", desc := "()I" } : MethodName)) ∈ TB := tb_7 110 rfl rfl
theorem tw_7_111 : (Cond.instanceMethod ({ cls := "java/lang/Enum", name := "ordinal", desc := "()I" } : MethodName)) ∈ TB := tb_7 111 rfl rfl
theorem tw_7_112 : (Cond.code ({ cls := "java/lang/Enum", name := "ordinal", desc := "()I" } : MethodName) prog_20_method_2_code (1 : Nat) (some FieldType.int)) ∈ TB := tb_7 112 rfl rfl
theorem tw_7_113 : (Cond.methodLink "LetterRepository$Store" (223 : Nat) ({ cls := "LetterRepository$Store", name := "refusalOfEdit", desc := "(III)LLetterRepository$Refusal;" } : MethodName)) ∈ TB := tb_7 113 rfl rfl
theorem tw_7_114 : (Cond.methodLink "LetterRepository$Store" (227 : Nat) ({ cls := "LetterRepository$Store", name := "refusalOfRevert", desc := "(I)LLetterRepository$Refusal;" } : MethodName)) ∈ TB := tb_7 114 rfl rfl
theorem tw_7_115 : (Cond.methodLink "LetterRepository$Store" (231 : Nat) ({ cls := "LetterRepository$Store", name := "refusalOfCommit", desc := "(II)LLetterRepository$Refusal;" } : MethodName)) ∈ TB := tb_7 115 rfl rfl
theorem tw_7_116 : (Cond.methodLink "LetterRepository$Store" (234 : Nat) ({ cls := "LetterRepository$Store", name := "refusalOfBranching", desc := "(I)LLetterRepository$Refusal;" } : MethodName)) ∈ TB := tb_7 116 rfl rfl
theorem tw_7_117 : (Cond.methodLink "LetterRepository$Store" (237 : Nat) ({ cls := "LetterRepository$Store", name := "refusalOfClosing", desc := "(I)LLetterRepository$Refusal;" } : MethodName)) ∈ TB := tb_7 117 rfl rfl
theorem tw_7_118 : (Cond.methodLink "LetterRepository$Store" (240 : Nat) ({ cls := "LetterRepository$Store", name := "refusalOfMerge", desc := "(II)LLetterRepository$Refusal;" } : MethodName)) ∈ TB := tb_7 118 rfl rfl
theorem tw_7_119 : (Cond.methodLink "LetterRepository$Store" (243 : Nat) ({ cls := "LetterRepository$Store", name := "refusalOfPick", desc := "(II)LLetterRepository$Refusal;" } : MethodName)) ∈ TB := tb_7 119 rfl rfl
theorem tw_7_120 : (Cond.methodLink "LetterRepository$Store" (246 : Nat) ({ cls := "LetterRepository$Store", name := "refusalOfReset", desc := "(II)LLetterRepository$Refusal;" } : MethodName)) ∈ TB := tb_7 120 rfl rfl
theorem tw_7_121 : (Cond.methodLink "LetterRepository$Store" (249 : Nat) ({ cls := "LetterRepository$Store", name := "refusalOfTag", desc := "(II)LLetterRepository$Refusal;" } : MethodName)) ∈ TB := tb_7 121 rfl rfl
theorem tw_7_122 : (Cond.methodLink "LetterRepository$Store" (252 : Nat) ({ cls := "LetterRepository$Store", name := "refusalOfUntag", desc := "(I)LLetterRepository$Refusal;" } : MethodName)) ∈ TB := tb_7 122 rfl rfl
theorem tw_7_123 : (Cond.methodLink "LetterRepository" (357 : Nat) ({ cls := "LetterRepository$History", name := "putNotedInto", desc := "(LLetterRepository$Store;)V" } : MethodName)) ∈ TB := tb_7 123 rfl rfl
theorem tw_7_124 : (Cond.instanceMethod ({ cls := "LetterRepository$History", name := "putNotedInto", desc := "(LLetterRepository$Store;)V" } : MethodName)) ∈ TB := tb_7 124 rfl rfl
theorem tw_7_125 : (Cond.selects "LetterRepository$History" ({ cls := "LetterRepository$History", name := "putNotedInto", desc := "(LLetterRepository$Store;)V" } : MethodName) ({ cls := "LetterRepository$History", name := "putNotedInto", desc := "(LLetterRepository$Store;)V" } : MethodName)) ∈ TB := tb_7 125 rfl rfl
theorem tw_7_126 : (Cond.code ({ cls := "LetterRepository$History", name := "putNotedInto", desc := "(LLetterRepository$Store;)V" } : MethodName) prog_4_method_4_code (3 : Nat) (none : Option FieldType)) ∈ TB := tb_7 126 rfl rfl
theorem tw_7_128 : (Cond.methodLink "LetterRepository" (362 : Nat) ({ cls := "LetterRepository$Store", name := "perform", desc := "(LLetterRepository$Command;)I" } : MethodName)) ∈ TB := tb_7 128 rfl rfl
theorem tw_7_129 : (Cond.instanceMethod ({ cls := "LetterRepository$Store", name := "perform", desc := "(LLetterRepository$Command;)I" } : MethodName)) ∈ TB := tb_7 129 rfl rfl
theorem tw_7_130 : (Cond.selects "LetterRepository$Store" ({ cls := "LetterRepository$Store", name := "perform", desc := "(LLetterRepository$Command;)I" } : MethodName) ({ cls := "LetterRepository$Store", name := "perform", desc := "(LLetterRepository$Command;)I" } : MethodName)) ∈ TB := tb_7 130 rfl rfl
theorem tw_7_131 : (Cond.code ({ cls := "LetterRepository$Store", name := "perform", desc := "(LLetterRepository$Command;)I" } : MethodName) prog_10_method_48_code (4 : Nat) (some FieldType.int)) ∈ TB := tb_7 131 rfl rfl
theorem tw_7_132 : (Cond.methodLink "LetterRepository$Store" (255 : Nat) ({ cls := "LetterRepository$Store", name := "putLetter", desc := "(III)I" } : MethodName)) ∈ TB := tb_7 132 rfl rfl
theorem tw_7_133 : (Cond.methodLink "LetterRepository$Store" (257 : Nat) ({ cls := "LetterRepository$Store", name := "dropEdits", desc := "(I)I" } : MethodName)) ∈ TB := tb_7 133 rfl rfl
theorem tw_7_134 : (Cond.methodLink "LetterRepository$Store" (260 : Nat) ({ cls := "LetterRepository$Store", name := "commitWorking", desc := "(II)I" } : MethodName)) ∈ TB := tb_7 134 rfl rfl
theorem tw_7_135 : (Cond.methodLink "LetterRepository$Store" (263 : Nat) ({ cls := "LetterRepository$Store", name := "openBranch", desc := "(I)I" } : MethodName)) ∈ TB := tb_7 135 rfl rfl
theorem tw_7_136 : (Cond.methodLink "LetterRepository$Store" (266 : Nat) ({ cls := "LetterRepository$Store", name := "dropBranch", desc := "(I)I" } : MethodName)) ∈ TB := tb_7 136 rfl rfl
theorem tw_7_137 : (Cond.methodLink "LetterRepository$Store" (269 : Nat) ({ cls := "LetterRepository$Store", name := "mergeHeads", desc := "(IIZ)I" } : MethodName)) ∈ TB := tb_7 137 rfl rfl
theorem tw_7_138 : (Cond.methodLink "LetterRepository$Store" (273 : Nat) ({ cls := "LetterRepository$Store", name := "pickChange", desc := "(II)I" } : MethodName)) ∈ TB := tb_7 138 rfl rfl
theorem tw_7_139 : (Cond.methodLink "LetterRepository$Store" (276 : Nat) ({ cls := "LetterRepository$Store", name := "moveHead", desc := "(II)I" } : MethodName)) ∈ TB := tb_7 139 rfl rfl
theorem tw_7_140 : (Cond.methodLink "LetterRepository$Store" (279 : Nat) ({ cls := "LetterRepository$Store", name := "putTag", desc := "(II)I" } : MethodName)) ∈ TB := tb_7 140 rfl rfl
theorem tw_7_141 : (Cond.methodLink "LetterRepository$Store" (282 : Nat) ({ cls := "LetterRepository$Store", name := "takeTag", desc := "(I)I" } : MethodName)) ∈ TB := tb_7 141 rfl rfl
theorem tw_7_142 : (Cond.methodLink "LetterRepository$Store" (285 : Nat) ({ cls := "LetterRepository$Store", name := "archiveUnused", desc := "()I" } : MethodName)) ∈ TB := tb_7 142 rfl rfl
theorem tw_7_143 : (Cond.methodLink "LetterRepositoryLaw" (366 : Nat) ({ cls := "LetterRepositoryLaw", name := "errorPosition", desc := "(LLetterRepository;[J)I" } : MethodName)) ∈ TB := tb_7 143 rfl rfl
theorem tw_7_144 : (Cond.static ({ cls := "LetterRepositoryLaw", name := "errorPosition", desc := "(LLetterRepository;[J)I" } : MethodName)) ∈ TB := tb_7 144 rfl rfl
theorem tw_7_145 : (Cond.codeWith ({ cls := "LetterRepositoryLaw", name := "errorPosition", desc := "(LLetterRepository;[J)I" } : MethodName) method_47_code (3 : Nat) (some FieldType.int) [((0 : Nat), (8 : Nat), (11 : Nat), (30 : Nat))]) ∈ TB := tb_7 145 rfl rfl
theorem tw_7_146 : (Cond.methodLink "LetterRepositoryLaw" (162 : Nat) ({ cls := "LetterRepository", name := "errorPosition", desc := "()I" } : MethodName)) ∈ TB := tb_7 146 rfl rfl
theorem tw_7_147 : (Cond.instanceMethod ({ cls := "LetterRepository", name := "errorPosition", desc := "()I" } : MethodName)) ∈ TB := tb_7 147 rfl rfl
theorem tw_7_148 : (Cond.selects "LetterRepository" ({ cls := "LetterRepository", name := "errorPosition", desc := "()I" } : MethodName) ({ cls := "LetterRepository", name := "errorPosition", desc := "()I" } : MethodName)) ∈ TB := tb_7 148 rfl rfl
theorem tw_7_149 : (Cond.code ({ cls := "LetterRepository", name := "errorPosition", desc := "()I" } : MethodName) prog_1_method_57_code (1 : Nat) (some FieldType.int)) ∈ TB := tb_7 149 rfl rfl
theorem tw_7_150 : (Cond.methodLink "LetterRepositoryLaw" (369 : Nat) ({ cls := "LetterRepositoryLaw", name := "failedCommand", desc := "(LLetterRepository;[J)I" } : MethodName)) ∈ TB := tb_7 150 rfl rfl
theorem tw_7_151 : (Cond.static ({ cls := "LetterRepositoryLaw", name := "failedCommand", desc := "(LLetterRepository;[J)I" } : MethodName)) ∈ TB := tb_7 151 rfl rfl
theorem tw_7_152 : (Cond.codeWith ({ cls := "LetterRepositoryLaw", name := "failedCommand", desc := "(LLetterRepository;[J)I" } : MethodName) method_48_code (3 : Nat) (some FieldType.int) [((0 : Nat), (8 : Nat), (11 : Nat), (30 : Nat))]) ∈ TB := tb_7 152 rfl rfl
theorem tw_7_153 : (Cond.methodLink "LetterRepositoryLaw" (165 : Nat) ({ cls := "LetterRepository", name := "failedCommand", desc := "()I" } : MethodName)) ∈ TB := tb_7 153 rfl rfl
theorem tw_7_154 : (Cond.instanceMethod ({ cls := "LetterRepository", name := "failedCommand", desc := "()I" } : MethodName)) ∈ TB := tb_7 154 rfl rfl
theorem tw_7_155 : (Cond.selects "LetterRepository" ({ cls := "LetterRepository", name := "failedCommand", desc := "()I" } : MethodName) ({ cls := "LetterRepository", name := "failedCommand", desc := "()I" } : MethodName)) ∈ TB := tb_7 155 rfl rfl
theorem tw_7_156 : (Cond.code ({ cls := "LetterRepository", name := "failedCommand", desc := "()I" } : MethodName) prog_1_method_58_code (1 : Nat) (some FieldType.int)) ∈ TB := tb_7 156 rfl rfl
theorem tw_7_157 : (Cond.methodLink "LetterRepositoryLaw" (376 : Nat) ({ cls := "LetterRepositoryLaw", name := "undo", desc := "(LLetterRepository;[J)I" } : MethodName)) ∈ TB := tb_7 157 rfl rfl
theorem tw_7_158 : (Cond.static ({ cls := "LetterRepositoryLaw", name := "undo", desc := "(LLetterRepository;[J)I" } : MethodName)) ∈ TB := tb_7 158 rfl rfl
theorem tw_7_159 : (Cond.codeWith ({ cls := "LetterRepositoryLaw", name := "undo", desc := "(LLetterRepository;[J)I" } : MethodName) method_49_code (3 : Nat) (some FieldType.int) [((0 : Nat), (8 : Nat), (11 : Nat), (25 : Nat))]) ∈ TB := tb_7 159 rfl rfl
theorem tw_7_160 : (Cond.methodLink "LetterRepositoryLaw" (168 : Nat) ({ cls := "LetterRepository", name := "undo", desc := "()I" } : MethodName)) ∈ TB := tb_7 160 rfl rfl
theorem tw_7_161 : (Cond.instanceMethod ({ cls := "LetterRepository", name := "undo", desc := "()I" } : MethodName)) ∈ TB := tb_7 161 rfl rfl
theorem tw_7_162 : (Cond.selects "LetterRepository" ({ cls := "LetterRepository", name := "undo", desc := "()I" } : MethodName) ({ cls := "LetterRepository", name := "undo", desc := "()I" } : MethodName)) ∈ TB := tb_7 162 rfl rfl
theorem tw_7_163 : (Cond.code ({ cls := "LetterRepository", name := "undo", desc := "()I" } : MethodName) prog_1_method_60_code (1 : Nat) (some FieldType.int)) ∈ TB := tb_7 163 rfl rfl
theorem tw_7_165 : (Cond.methodLink "LetterRepository" (372 : Nat) ({ cls := "LetterRepository$History", name := "takeBackInto", desc := "(LLetterRepository$Store;)V" } : MethodName)) ∈ TB := tb_7 165 rfl rfl
theorem tw_7_166 : (Cond.instanceMethod ({ cls := "LetterRepository$History", name := "takeBackInto", desc := "(LLetterRepository$Store;)V" } : MethodName)) ∈ TB := tb_7 166 rfl rfl
theorem tw_7_167 : (Cond.selects "LetterRepository$History" ({ cls := "LetterRepository$History", name := "takeBackInto", desc := "(LLetterRepository$Store;)V" } : MethodName) ({ cls := "LetterRepository$History", name := "takeBackInto", desc := "(LLetterRepository$Store;)V" } : MethodName)) ∈ TB := tb_7 167 rfl rfl
theorem tw_7_168 : (Cond.code ({ cls := "LetterRepository$History", name := "takeBackInto", desc := "(LLetterRepository$Store;)V" } : MethodName) prog_4_method_6_code (2 : Nat) (none : Option FieldType)) ∈ TB := tb_7 168 rfl rfl
theorem tw_7_169 : (Cond.methodLink "LetterRepository$History" (39 : Nat) ({ cls := "java/lang/Math", name := "max", desc := "(II)I" } : MethodName)) ∈ TB := tb_7 169 rfl rfl
theorem tw_7_170 : (Cond.methodLink "LetterRepository$History" (42 : Nat) ({ cls := "LetterRepository$History", name := "putNotedInto", desc := "(LLetterRepository$Store;)V" } : MethodName)) ∈ TB := tb_7 170 rfl rfl
theorem tw_7_171 : (Cond.methodLink "LetterRepositoryLaw" (383 : Nat) ({ cls := "LetterRepositoryLaw", name := "restore", desc := "(LLetterRepository;[J)I" } : MethodName)) ∈ TB := tb_7 171 rfl rfl
theorem tw_7_172 : (Cond.static ({ cls := "LetterRepositoryLaw", name := "restore", desc := "(LLetterRepository;[J)I" } : MethodName)) ∈ TB := tb_7 172 rfl rfl
theorem tw_7_173 : (Cond.codeWith ({ cls := "LetterRepositoryLaw", name := "restore", desc := "(LLetterRepository;[J)I" } : MethodName) method_50_code (3 : Nat) (some FieldType.int) [((0 : Nat), (8 : Nat), (11 : Nat), (25 : Nat))]) ∈ TB := tb_7 173 rfl rfl
theorem tw_7_174 : (Cond.methodLink "LetterRepositoryLaw" (171 : Nat) ({ cls := "LetterRepository", name := "restore", desc := "()I" } : MethodName)) ∈ TB := tb_7 174 rfl rfl
theorem tw_7_175 : (Cond.instanceMethod ({ cls := "LetterRepository", name := "restore", desc := "()I" } : MethodName)) ∈ TB := tb_7 175 rfl rfl
theorem tw_7_176 : (Cond.selects "LetterRepository" ({ cls := "LetterRepository", name := "restore", desc := "()I" } : MethodName) ({ cls := "LetterRepository", name := "restore", desc := "()I" } : MethodName)) ∈ TB := tb_7 176 rfl rfl
theorem tw_7_177 : (Cond.code ({ cls := "LetterRepository", name := "restore", desc := "()I" } : MethodName) prog_1_method_62_code (1 : Nat) (some FieldType.int)) ∈ TB := tb_7 177 rfl rfl
theorem tw_7_179 : (Cond.methodLink "LetterRepository" (384 : Nat) ({ cls := "LetterRepository$History", name := "forget", desc := "()V" } : MethodName)) ∈ TB := tb_7 179 rfl rfl
theorem tw_7_180 : (Cond.instanceMethod ({ cls := "LetterRepository$History", name := "forget", desc := "()V" } : MethodName)) ∈ TB := tb_7 180 rfl rfl
theorem tw_7_181 : (Cond.selects "LetterRepository$History" ({ cls := "LetterRepository$History", name := "forget", desc := "()V" } : MethodName) ({ cls := "LetterRepository$History", name := "forget", desc := "()V" } : MethodName)) ∈ TB := tb_7 181 rfl rfl
theorem tw_7_182 : (Cond.code ({ cls := "LetterRepository$History", name := "forget", desc := "()V" } : MethodName) prog_4_method_7_code (1 : Nat) (none : Option FieldType)) ∈ TB := tb_7 182 rfl rfl
theorem tw_7_183 : (Cond.classLink "LetterRepositoryLaw" (175 : Nat) "LetterRepositoryModel") ∈ TB := tb_7 183 rfl rfl
theorem tw_7_184 : (Cond.instantiable "LetterRepositoryModel" (22 : Nat)) ∈ TB := tb_7 184 rfl rfl
theorem tw_7_185 : (Cond.methodLink "LetterRepositoryLaw" (177 : Nat) ({ cls := "LetterRepositoryModel", name := "<init>", desc := "()V" } : MethodName)) ∈ TB := tb_7 185 rfl rfl
theorem tw_7_186 : (Cond.instanceMethod ({ cls := "LetterRepositoryModel", name := "<init>", desc := "()V" } : MethodName)) ∈ TB := tb_7 186 rfl rfl
theorem tw_7_187 : (Cond.code ({ cls := "LetterRepositoryModel", name := "<init>", desc := "()V" } : MethodName) prog_12_method_1_code (2 : Nat) (none : Option FieldType)) ∈ TB := tb_7 187 rfl rfl
theorem tw_7_188 : (Cond.methodLink "LetterRepositoryModel" (1 : Nat) ({ cls := "java/lang/Object", name := "<init>", desc := "()V" } : MethodName)) ∈ TB := tb_7 188 rfl rfl
theorem tw_7_189 : (Cond.fieldLink "LetterRepositoryModel" (9 : Nat) "LetterRepositoryModel" "m" "[I") ∈ TB := tb_7 189 rfl rfl
theorem tw_7_190 : (Cond.fieldLink "LetterRepositoryModel" (13 : Nat) "LetterRepositoryModel" "aside" "[I") ∈ TB := tb_7 190 rfl rfl
theorem tw_7_191 : (Cond.fieldLink "LetterRepositoryModel" (16 : Nat) "LetterRepositoryModel" "saved" "[I") ∈ TB := tb_7 191 rfl rfl
theorem tw_7_192 : (Cond.fieldLink "LetterRepositoryModel" (281 : Nat) "LetterRepositoryModel" "isSaved" "Z") ∈ TB := tb_7 192 rfl rfl
theorem tw_7_193 : (Cond.fieldLink "LetterRepositoryModel" (19 : Nat) "LetterRepositoryModel" "past" "[I") ∈ TB := tb_7 193 rfl rfl
theorem tw_7_194 : (Cond.fieldLink "LetterRepositoryModel" (54 : Nat) "LetterRepositoryModel" "changes" "I") ∈ TB := tb_7 194 rfl rfl
theorem tw_7_195 : (Cond.fieldLink "LetterRepositoryModel" (22 : Nat) "LetterRepositoryModel" "errorAt" "I") ∈ TB := tb_7 195 rfl rfl
theorem tw_7_196 : (Cond.fieldLink "LetterRepositoryModel" (26 : Nat) "LetterRepositoryModel" "failed" "I") ∈ TB := tb_7 196 rfl rfl
theorem tw_7_197 : (Cond.fieldLink "LetterRepositoryModel" (51 : Nat) "LetterRepositoryModel" "thrown" "I") ∈ TB := tb_7 197 rfl rfl
theorem tw_7_198 : (Cond.fieldLink "LetterRepositoryModel" (29 : Nat) "LetterRepositoryModel" "input" "[I") ∈ TB := tb_7 198 rfl rfl
theorem tw_7_199 : (Cond.fieldLink "LetterRepositoryModel" (231 : Nat) "LetterRepositoryModel" "inputMany" "I") ∈ TB := tb_7 199 rfl rfl
theorem tw_7_200 : (Cond.fieldLink "LetterRepositoryModel" (32 : Nat) "LetterRepositoryModel" "ancestors" "[I") ∈ TB := tb_7 200 rfl rfl
theorem tw_7_201 : (Cond.fieldLink "LetterRepositoryModel" (35 : Nat) "LetterRepositoryModel" "generations" "[I") ∈ TB := tb_7 201 rfl rfl
theorem tw_7_202 : (Cond.fieldLink "LetterRepositoryModel" (38 : Nat) "LetterRepositoryModel" "line" "[I") ∈ TB := tb_7 202 rfl rfl
theorem tw_7_203 : (Cond.fieldLink "LetterRepositoryModel" (217 : Nat) "LetterRepositoryModel" "lineMany" "I") ∈ TB := tb_7 203 rfl rfl
theorem tw_7_204 : (Cond.fieldLink "LetterRepositoryModel" (41 : Nat) "LetterRepositoryModel" "letters" "[C") ∈ TB := tb_7 204 rfl rfl
theorem tw_7_205 : (Cond.fieldLink "LetterRepositoryModel" (45 : Nat) "LetterRepositoryModel" "begins0" "[I") ∈ TB := tb_7 205 rfl rfl
theorem tw_7_206 : (Cond.fieldLink "LetterRepositoryModel" (48 : Nat) "LetterRepositoryModel" "commands" "[I") ∈ TB := tb_7 206 rfl rfl
theorem tw_7_207 : (Cond.fieldLink "LetterRepositoryModel" (266 : Nat) "LetterRepositoryModel" "commandMany" "I") ∈ TB := tb_7 207 rfl rfl
theorem tw_7_208 : (Cond.fieldLink "LetterRepositoryModel" (234 : Nat) "LetterRepositoryModel" "place0" "I") ∈ TB := tb_7 208 rfl rfl
theorem tw_7_209 : (Cond.fieldLink "LetterRepositoryModel" (237 : Nat) "LetterRepositoryModel" "size0" "I") ∈ TB := tb_7 209 rfl rfl
theorem tw_7_210 : (Cond.fieldLink "LetterRepositoryModel" (240 : Nat) "LetterRepositoryModel" "isWrong" "Z") ∈ TB := tb_7 210 rfl rfl
theorem tw_7_211 : (Cond.laysFinal "LetterRepositoryModel" "LetterRepositoryModel" "m" "[I") ∈ TB := tb_7 211 rfl rfl
theorem tw_7_212 : (Cond.soleField "LetterRepositoryModel" "m") ∈ TB := tb_7 212 rfl rfl
theorem tw_7_213 : (Cond.laysFinal "LetterRepositoryModel" "LetterRepositoryModel" "aside" "[I") ∈ TB := tb_7 213 rfl rfl
theorem tw_7_214 : (Cond.soleField "LetterRepositoryModel" "aside") ∈ TB := tb_7 214 rfl rfl
theorem tw_7_215 : (Cond.laysFinal "LetterRepositoryModel" "LetterRepositoryModel" "saved" "[I") ∈ TB := tb_7 215 rfl rfl
theorem tw_7_216 : (Cond.soleField "LetterRepositoryModel" "saved") ∈ TB := tb_7 216 rfl rfl
theorem tw_7_217 : (Cond.lays "LetterRepositoryModel" "LetterRepositoryModel" "isSaved" "Z") ∈ TB := tb_7 217 rfl rfl
theorem tw_7_218 : (Cond.soleField "LetterRepositoryModel" "isSaved") ∈ TB := tb_7 218 rfl rfl
theorem tw_7_219 : (Cond.laysFinal "LetterRepositoryModel" "LetterRepositoryModel" "past" "[I") ∈ TB := tb_7 219 rfl rfl
theorem tw_7_220 : (Cond.soleField "LetterRepositoryModel" "past") ∈ TB := tb_7 220 rfl rfl
theorem tw_7_221 : (Cond.lays "LetterRepositoryModel" "LetterRepositoryModel" "changes" "I") ∈ TB := tb_7 221 rfl rfl
theorem tw_7_222 : (Cond.soleField "LetterRepositoryModel" "changes") ∈ TB := tb_7 222 rfl rfl
theorem tw_7_223 : (Cond.lays "LetterRepositoryModel" "LetterRepositoryModel" "errorAt" "I") ∈ TB := tb_7 223 rfl rfl
theorem tw_7_224 : (Cond.soleField "LetterRepositoryModel" "errorAt") ∈ TB := tb_7 224 rfl rfl
theorem tw_7_225 : (Cond.lays "LetterRepositoryModel" "LetterRepositoryModel" "failed" "I") ∈ TB := tb_7 225 rfl rfl
theorem tw_7_226 : (Cond.soleField "LetterRepositoryModel" "failed") ∈ TB := tb_7 226 rfl rfl
theorem tw_7_227 : (Cond.lays "LetterRepositoryModel" "LetterRepositoryModel" "thrown" "I") ∈ TB := tb_7 227 rfl rfl
theorem tw_7_228 : (Cond.soleField "LetterRepositoryModel" "thrown") ∈ TB := tb_7 228 rfl rfl
theorem tw_7_229 : (Cond.laysFinal "LetterRepositoryModel" "LetterRepositoryModel" "input" "[I") ∈ TB := tb_7 229 rfl rfl
theorem tw_7_230 : (Cond.soleField "LetterRepositoryModel" "input") ∈ TB := tb_7 230 rfl rfl
theorem tw_7_231 : (Cond.lays "LetterRepositoryModel" "LetterRepositoryModel" "inputMany" "I") ∈ TB := tb_7 231 rfl rfl
theorem tw_7_232 : (Cond.soleField "LetterRepositoryModel" "inputMany") ∈ TB := tb_7 232 rfl rfl
theorem tw_7_233 : (Cond.laysFinal "LetterRepositoryModel" "LetterRepositoryModel" "ancestors" "[I") ∈ TB := tb_7 233 rfl rfl
theorem tw_7_234 : (Cond.soleField "LetterRepositoryModel" "ancestors") ∈ TB := tb_7 234 rfl rfl
theorem tw_7_235 : (Cond.laysFinal "LetterRepositoryModel" "LetterRepositoryModel" "generations" "[I") ∈ TB := tb_7 235 rfl rfl
theorem tw_7_236 : (Cond.soleField "LetterRepositoryModel" "generations") ∈ TB := tb_7 236 rfl rfl
theorem tw_7_237 : (Cond.laysFinal "LetterRepositoryModel" "LetterRepositoryModel" "line" "[I") ∈ TB := tb_7 237 rfl rfl
theorem tw_7_238 : (Cond.soleField "LetterRepositoryModel" "line") ∈ TB := tb_7 238 rfl rfl
theorem tw_7_239 : (Cond.lays "LetterRepositoryModel" "LetterRepositoryModel" "lineMany" "I") ∈ TB := tb_7 239 rfl rfl
theorem tw_8_0 : (Cond.soleField "LetterRepositoryModel" "lineMany") ∈ TB := tb_8 0 rfl rfl
theorem tw_8_1 : (Cond.laysFinal "LetterRepositoryModel" "LetterRepositoryModel" "letters" "[C") ∈ TB := tb_8 1 rfl rfl
theorem tw_8_2 : (Cond.soleField "LetterRepositoryModel" "letters") ∈ TB := tb_8 2 rfl rfl
theorem tw_8_3 : (Cond.laysFinal "LetterRepositoryModel" "LetterRepositoryModel" "begins0" "[I") ∈ TB := tb_8 3 rfl rfl
theorem tw_8_4 : (Cond.soleField "LetterRepositoryModel" "begins0") ∈ TB := tb_8 4 rfl rfl
theorem tw_8_5 : (Cond.laysFinal "LetterRepositoryModel" "LetterRepositoryModel" "commands" "[I") ∈ TB := tb_8 5 rfl rfl
theorem tw_8_6 : (Cond.soleField "LetterRepositoryModel" "commands") ∈ TB := tb_8 6 rfl rfl
theorem tw_8_7 : (Cond.lays "LetterRepositoryModel" "LetterRepositoryModel" "commandMany" "I") ∈ TB := tb_8 7 rfl rfl
theorem tw_8_8 : (Cond.soleField "LetterRepositoryModel" "commandMany") ∈ TB := tb_8 8 rfl rfl
theorem tw_8_9 : (Cond.lays "LetterRepositoryModel" "LetterRepositoryModel" "place0" "I") ∈ TB := tb_8 9 rfl rfl
theorem tw_8_10 : (Cond.soleField "LetterRepositoryModel" "place0") ∈ TB := tb_8 10 rfl rfl
theorem tw_8_11 : (Cond.lays "LetterRepositoryModel" "LetterRepositoryModel" "size0" "I") ∈ TB := tb_8 11 rfl rfl
theorem tw_8_12 : (Cond.soleField "LetterRepositoryModel" "size0") ∈ TB := tb_8 12 rfl rfl
theorem tw_8_13 : (Cond.lays "LetterRepositoryModel" "LetterRepositoryModel" "isWrong" "Z") ∈ TB := tb_8 13 rfl rfl
theorem tw_8_14 : (Cond.soleField "LetterRepositoryModel" "isWrong") ∈ TB := tb_8 14 rfl rfl
theorem tw_8_15 : (Cond.superclass "LetterRepositoryModel" "java/lang/Object") ∈ TB := tb_8 15 rfl rfl
theorem tw_8_16 : (Cond.arrayClass FieldType.char) ∈ TB := tb_8 16 rfl rfl
theorem tw_8_17 : (Cond.methodLink "LetterRepositoryLaw" (184 : Nat) ({ cls := "LetterRepositoryModel", name := "thrown", desc := "()I" } : MethodName)) ∈ TB := tb_8 17 rfl rfl
theorem tw_8_18 : (Cond.instanceMethod ({ cls := "LetterRepositoryModel", name := "thrown", desc := "()I" } : MethodName)) ∈ TB := tb_8 18 rfl rfl
theorem tw_8_19 : (Cond.selects "LetterRepositoryModel" ({ cls := "LetterRepositoryModel", name := "thrown", desc := "()I" } : MethodName) ({ cls := "LetterRepositoryModel", name := "thrown", desc := "()I" } : MethodName)) ∈ TB := tb_8 19 rfl rfl
theorem tw_8_20 : (Cond.code ({ cls := "LetterRepositoryModel", name := "thrown", desc := "()I" } : MethodName) prog_12_method_2_code (1 : Nat) (some FieldType.int)) ∈ TB := tb_8 20 rfl rfl
theorem tw_8_21 : (Cond.methodLink "LetterRepositoryLaw" (183 : Nat) ({ cls := "LetterRepositoryModel", name := "edit", desc := "(IIC)I" } : MethodName)) ∈ TB := tb_8 21 rfl rfl
theorem tw_8_22 : (Cond.instanceMethod ({ cls := "LetterRepositoryModel", name := "edit", desc := "(IIC)I" } : MethodName)) ∈ TB := tb_8 22 rfl rfl
theorem tw_8_23 : (Cond.selects "LetterRepositoryModel" ({ cls := "LetterRepositoryModel", name := "edit", desc := "(IIC)I" } : MethodName) ({ cls := "LetterRepositoryModel", name := "edit", desc := "(IIC)I" } : MethodName)) ∈ TB := tb_8 23 rfl rfl
theorem tw_8_24 : (Cond.code ({ cls := "LetterRepositoryModel", name := "edit", desc := "(IIC)I" } : MethodName) prog_12_method_25_code (4 : Nat) (some FieldType.int)) ∈ TB := tb_8 24 rfl rfl
theorem tw_8_25 : (Cond.methodLink "LetterRepositoryModel" (112 : Nat) ({ cls := "LetterRepositoryModel", name := "starts", desc := "()V" } : MethodName)) ∈ TB := tb_8 25 rfl rfl
theorem tw_8_27 : (Cond.instanceMethod ({ cls := "LetterRepositoryModel", name := "starts", desc := "()V" } : MethodName)) ∈ TB := tb_8 27 rfl rfl
theorem tw_8_28 : (Cond.code ({ cls := "LetterRepositoryModel", name := "starts", desc := "()V" } : MethodName) prog_12_method_5_code (2 : Nat) (none : Option FieldType)) ∈ TB := tb_8 28 rfl rfl
theorem tw_8_29 : (Cond.methodLink "LetterRepositoryModel" (115 : Nat) ({ cls := "LetterRepositoryModel", name := "editIt", desc := "(III)I" } : MethodName)) ∈ TB := tb_8 29 rfl rfl
theorem tw_8_31 : (Cond.instanceMethod ({ cls := "LetterRepositoryModel", name := "editIt", desc := "(III)I" } : MethodName)) ∈ TB := tb_8 31 rfl rfl
theorem tw_8_32 : (Cond.code ({ cls := "LetterRepositoryModel", name := "editIt", desc := "(III)I" } : MethodName) prog_12_method_24_code (4 : Nat) (some FieldType.int)) ∈ TB := tb_8 32 rfl rfl
theorem tw_8_33 : (Cond.methodLink "LetterRepositoryModel" (96 : Nat) ({ cls := "LetterRepositoryModel", name := "isBranch", desc := "(I)Z" } : MethodName)) ∈ TB := tb_8 33 rfl rfl
theorem tw_8_35 : (Cond.instanceMethod ({ cls := "LetterRepositoryModel", name := "isBranch", desc := "(I)Z" } : MethodName)) ∈ TB := tb_8 35 rfl rfl
theorem tw_8_36 : (Cond.code ({ cls := "LetterRepositoryModel", name := "isBranch", desc := "(I)Z" } : MethodName) prog_12_method_10_code (2 : Nat) (some FieldType.boolean)) ∈ TB := tb_8 36 rfl rfl
theorem tw_8_37 : (Cond.methodLink "LetterRepositoryModel" (57 : Nat) ({ cls := "LetterRepositoryModel", name := "in", desc := "(JJJ)Z" } : MethodName)) ∈ TB := tb_8 37 rfl rfl
theorem tw_8_38 : (Cond.static ({ cls := "LetterRepositoryModel", name := "in", desc := "(JJJ)Z" } : MethodName)) ∈ TB := tb_8 38 rfl rfl
theorem tw_8_39 : (Cond.code ({ cls := "LetterRepositoryModel", name := "in", desc := "(JJJ)Z" } : MethodName) prog_12_method_4_code (6 : Nat) (some FieldType.boolean)) ∈ TB := tb_8 39 rfl rfl
theorem tw_8_40 : (Cond.methodLink "LetterRepositoryModel" (99 : Nat) ({ cls := "LetterRepositoryModel", name := "isField", desc := "(I)Z" } : MethodName)) ∈ TB := tb_8 40 rfl rfl
theorem tw_8_41 : (Cond.static ({ cls := "LetterRepositoryModel", name := "isField", desc := "(I)Z" } : MethodName)) ∈ TB := tb_8 41 rfl rfl
theorem tw_8_42 : (Cond.code ({ cls := "LetterRepositoryModel", name := "isField", desc := "(I)Z" } : MethodName) prog_12_method_12_code (1 : Nat) (some FieldType.boolean)) ∈ TB := tb_8 42 rfl rfl
theorem tw_8_43 : (Cond.constantLong "LetterRepositoryModel" (69 : Nat) (7 : Int64)) ∈ TB := tb_8 43 rfl rfl
theorem tw_8_44 : (Cond.methodLink "LetterRepositoryModel" (102 : Nat) ({ cls := "LetterRepositoryModel", name := "throwing", desc := "(I)I" } : MethodName)) ∈ TB := tb_8 44 rfl rfl
theorem tw_8_46 : (Cond.instanceMethod ({ cls := "LetterRepositoryModel", name := "throwing", desc := "(I)I" } : MethodName)) ∈ TB := tb_8 46 rfl rfl
theorem tw_8_47 : (Cond.code ({ cls := "LetterRepositoryModel", name := "throwing", desc := "(I)I" } : MethodName) prog_12_method_3_code (2 : Nat) (some FieldType.int)) ∈ TB := tb_8 47 rfl rfl
theorem tw_8_48 : (Cond.constantLong "LetterRepositoryModel" (105 : Nat) (97 : Int64)) ∈ TB := tb_8 48 rfl rfl
theorem tw_8_49 : (Cond.constantLong "LetterRepositoryModel" (107 : Nat) (122 : Int64)) ∈ TB := tb_8 49 rfl rfl
theorem tw_8_50 : (Cond.methodLink "LetterRepositoryModel" (71 : Nat) ({ cls := "LetterRepositoryModel", name := "branchAt", desc := "(I)I" } : MethodName)) ∈ TB := tb_8 50 rfl rfl
theorem tw_8_51 : (Cond.static ({ cls := "LetterRepositoryModel", name := "branchAt", desc := "(I)I" } : MethodName)) ∈ TB := tb_8 51 rfl rfl
theorem tw_8_52 : (Cond.code ({ cls := "LetterRepositoryModel", name := "branchAt", desc := "(I)I" } : MethodName) prog_12_method_8_code (1 : Nat) (some FieldType.int)) ∈ TB := tb_8 52 rfl rfl
theorem tw_8_53 : (Cond.methodLink "LetterRepositoryModel" (109 : Nat) ({ cls := "LetterRepositoryModel", name := "edits", desc := "(I)I" } : MethodName)) ∈ TB := tb_8 53 rfl rfl
theorem tw_8_55 : (Cond.instanceMethod ({ cls := "LetterRepositoryModel", name := "edits", desc := "(I)I" } : MethodName)) ∈ TB := tb_8 55 rfl rfl
theorem tw_8_56 : (Cond.code ({ cls := "LetterRepositoryModel", name := "edits", desc := "(I)I" } : MethodName) prog_12_method_17_code (4 : Nat) (some FieldType.int)) ∈ TB := tb_8 56 rfl rfl
theorem tw_8_57 : (Cond.methodLink "LetterRepositoryModel" (84 : Nat) ({ cls := "LetterRepositoryModel", name := "isEditedAt", desc := "(II)Z" } : MethodName)) ∈ TB := tb_8 57 rfl rfl
theorem tw_8_59 : (Cond.instanceMethod ({ cls := "LetterRepositoryModel", name := "isEditedAt", desc := "(II)Z" } : MethodName)) ∈ TB := tb_8 59 rfl rfl
theorem tw_8_60 : (Cond.code ({ cls := "LetterRepositoryModel", name := "isEditedAt", desc := "(II)Z" } : MethodName) prog_12_method_16_code (3 : Nat) (some FieldType.boolean)) ∈ TB := tb_8 60 rfl rfl
theorem tw_8_61 : (Cond.methodLink "LetterRepositoryModel" (74 : Nat) ({ cls := "LetterRepositoryModel", name := "work", desc := "(II)I" } : MethodName)) ∈ TB := tb_8 61 rfl rfl
theorem tw_8_63 : (Cond.instanceMethod ({ cls := "LetterRepositoryModel", name := "work", desc := "(II)I" } : MethodName)) ∈ TB := tb_8 63 rfl rfl
theorem tw_8_64 : (Cond.code ({ cls := "LetterRepositoryModel", name := "work", desc := "(II)I" } : MethodName) prog_12_method_14_code (3 : Nat) (some FieldType.int)) ∈ TB := tb_8 64 rfl rfl
theorem tw_8_65 : (Cond.methodLink "LetterRepositoryModel" (78 : Nat) ({ cls := "LetterRepositoryModel", name := "headOf", desc := "(I)I" } : MethodName)) ∈ TB := tb_8 65 rfl rfl
theorem tw_8_67 : (Cond.instanceMethod ({ cls := "LetterRepositoryModel", name := "headOf", desc := "(I)I" } : MethodName)) ∈ TB := tb_8 67 rfl rfl
theorem tw_8_68 : (Cond.code ({ cls := "LetterRepositoryModel", name := "headOf", desc := "(I)I" } : MethodName) prog_12_method_15_code (2 : Nat) (some FieldType.int)) ∈ TB := tb_8 68 rfl rfl
theorem tw_8_69 : (Cond.methodLink "LetterRepositoryModel" (81 : Nat) ({ cls := "LetterRepositoryModel", name := "letter", desc := "(II)I" } : MethodName)) ∈ TB := tb_8 69 rfl rfl
theorem tw_8_71 : (Cond.instanceMethod ({ cls := "LetterRepositoryModel", name := "letter", desc := "(II)I" } : MethodName)) ∈ TB := tb_8 71 rfl rfl
theorem tw_8_72 : (Cond.code ({ cls := "LetterRepositoryModel", name := "letter", desc := "(II)I" } : MethodName) prog_12_method_13_code (3 : Nat) (some FieldType.int)) ∈ TB := tb_8 72 rfl rfl
theorem tw_8_73 : (Cond.methodLink "LetterRepositoryModel" (65 : Nat) ({ cls := "LetterRepositoryModel", name := "revisionAt", desc := "(I)I" } : MethodName)) ∈ TB := tb_8 73 rfl rfl
theorem tw_8_74 : (Cond.static ({ cls := "LetterRepositoryModel", name := "revisionAt", desc := "(I)I" } : MethodName)) ∈ TB := tb_8 74 rfl rfl
theorem tw_8_75 : (Cond.code ({ cls := "LetterRepositoryModel", name := "revisionAt", desc := "(I)I" } : MethodName) prog_12_method_7_code (1 : Nat) (some FieldType.int)) ∈ TB := tb_8 75 rfl rfl
theorem tw_8_76 : (Cond.methodLink "LetterRepositoryModel" (119 : Nat) ({ cls := "LetterRepositoryModel", name := "changed", desc := "(I)I" } : MethodName)) ∈ TB := tb_8 76 rfl rfl
theorem tw_8_78 : (Cond.instanceMethod ({ cls := "LetterRepositoryModel", name := "changed", desc := "(I)I" } : MethodName)) ∈ TB := tb_8 78 rfl rfl
theorem tw_8_79 : (Cond.code ({ cls := "LetterRepositoryModel", name := "changed", desc := "(I)I" } : MethodName) prog_12_method_6_code (3 : Nat) (some FieldType.int)) ∈ TB := tb_8 79 rfl rfl
theorem tw_8_80 : (Cond.methodLink "LetterRepositoryLaw" (190 : Nat) ({ cls := "LetterRepositoryModel", name := "revert", desc := "(I)I" } : MethodName)) ∈ TB := tb_8 80 rfl rfl
theorem tw_8_81 : (Cond.instanceMethod ({ cls := "LetterRepositoryModel", name := "revert", desc := "(I)I" } : MethodName)) ∈ TB := tb_8 81 rfl rfl
theorem tw_8_82 : (Cond.selects "LetterRepositoryModel" ({ cls := "LetterRepositoryModel", name := "revert", desc := "(I)I" } : MethodName) ({ cls := "LetterRepositoryModel", name := "revert", desc := "(I)I" } : MethodName)) ∈ TB := tb_8 82 rfl rfl
theorem tw_8_83 : (Cond.code ({ cls := "LetterRepositoryModel", name := "revert", desc := "(I)I" } : MethodName) prog_12_method_27_code (2 : Nat) (some FieldType.int)) ∈ TB := tb_8 83 rfl rfl
theorem tw_8_84 : (Cond.methodLink "LetterRepositoryModel" (126 : Nat) ({ cls := "LetterRepositoryModel", name := "revertIt", desc := "(I)I" } : MethodName)) ∈ TB := tb_8 84 rfl rfl
theorem tw_8_86 : (Cond.instanceMethod ({ cls := "LetterRepositoryModel", name := "revertIt", desc := "(I)I" } : MethodName)) ∈ TB := tb_8 86 rfl rfl
theorem tw_8_87 : (Cond.code ({ cls := "LetterRepositoryModel", name := "revertIt", desc := "(I)I" } : MethodName) prog_12_method_26_code (3 : Nat) (some FieldType.int)) ∈ TB := tb_8 87 rfl rfl
theorem tw_8_88 : (Cond.methodLink "LetterRepositoryModel" (122 : Nat) ({ cls := "LetterRepositoryModel", name := "becomesHead", desc := "(II)V" } : MethodName)) ∈ TB := tb_8 88 rfl rfl
theorem tw_8_90 : (Cond.instanceMethod ({ cls := "LetterRepositoryModel", name := "becomesHead", desc := "(II)V" } : MethodName)) ∈ TB := tb_8 90 rfl rfl
theorem tw_8_91 : (Cond.code ({ cls := "LetterRepositoryModel", name := "becomesHead", desc := "(II)V" } : MethodName) prog_12_method_23_code (4 : Nat) (none : Option FieldType)) ∈ TB := tb_8 91 rfl rfl
theorem tw_8_92 : (Cond.methodLink "LetterRepositoryLaw" (194 : Nat) ({ cls := "LetterRepositoryModel", name := "commit", desc := "(II)I" } : MethodName)) ∈ TB := tb_8 92 rfl rfl
theorem tw_8_93 : (Cond.instanceMethod ({ cls := "LetterRepositoryModel", name := "commit", desc := "(II)I" } : MethodName)) ∈ TB := tb_8 93 rfl rfl
theorem tw_8_94 : (Cond.selects "LetterRepositoryModel" ({ cls := "LetterRepositoryModel", name := "commit", desc := "(II)I" } : MethodName) ({ cls := "LetterRepositoryModel", name := "commit", desc := "(II)I" } : MethodName)) ∈ TB := tb_8 94 rfl rfl
theorem tw_8_95 : (Cond.code ({ cls := "LetterRepositoryModel", name := "commit", desc := "(II)I" } : MethodName) prog_12_method_29_code (3 : Nat) (some FieldType.int)) ∈ TB := tb_8 95 rfl rfl
theorem tw_8_96 : (Cond.methodLink "LetterRepositoryModel" (134 : Nat) ({ cls := "LetterRepositoryModel", name := "commitIt", desc := "(II)I" } : MethodName)) ∈ TB := tb_8 96 rfl rfl
theorem tw_8_98 : (Cond.instanceMethod ({ cls := "LetterRepositoryModel", name := "commitIt", desc := "(II)I" } : MethodName)) ∈ TB := tb_8 98 rfl rfl
theorem tw_8_99 : (Cond.code ({ cls := "LetterRepositoryModel", name := "commitIt", desc := "(II)I" } : MethodName) prog_12_method_28_code (5 : Nat) (some FieldType.int)) ∈ TB := tb_8 99 rfl rfl
theorem tw_8_100 : (Cond.constantLong "LetterRepositoryModel" (129 : Nat) (9 : Int64)) ∈ TB := tb_8 100 rfl rfl
theorem tw_8_101 : (Cond.methodLink "LetterRepositoryModel" (131 : Nat) ({ cls := "LetterRepositoryModel", name := "makes", desc := "(III)I" } : MethodName)) ∈ TB := tb_8 101 rfl rfl
theorem tw_8_103 : (Cond.instanceMethod ({ cls := "LetterRepositoryModel", name := "makes", desc := "(III)I" } : MethodName)) ∈ TB := tb_8 103 rfl rfl
theorem tw_8_104 : (Cond.code ({ cls := "LetterRepositoryModel", name := "makes", desc := "(III)I" } : MethodName) prog_12_method_22_code (5 : Nat) (some FieldType.int)) ∈ TB := tb_8 104 rfl rfl
theorem tw_8_105 : (Cond.methodLink "LetterRepositoryLaw" (197 : Nat) ({ cls := "LetterRepositoryModel", name := "createBranch", desc := "(I)I" } : MethodName)) ∈ TB := tb_8 105 rfl rfl
theorem tw_8_106 : (Cond.instanceMethod ({ cls := "LetterRepositoryModel", name := "createBranch", desc := "(I)I" } : MethodName)) ∈ TB := tb_8 106 rfl rfl
theorem tw_8_107 : (Cond.selects "LetterRepositoryModel" ({ cls := "LetterRepositoryModel", name := "createBranch", desc := "(I)I" } : MethodName) ({ cls := "LetterRepositoryModel", name := "createBranch", desc := "(I)I" } : MethodName)) ∈ TB := tb_8 107 rfl rfl
theorem tw_8_108 : (Cond.code ({ cls := "LetterRepositoryModel", name := "createBranch", desc := "(I)I" } : MethodName) prog_12_method_31_code (2 : Nat) (some FieldType.int)) ∈ TB := tb_8 108 rfl rfl
theorem tw_8_109 : (Cond.methodLink "LetterRepositoryModel" (140 : Nat) ({ cls := "LetterRepositoryModel", name := "branchIt", desc := "(I)I" } : MethodName)) ∈ TB := tb_8 109 rfl rfl
theorem tw_8_111 : (Cond.instanceMethod ({ cls := "LetterRepositoryModel", name := "branchIt", desc := "(I)I" } : MethodName)) ∈ TB := tb_8 111 rfl rfl
theorem tw_8_112 : (Cond.code ({ cls := "LetterRepositoryModel", name := "branchIt", desc := "(I)I" } : MethodName) prog_12_method_30_code (2 : Nat) (some FieldType.int)) ∈ TB := tb_8 112 rfl rfl
theorem tw_8_113 : (Cond.methodLink "LetterRepositoryModel" (137 : Nat) ({ cls := "LetterRepositoryModel", name := "isOpen", desc := "(I)Z" } : MethodName)) ∈ TB := tb_8 113 rfl rfl
theorem tw_8_115 : (Cond.instanceMethod ({ cls := "LetterRepositoryModel", name := "isOpen", desc := "(I)Z" } : MethodName)) ∈ TB := tb_8 115 rfl rfl
theorem tw_8_116 : (Cond.code ({ cls := "LetterRepositoryModel", name := "isOpen", desc := "(I)Z" } : MethodName) prog_12_method_11_code (2 : Nat) (some FieldType.boolean)) ∈ TB := tb_8 116 rfl rfl
theorem tw_8_117 : (Cond.methodLink "LetterRepositoryModel" (61 : Nat) ({ cls := "LetterRepositoryModel", name := "isRevision", desc := "(I)Z" } : MethodName)) ∈ TB := tb_8 117 rfl rfl
theorem tw_8_119 : (Cond.instanceMethod ({ cls := "LetterRepositoryModel", name := "isRevision", desc := "(I)Z" } : MethodName)) ∈ TB := tb_8 119 rfl rfl
theorem tw_8_120 : (Cond.code ({ cls := "LetterRepositoryModel", name := "isRevision", desc := "(I)Z" } : MethodName) prog_12_method_9_code (2 : Nat) (some FieldType.boolean)) ∈ TB := tb_8 120 rfl rfl
theorem tw_8_121 : (Cond.methodLink "LetterRepositoryLaw" (200 : Nat) ({ cls := "LetterRepositoryModel", name := "closeBranch", desc := "(I)I" } : MethodName)) ∈ TB := tb_8 121 rfl rfl
theorem tw_8_122 : (Cond.instanceMethod ({ cls := "LetterRepositoryModel", name := "closeBranch", desc := "(I)I" } : MethodName)) ∈ TB := tb_8 122 rfl rfl
theorem tw_8_123 : (Cond.selects "LetterRepositoryModel" ({ cls := "LetterRepositoryModel", name := "closeBranch", desc := "(I)I" } : MethodName) ({ cls := "LetterRepositoryModel", name := "closeBranch", desc := "(I)I" } : MethodName)) ∈ TB := tb_8 123 rfl rfl
theorem tw_8_124 : (Cond.code ({ cls := "LetterRepositoryModel", name := "closeBranch", desc := "(I)I" } : MethodName) prog_12_method_33_code (2 : Nat) (some FieldType.int)) ∈ TB := tb_8 124 rfl rfl
theorem tw_8_125 : (Cond.methodLink "LetterRepositoryModel" (143 : Nat) ({ cls := "LetterRepositoryModel", name := "closeIt", desc := "(I)I" } : MethodName)) ∈ TB := tb_8 125 rfl rfl
theorem tw_8_127 : (Cond.instanceMethod ({ cls := "LetterRepositoryModel", name := "closeIt", desc := "(I)I" } : MethodName)) ∈ TB := tb_8 127 rfl rfl
theorem tw_8_128 : (Cond.code ({ cls := "LetterRepositoryModel", name := "closeIt", desc := "(I)I" } : MethodName) prog_12_method_32_code (3 : Nat) (some FieldType.int)) ∈ TB := tb_8 128 rfl rfl
theorem tw_8_129 : (Cond.methodLink "LetterRepositoryLaw" (203 : Nat) ({ cls := "LetterRepositoryModel", name := "merge", desc := "(II)I" } : MethodName)) ∈ TB := tb_8 129 rfl rfl
theorem tw_8_130 : (Cond.instanceMethod ({ cls := "LetterRepositoryModel", name := "merge", desc := "(II)I" } : MethodName)) ∈ TB := tb_8 130 rfl rfl
theorem tw_8_131 : (Cond.selects "LetterRepositoryModel" ({ cls := "LetterRepositoryModel", name := "merge", desc := "(II)I" } : MethodName) ({ cls := "LetterRepositoryModel", name := "merge", desc := "(II)I" } : MethodName)) ∈ TB := tb_8 131 rfl rfl
theorem tw_8_132 : (Cond.code ({ cls := "LetterRepositoryModel", name := "merge", desc := "(II)I" } : MethodName) prog_12_method_38_code (3 : Nat) (some FieldType.int)) ∈ TB := tb_8 132 rfl rfl
theorem tw_8_133 : (Cond.methodLink "LetterRepositoryModel" (158 : Nat) ({ cls := "LetterRepositoryModel", name := "mergeIt", desc := "(III)I" } : MethodName)) ∈ TB := tb_8 133 rfl rfl
theorem tw_8_135 : (Cond.instanceMethod ({ cls := "LetterRepositoryModel", name := "mergeIt", desc := "(III)I" } : MethodName)) ∈ TB := tb_8 135 rfl rfl
theorem tw_8_136 : (Cond.code ({ cls := "LetterRepositoryModel", name := "mergeIt", desc := "(III)I" } : MethodName) prog_12_method_37_code (9 : Nat) (some FieldType.int)) ∈ TB := tb_8 136 rfl rfl
theorem tw_8_137 : (Cond.methodLink "LetterRepositoryModel" (152 : Nat) ({ cls := "LetterRepositoryModel", name := "mayMerge", desc := "(II)Z" } : MethodName)) ∈ TB := tb_8 137 rfl rfl
theorem tw_8_139 : (Cond.instanceMethod ({ cls := "LetterRepositoryModel", name := "mayMerge", desc := "(II)Z" } : MethodName)) ∈ TB := tb_8 139 rfl rfl
theorem tw_8_140 : (Cond.code ({ cls := "LetterRepositoryModel", name := "mayMerge", desc := "(II)Z" } : MethodName) prog_12_method_36_code (4 : Nat) (some FieldType.boolean)) ∈ TB := tb_8 140 rfl rfl
theorem tw_8_141 : (Cond.methodLink "LetterRepositoryModel" (93 : Nat) ({ cls := "LetterRepositoryModel", name := "ancestorsOf", desc := "(I)I" } : MethodName)) ∈ TB := tb_8 141 rfl rfl
theorem tw_8_143 : (Cond.instanceMethod ({ cls := "LetterRepositoryModel", name := "ancestorsOf", desc := "(I)I" } : MethodName)) ∈ TB := tb_8 143 rfl rfl
theorem tw_8_144 : (Cond.code ({ cls := "LetterRepositoryModel", name := "ancestorsOf", desc := "(I)I" } : MethodName) prog_12_method_18_code (5 : Nat) (some FieldType.int)) ∈ TB := tb_8 144 rfl rfl
theorem tw_8_145 : (Cond.methodLink "LetterRepositoryModel" (155 : Nat) ({ cls := "LetterRepositoryModel", name := "conflicts", desc := "(II)I" } : MethodName)) ∈ TB := tb_8 145 rfl rfl
theorem tw_8_147 : (Cond.instanceMethod ({ cls := "LetterRepositoryModel", name := "conflicts", desc := "(II)I" } : MethodName)) ∈ TB := tb_8 147 rfl rfl
theorem tw_8_148 : (Cond.code ({ cls := "LetterRepositoryModel", name := "conflicts", desc := "(II)I" } : MethodName) prog_12_method_35_code (5 : Nat) (some FieldType.int)) ∈ TB := tb_8 148 rfl rfl
theorem tw_8_149 : (Cond.methodLink "LetterRepositoryModel" (149 : Nat) ({ cls := "LetterRepositoryModel", name := "merged", desc := "(III)I" } : MethodName)) ∈ TB := tb_8 149 rfl rfl
theorem tw_8_151 : (Cond.instanceMethod ({ cls := "LetterRepositoryModel", name := "merged", desc := "(III)I" } : MethodName)) ∈ TB := tb_8 151 rfl rfl
theorem tw_8_152 : (Cond.code ({ cls := "LetterRepositoryModel", name := "merged", desc := "(III)I" } : MethodName) prog_12_method_34_code (7 : Nat) (some FieldType.int)) ∈ TB := tb_8 152 rfl rfl
theorem tw_8_153 : (Cond.methodLink "LetterRepositoryModel" (146 : Nat) ({ cls := "LetterRepositoryModel", name := "common", desc := "(II)I" } : MethodName)) ∈ TB := tb_8 153 rfl rfl
theorem tw_8_155 : (Cond.instanceMethod ({ cls := "LetterRepositoryModel", name := "common", desc := "(II)I" } : MethodName)) ∈ TB := tb_8 155 rfl rfl
theorem tw_8_156 : (Cond.code ({ cls := "LetterRepositoryModel", name := "common", desc := "(II)I" } : MethodName) prog_12_method_20_code (6 : Nat) (some FieldType.int)) ∈ TB := tb_8 156 rfl rfl
theorem tw_8_157 : (Cond.methodLink "LetterRepositoryLaw" (207 : Nat) ({ cls := "LetterRepositoryModel", name := "mergeKeeping", desc := "(IIZ)I" } : MethodName)) ∈ TB := tb_8 157 rfl rfl
theorem tw_8_158 : (Cond.instanceMethod ({ cls := "LetterRepositoryModel", name := "mergeKeeping", desc := "(IIZ)I" } : MethodName)) ∈ TB := tb_8 158 rfl rfl
theorem tw_8_159 : (Cond.selects "LetterRepositoryModel" ({ cls := "LetterRepositoryModel", name := "mergeKeeping", desc := "(IIZ)I" } : MethodName) ({ cls := "LetterRepositoryModel", name := "mergeKeeping", desc := "(IIZ)I" } : MethodName)) ∈ TB := tb_8 159 rfl rfl
theorem tw_8_160 : (Cond.code ({ cls := "LetterRepositoryModel", name := "mergeKeeping", desc := "(IIZ)I" } : MethodName) prog_12_method_39_code (4 : Nat) (some FieldType.int)) ∈ TB := tb_8 160 rfl rfl
theorem tw_8_161 : (Cond.methodLink "LetterRepositoryLaw" (210 : Nat) ({ cls := "LetterRepositoryModel", name := "pick", desc := "(II)I" } : MethodName)) ∈ TB := tb_8 161 rfl rfl
theorem tw_8_162 : (Cond.instanceMethod ({ cls := "LetterRepositoryModel", name := "pick", desc := "(II)I" } : MethodName)) ∈ TB := tb_8 162 rfl rfl
theorem tw_8_163 : (Cond.selects "LetterRepositoryModel" ({ cls := "LetterRepositoryModel", name := "pick", desc := "(II)I" } : MethodName) ({ cls := "LetterRepositoryModel", name := "pick", desc := "(II)I" } : MethodName)) ∈ TB := tb_8 163 rfl rfl
theorem tw_8_164 : (Cond.code ({ cls := "LetterRepositoryModel", name := "pick", desc := "(II)I" } : MethodName) prog_12_method_42_code (3 : Nat) (some FieldType.int)) ∈ TB := tb_8 164 rfl rfl
theorem tw_8_165 : (Cond.methodLink "LetterRepositoryModel" (164 : Nat) ({ cls := "LetterRepositoryModel", name := "pickIt", desc := "(II)I" } : MethodName)) ∈ TB := tb_8 165 rfl rfl
theorem tw_8_167 : (Cond.instanceMethod ({ cls := "LetterRepositoryModel", name := "pickIt", desc := "(II)I" } : MethodName)) ∈ TB := tb_8 167 rfl rfl
theorem tw_8_168 : (Cond.code ({ cls := "LetterRepositoryModel", name := "pickIt", desc := "(II)I" } : MethodName) prog_12_method_41_code (6 : Nat) (some FieldType.int)) ∈ TB := tb_8 168 rfl rfl
theorem tw_8_169 : (Cond.methodLink "LetterRepositoryModel" (161 : Nat) ({ cls := "LetterRepositoryModel", name := "mayPick", desc := "(II)Z" } : MethodName)) ∈ TB := tb_8 169 rfl rfl
theorem tw_8_171 : (Cond.instanceMethod ({ cls := "LetterRepositoryModel", name := "mayPick", desc := "(II)Z" } : MethodName)) ∈ TB := tb_8 171 rfl rfl
theorem tw_8_172 : (Cond.code ({ cls := "LetterRepositoryModel", name := "mayPick", desc := "(II)Z" } : MethodName) prog_12_method_40_code (7 : Nat) (some FieldType.boolean)) ∈ TB := tb_8 172 rfl rfl
theorem tw_8_173 : (Cond.methodLink "LetterRepositoryLaw" (213 : Nat) ({ cls := "LetterRepositoryModel", name := "reset", desc := "(II)I" } : MethodName)) ∈ TB := tb_8 173 rfl rfl
theorem tw_8_174 : (Cond.instanceMethod ({ cls := "LetterRepositoryModel", name := "reset", desc := "(II)I" } : MethodName)) ∈ TB := tb_8 174 rfl rfl
theorem tw_8_175 : (Cond.selects "LetterRepositoryModel" ({ cls := "LetterRepositoryModel", name := "reset", desc := "(II)I" } : MethodName) ({ cls := "LetterRepositoryModel", name := "reset", desc := "(II)I" } : MethodName)) ∈ TB := tb_8 175 rfl rfl
theorem tw_8_176 : (Cond.code ({ cls := "LetterRepositoryModel", name := "reset", desc := "(II)I" } : MethodName) prog_12_method_44_code (3 : Nat) (some FieldType.int)) ∈ TB := tb_8 176 rfl rfl
theorem tw_8_177 : (Cond.methodLink "LetterRepositoryModel" (167 : Nat) ({ cls := "LetterRepositoryModel", name := "resetIt", desc := "(II)I" } : MethodName)) ∈ TB := tb_8 177 rfl rfl
theorem tw_8_179 : (Cond.instanceMethod ({ cls := "LetterRepositoryModel", name := "resetIt", desc := "(II)I" } : MethodName)) ∈ TB := tb_8 179 rfl rfl
theorem tw_8_180 : (Cond.code ({ cls := "LetterRepositoryModel", name := "resetIt", desc := "(II)I" } : MethodName) prog_12_method_43_code (4 : Nat) (some FieldType.int)) ∈ TB := tb_8 180 rfl rfl
theorem tw_8_181 : (Cond.methodLink "LetterRepositoryLaw" (217 : Nat) ({ cls := "LetterRepositoryModel", name := "addTag", desc := "(CI)I" } : MethodName)) ∈ TB := tb_8 181 rfl rfl
theorem tw_8_182 : (Cond.instanceMethod ({ cls := "LetterRepositoryModel", name := "addTag", desc := "(CI)I" } : MethodName)) ∈ TB := tb_8 182 rfl rfl
theorem tw_8_183 : (Cond.selects "LetterRepositoryModel" ({ cls := "LetterRepositoryModel", name := "addTag", desc := "(CI)I" } : MethodName) ({ cls := "LetterRepositoryModel", name := "addTag", desc := "(CI)I" } : MethodName)) ∈ TB := tb_8 183 rfl rfl
theorem tw_8_184 : (Cond.code ({ cls := "LetterRepositoryModel", name := "addTag", desc := "(CI)I" } : MethodName) prog_12_method_47_code (3 : Nat) (some FieldType.int)) ∈ TB := tb_8 184 rfl rfl
theorem tw_8_185 : (Cond.methodLink "LetterRepositoryModel" (178 : Nat) ({ cls := "LetterRepositoryModel", name := "tagIt", desc := "(II)I" } : MethodName)) ∈ TB := tb_8 185 rfl rfl
theorem tw_8_187 : (Cond.instanceMethod ({ cls := "LetterRepositoryModel", name := "tagIt", desc := "(II)I" } : MethodName)) ∈ TB := tb_8 187 rfl rfl
theorem tw_8_188 : (Cond.code ({ cls := "LetterRepositoryModel", name := "tagIt", desc := "(II)I" } : MethodName) prog_12_method_46_code (3 : Nat) (some FieldType.int)) ∈ TB := tb_8 188 rfl rfl
theorem tw_8_189 : (Cond.constantLong "LetterRepositoryModel" (170 : Nat) (65 : Int64)) ∈ TB := tb_8 189 rfl rfl
theorem tw_8_190 : (Cond.constantLong "LetterRepositoryModel" (172 : Nat) (90 : Int64)) ∈ TB := tb_8 190 rfl rfl
theorem tw_8_191 : (Cond.methodLink "LetterRepositoryModel" (174 : Nat) ({ cls := "LetterRepositoryModel", name := "tags", desc := "()I" } : MethodName)) ∈ TB := tb_8 191 rfl rfl
theorem tw_8_193 : (Cond.instanceMethod ({ cls := "LetterRepositoryModel", name := "tags", desc := "()I" } : MethodName)) ∈ TB := tb_8 193 rfl rfl
theorem tw_8_194 : (Cond.code ({ cls := "LetterRepositoryModel", name := "tags", desc := "()I" } : MethodName) prog_12_method_45_code (3 : Nat) (some FieldType.int)) ∈ TB := tb_8 194 rfl rfl
theorem tw_8_195 : (Cond.methodLink "LetterRepositoryLaw" (221 : Nat) ({ cls := "LetterRepositoryModel", name := "removeTag", desc := "(C)I" } : MethodName)) ∈ TB := tb_8 195 rfl rfl
theorem tw_8_196 : (Cond.instanceMethod ({ cls := "LetterRepositoryModel", name := "removeTag", desc := "(C)I" } : MethodName)) ∈ TB := tb_8 196 rfl rfl
theorem tw_8_197 : (Cond.selects "LetterRepositoryModel" ({ cls := "LetterRepositoryModel", name := "removeTag", desc := "(C)I" } : MethodName) ({ cls := "LetterRepositoryModel", name := "removeTag", desc := "(C)I" } : MethodName)) ∈ TB := tb_8 197 rfl rfl
theorem tw_8_198 : (Cond.code ({ cls := "LetterRepositoryModel", name := "removeTag", desc := "(C)I" } : MethodName) prog_12_method_49_code (2 : Nat) (some FieldType.int)) ∈ TB := tb_8 198 rfl rfl
theorem tw_8_199 : (Cond.methodLink "LetterRepositoryModel" (181 : Nat) ({ cls := "LetterRepositoryModel", name := "untagIt", desc := "(I)I" } : MethodName)) ∈ TB := tb_8 199 rfl rfl
theorem tw_8_201 : (Cond.instanceMethod ({ cls := "LetterRepositoryModel", name := "untagIt", desc := "(I)I" } : MethodName)) ∈ TB := tb_8 201 rfl rfl
theorem tw_8_202 : (Cond.code ({ cls := "LetterRepositoryModel", name := "untagIt", desc := "(I)I" } : MethodName) prog_12_method_48_code (3 : Nat) (some FieldType.int)) ∈ TB := tb_8 202 rfl rfl
theorem tw_8_203 : (Cond.methodLink "LetterRepositoryLaw" (225 : Nat) ({ cls := "LetterRepositoryModel", name := "archive", desc := "()I" } : MethodName)) ∈ TB := tb_8 203 rfl rfl
theorem tw_8_204 : (Cond.instanceMethod ({ cls := "LetterRepositoryModel", name := "archive", desc := "()I" } : MethodName)) ∈ TB := tb_8 204 rfl rfl
theorem tw_8_205 : (Cond.selects "LetterRepositoryModel" ({ cls := "LetterRepositoryModel", name := "archive", desc := "()I" } : MethodName) ({ cls := "LetterRepositoryModel", name := "archive", desc := "()I" } : MethodName)) ∈ TB := tb_8 205 rfl rfl
theorem tw_8_206 : (Cond.code ({ cls := "LetterRepositoryModel", name := "archive", desc := "()I" } : MethodName) prog_12_method_51_code (1 : Nat) (some FieldType.int)) ∈ TB := tb_8 206 rfl rfl
theorem tw_8_207 : (Cond.methodLink "LetterRepositoryModel" (187 : Nat) ({ cls := "LetterRepositoryModel", name := "archiveIt", desc := "()I" } : MethodName)) ∈ TB := tb_8 207 rfl rfl
theorem tw_8_209 : (Cond.instanceMethod ({ cls := "LetterRepositoryModel", name := "archiveIt", desc := "()I" } : MethodName)) ∈ TB := tb_8 209 rfl rfl
theorem tw_8_210 : (Cond.code ({ cls := "LetterRepositoryModel", name := "archiveIt", desc := "()I" } : MethodName) prog_12_method_50_code (5 : Nat) (some FieldType.int)) ∈ TB := tb_8 210 rfl rfl
theorem tw_8_211 : (Cond.methodLink "LetterRepositoryModel" (184 : Nat) ({ cls := "LetterRepositoryModel", name := "used", desc := "()I" } : MethodName)) ∈ TB := tb_8 211 rfl rfl
theorem tw_8_213 : (Cond.instanceMethod ({ cls := "LetterRepositoryModel", name := "used", desc := "()I" } : MethodName)) ∈ TB := tb_8 213 rfl rfl
theorem tw_8_214 : (Cond.code ({ cls := "LetterRepositoryModel", name := "used", desc := "()I" } : MethodName) prog_12_method_21_code (3 : Nat) (some FieldType.int)) ∈ TB := tb_8 214 rfl rfl
theorem tw_8_215 : (Cond.methodLink "LetterRepositoryLaw" (229 : Nat) ({ cls := "LetterRepositoryModel", name := "revisionCount", desc := "()I" } : MethodName)) ∈ TB := tb_8 215 rfl rfl
theorem tw_8_216 : (Cond.instanceMethod ({ cls := "LetterRepositoryModel", name := "revisionCount", desc := "()I" } : MethodName)) ∈ TB := tb_8 216 rfl rfl
theorem tw_8_217 : (Cond.selects "LetterRepositoryModel" ({ cls := "LetterRepositoryModel", name := "revisionCount", desc := "()I" } : MethodName) ({ cls := "LetterRepositoryModel", name := "revisionCount", desc := "()I" } : MethodName)) ∈ TB := tb_8 217 rfl rfl
theorem tw_8_218 : (Cond.code ({ cls := "LetterRepositoryModel", name := "revisionCount", desc := "()I" } : MethodName) prog_12_method_52_code (1 : Nat) (some FieldType.int)) ∈ TB := tb_8 218 rfl rfl
theorem tw_8_219 : (Cond.methodLink "LetterRepositoryLaw" (232 : Nat) ({ cls := "LetterRepositoryModel", name := "isArchived", desc := "(I)Z" } : MethodName)) ∈ TB := tb_8 219 rfl rfl
theorem tw_8_220 : (Cond.instanceMethod ({ cls := "LetterRepositoryModel", name := "isArchived", desc := "(I)Z" } : MethodName)) ∈ TB := tb_8 220 rfl rfl
theorem tw_8_221 : (Cond.selects "LetterRepositoryModel" ({ cls := "LetterRepositoryModel", name := "isArchived", desc := "(I)Z" } : MethodName) ({ cls := "LetterRepositoryModel", name := "isArchived", desc := "(I)Z" } : MethodName)) ∈ TB := tb_8 221 rfl rfl
theorem tw_8_222 : (Cond.code ({ cls := "LetterRepositoryModel", name := "isArchived", desc := "(I)Z" } : MethodName) prog_12_method_53_code (2 : Nat) (some FieldType.boolean)) ∈ TB := tb_8 222 rfl rfl
theorem tw_8_223 : (Cond.methodLink "LetterRepositoryLaw" (235 : Nat) ({ cls := "LetterRepositoryModel", name := "firstParent", desc := "(I)I" } : MethodName)) ∈ TB := tb_8 223 rfl rfl
theorem tw_8_224 : (Cond.instanceMethod ({ cls := "LetterRepositoryModel", name := "firstParent", desc := "(I)I" } : MethodName)) ∈ TB := tb_8 224 rfl rfl
theorem tw_8_225 : (Cond.selects "LetterRepositoryModel" ({ cls := "LetterRepositoryModel", name := "firstParent", desc := "(I)I" } : MethodName) ({ cls := "LetterRepositoryModel", name := "firstParent", desc := "(I)I" } : MethodName)) ∈ TB := tb_8 225 rfl rfl
theorem tw_8_226 : (Cond.code ({ cls := "LetterRepositoryModel", name := "firstParent", desc := "(I)I" } : MethodName) prog_12_method_55_code (2 : Nat) (some FieldType.int)) ∈ TB := tb_8 226 rfl rfl
theorem tw_8_227 : (Cond.methodLink "LetterRepositoryModel" (190 : Nat) ({ cls := "LetterRepositoryModel", name := "parent", desc := "(II)I" } : MethodName)) ∈ TB := tb_8 227 rfl rfl
theorem tw_8_229 : (Cond.instanceMethod ({ cls := "LetterRepositoryModel", name := "parent", desc := "(II)I" } : MethodName)) ∈ TB := tb_8 229 rfl rfl
theorem tw_8_230 : (Cond.code ({ cls := "LetterRepositoryModel", name := "parent", desc := "(II)I" } : MethodName) prog_12_method_54_code (4 : Nat) (some FieldType.int)) ∈ TB := tb_8 230 rfl rfl
theorem tw_8_231 : (Cond.methodLink "LetterRepositoryLaw" (238 : Nat) ({ cls := "LetterRepositoryModel", name := "secondParent", desc := "(I)I" } : MethodName)) ∈ TB := tb_8 231 rfl rfl
theorem tw_8_232 : (Cond.instanceMethod ({ cls := "LetterRepositoryModel", name := "secondParent", desc := "(I)I" } : MethodName)) ∈ TB := tb_8 232 rfl rfl
theorem tw_8_233 : (Cond.selects "LetterRepositoryModel" ({ cls := "LetterRepositoryModel", name := "secondParent", desc := "(I)I" } : MethodName) ({ cls := "LetterRepositoryModel", name := "secondParent", desc := "(I)I" } : MethodName)) ∈ TB := tb_8 233 rfl rfl
theorem tw_8_234 : (Cond.code ({ cls := "LetterRepositoryModel", name := "secondParent", desc := "(I)I" } : MethodName) prog_12_method_56_code (2 : Nat) (some FieldType.int)) ∈ TB := tb_8 234 rfl rfl
theorem tw_8_235 : (Cond.methodLink "LetterRepositoryLaw" (241 : Nat) ({ cls := "LetterRepositoryModel", name := "authorOf", desc := "(I)I" } : MethodName)) ∈ TB := tb_8 235 rfl rfl
theorem tw_8_236 : (Cond.instanceMethod ({ cls := "LetterRepositoryModel", name := "authorOf", desc := "(I)I" } : MethodName)) ∈ TB := tb_8 236 rfl rfl
theorem tw_8_237 : (Cond.selects "LetterRepositoryModel" ({ cls := "LetterRepositoryModel", name := "authorOf", desc := "(I)I" } : MethodName) ({ cls := "LetterRepositoryModel", name := "authorOf", desc := "(I)I" } : MethodName)) ∈ TB := tb_8 237 rfl rfl
theorem tw_8_238 : (Cond.code ({ cls := "LetterRepositoryModel", name := "authorOf", desc := "(I)I" } : MethodName) prog_12_method_57_code (2 : Nat) (some FieldType.int)) ∈ TB := tb_8 238 rfl rfl
theorem tw_8_239 : (Cond.methodLink "LetterRepositoryLaw" (244 : Nat) ({ cls := "LetterRepositoryModel", name := "generation", desc := "(I)I" } : MethodName)) ∈ TB := tb_8 239 rfl rfl
theorem tw_9_0 : (Cond.instanceMethod ({ cls := "LetterRepositoryModel", name := "generation", desc := "(I)I" } : MethodName)) ∈ TB := tb_9 0 rfl rfl
theorem tw_9_1 : (Cond.selects "LetterRepositoryModel" ({ cls := "LetterRepositoryModel", name := "generation", desc := "(I)I" } : MethodName) ({ cls := "LetterRepositoryModel", name := "generation", desc := "(I)I" } : MethodName)) ∈ TB := tb_9 1 rfl rfl
theorem tw_9_2 : (Cond.code ({ cls := "LetterRepositoryModel", name := "generation", desc := "(I)I" } : MethodName) prog_12_method_58_code (2 : Nat) (some FieldType.int)) ∈ TB := tb_9 2 rfl rfl
theorem tw_9_3 : (Cond.methodLink "LetterRepositoryModel" (193 : Nat) ({ cls := "LetterRepositoryModel", name := "generationOf", desc := "(I)I" } : MethodName)) ∈ TB := tb_9 3 rfl rfl
theorem tw_9_5 : (Cond.instanceMethod ({ cls := "LetterRepositoryModel", name := "generationOf", desc := "(I)I" } : MethodName)) ∈ TB := tb_9 5 rfl rfl
theorem tw_9_6 : (Cond.code ({ cls := "LetterRepositoryModel", name := "generationOf", desc := "(I)I" } : MethodName) prog_12_method_19_code (6 : Nat) (some FieldType.int)) ∈ TB := tb_9 6 rfl rfl
theorem tw_9_7 : (Cond.methodLink "LetterRepositoryModel" (88 : Nat) ({ cls := "java/lang/Math", name := "max", desc := "(II)I" } : MethodName)) ∈ TB := tb_9 7 rfl rfl
theorem tw_9_8 : (Cond.methodLink "LetterRepositoryLaw" (247 : Nat) ({ cls := "LetterRepositoryModel", name := "letterIn", desc := "(II)C" } : MethodName)) ∈ TB := tb_9 8 rfl rfl
theorem tw_9_9 : (Cond.instanceMethod ({ cls := "LetterRepositoryModel", name := "letterIn", desc := "(II)C" } : MethodName)) ∈ TB := tb_9 9 rfl rfl
theorem tw_9_10 : (Cond.selects "LetterRepositoryModel" ({ cls := "LetterRepositoryModel", name := "letterIn", desc := "(II)C" } : MethodName) ({ cls := "LetterRepositoryModel", name := "letterIn", desc := "(II)C" } : MethodName)) ∈ TB := tb_9 10 rfl rfl
theorem tw_9_11 : (Cond.code ({ cls := "LetterRepositoryModel", name := "letterIn", desc := "(II)C" } : MethodName) prog_12_method_59_code (3 : Nat) (some FieldType.char)) ∈ TB := tb_9 11 rfl rfl
theorem tw_9_12 : (Cond.methodLink "LetterRepositoryLaw" (250 : Nat) ({ cls := "LetterRepositoryModel", name := "isAncestor", desc := "(II)Z" } : MethodName)) ∈ TB := tb_9 12 rfl rfl
theorem tw_9_13 : (Cond.instanceMethod ({ cls := "LetterRepositoryModel", name := "isAncestor", desc := "(II)Z" } : MethodName)) ∈ TB := tb_9 13 rfl rfl
theorem tw_9_14 : (Cond.selects "LetterRepositoryModel" ({ cls := "LetterRepositoryModel", name := "isAncestor", desc := "(II)Z" } : MethodName) ({ cls := "LetterRepositoryModel", name := "isAncestor", desc := "(II)Z" } : MethodName)) ∈ TB := tb_9 14 rfl rfl
theorem tw_9_15 : (Cond.code ({ cls := "LetterRepositoryModel", name := "isAncestor", desc := "(II)Z" } : MethodName) prog_12_method_61_code (3 : Nat) (some FieldType.boolean)) ∈ TB := tb_9 15 rfl rfl
theorem tw_9_16 : (Cond.methodLink "LetterRepositoryModel" (196 : Nat) ({ cls := "LetterRepositoryModel", name := "asks", desc := "(II)Z" } : MethodName)) ∈ TB := tb_9 16 rfl rfl
theorem tw_9_18 : (Cond.instanceMethod ({ cls := "LetterRepositoryModel", name := "asks", desc := "(II)Z" } : MethodName)) ∈ TB := tb_9 18 rfl rfl
theorem tw_9_19 : (Cond.code ({ cls := "LetterRepositoryModel", name := "asks", desc := "(II)Z" } : MethodName) prog_12_method_60_code (3 : Nat) (some FieldType.boolean)) ∈ TB := tb_9 19 rfl rfl
theorem tw_9_20 : (Cond.methodLink "LetterRepositoryLaw" (253 : Nat) ({ cls := "LetterRepositoryModel", name := "ancestorCount", desc := "(I)I" } : MethodName)) ∈ TB := tb_9 20 rfl rfl
theorem tw_9_21 : (Cond.instanceMethod ({ cls := "LetterRepositoryModel", name := "ancestorCount", desc := "(I)I" } : MethodName)) ∈ TB := tb_9 21 rfl rfl
theorem tw_9_22 : (Cond.selects "LetterRepositoryModel" ({ cls := "LetterRepositoryModel", name := "ancestorCount", desc := "(I)I" } : MethodName) ({ cls := "LetterRepositoryModel", name := "ancestorCount", desc := "(I)I" } : MethodName)) ∈ TB := tb_9 22 rfl rfl
theorem tw_9_23 : (Cond.code ({ cls := "LetterRepositoryModel", name := "ancestorCount", desc := "(I)I" } : MethodName) prog_12_method_62_code (5 : Nat) (some FieldType.int)) ∈ TB := tb_9 23 rfl rfl
theorem tw_9_24 : (Cond.methodLink "LetterRepositoryLaw" (256 : Nat) ({ cls := "LetterRepositoryModel", name := "commonAncestor", desc := "(II)I" } : MethodName)) ∈ TB := tb_9 24 rfl rfl
theorem tw_9_25 : (Cond.instanceMethod ({ cls := "LetterRepositoryModel", name := "commonAncestor", desc := "(II)I" } : MethodName)) ∈ TB := tb_9 25 rfl rfl
theorem tw_9_26 : (Cond.selects "LetterRepositoryModel" ({ cls := "LetterRepositoryModel", name := "commonAncestor", desc := "(II)I" } : MethodName) ({ cls := "LetterRepositoryModel", name := "commonAncestor", desc := "(II)I" } : MethodName)) ∈ TB := tb_9 26 rfl rfl
theorem tw_9_27 : (Cond.code ({ cls := "LetterRepositoryModel", name := "commonAncestor", desc := "(II)I" } : MethodName) prog_12_method_63_code (3 : Nat) (some FieldType.int)) ∈ TB := tb_9 27 rfl rfl
theorem tw_9_28 : (Cond.methodLink "LetterRepositoryLaw" (259 : Nat) ({ cls := "LetterRepositoryModel", name := "commonAncestorBySets", desc := "(II)I" } : MethodName)) ∈ TB := tb_9 28 rfl rfl
theorem tw_9_29 : (Cond.instanceMethod ({ cls := "LetterRepositoryModel", name := "commonAncestorBySets", desc := "(II)I" } : MethodName)) ∈ TB := tb_9 29 rfl rfl
theorem tw_9_30 : (Cond.selects "LetterRepositoryModel" ({ cls := "LetterRepositoryModel", name := "commonAncestorBySets", desc := "(II)I" } : MethodName) ({ cls := "LetterRepositoryModel", name := "commonAncestorBySets", desc := "(II)I" } : MethodName)) ∈ TB := tb_9 30 rfl rfl
theorem tw_9_31 : (Cond.code ({ cls := "LetterRepositoryModel", name := "commonAncestorBySets", desc := "(II)I" } : MethodName) prog_12_method_64_code (3 : Nat) (some FieldType.int)) ∈ TB := tb_9 31 rfl rfl
theorem tw_9_32 : (Cond.methodLink "LetterRepositoryModel" (199 : Nat) ({ cls := "LetterRepositoryModel", name := "commonAncestor", desc := "(II)I" } : MethodName)) ∈ TB := tb_9 32 rfl rfl
theorem tw_9_33 : (Cond.methodLink "LetterRepositoryLaw" (262 : Nat) ({ cls := "LetterRepositoryModel", name := "distance", desc := "(II)I" } : MethodName)) ∈ TB := tb_9 33 rfl rfl
theorem tw_9_34 : (Cond.instanceMethod ({ cls := "LetterRepositoryModel", name := "distance", desc := "(II)I" } : MethodName)) ∈ TB := tb_9 34 rfl rfl
theorem tw_9_35 : (Cond.selects "LetterRepositoryModel" ({ cls := "LetterRepositoryModel", name := "distance", desc := "(II)I" } : MethodName) ({ cls := "LetterRepositoryModel", name := "distance", desc := "(II)I" } : MethodName)) ∈ TB := tb_9 35 rfl rfl
theorem tw_9_36 : (Cond.code ({ cls := "LetterRepositoryModel", name := "distance", desc := "(II)I" } : MethodName) prog_12_method_66_code (8 : Nat) (some FieldType.int)) ∈ TB := tb_9 36 rfl rfl
theorem tw_9_37 : (Cond.methodLink "LetterRepositoryModel" (202 : Nat) ({ cls := "LetterRepositoryModel", name := "areNext", desc := "(II)Z" } : MethodName)) ∈ TB := tb_9 37 rfl rfl
theorem tw_9_39 : (Cond.instanceMethod ({ cls := "LetterRepositoryModel", name := "areNext", desc := "(II)Z" } : MethodName)) ∈ TB := tb_9 39 rfl rfl
theorem tw_9_40 : (Cond.code ({ cls := "LetterRepositoryModel", name := "areNext", desc := "(II)Z" } : MethodName) prog_12_method_65_code (5 : Nat) (some FieldType.boolean)) ∈ TB := tb_9 40 rfl rfl
theorem tw_9_41 : (Cond.methodLink "LetterRepositoryLaw" (265 : Nat) ({ cls := "LetterRepositoryModel", name := "differences", desc := "(II)I" } : MethodName)) ∈ TB := tb_9 41 rfl rfl
theorem tw_9_42 : (Cond.instanceMethod ({ cls := "LetterRepositoryModel", name := "differences", desc := "(II)I" } : MethodName)) ∈ TB := tb_9 42 rfl rfl
theorem tw_9_43 : (Cond.selects "LetterRepositoryModel" ({ cls := "LetterRepositoryModel", name := "differences", desc := "(II)I" } : MethodName) ({ cls := "LetterRepositoryModel", name := "differences", desc := "(II)I" } : MethodName)) ∈ TB := tb_9 43 rfl rfl
theorem tw_9_44 : (Cond.code ({ cls := "LetterRepositoryModel", name := "differences", desc := "(II)I" } : MethodName) prog_12_method_67_code (5 : Nat) (some FieldType.int)) ∈ TB := tb_9 44 rfl rfl
theorem tw_9_45 : (Cond.methodLink "LetterRepositoryLaw" (268 : Nat) ({ cls := "LetterRepositoryModel", name := "originOf", desc := "(II)I" } : MethodName)) ∈ TB := tb_9 45 rfl rfl
theorem tw_9_46 : (Cond.instanceMethod ({ cls := "LetterRepositoryModel", name := "originOf", desc := "(II)I" } : MethodName)) ∈ TB := tb_9 46 rfl rfl
theorem tw_9_47 : (Cond.selects "LetterRepositoryModel" ({ cls := "LetterRepositoryModel", name := "originOf", desc := "(II)I" } : MethodName) ({ cls := "LetterRepositoryModel", name := "originOf", desc := "(II)I" } : MethodName)) ∈ TB := tb_9 47 rfl rfl
theorem tw_9_48 : (Cond.code ({ cls := "LetterRepositoryModel", name := "originOf", desc := "(II)I" } : MethodName) prog_12_method_68_code (4 : Nat) (some FieldType.int)) ∈ TB := tb_9 48 rfl rfl
theorem tw_9_49 : (Cond.methodLink "LetterRepositoryLaw" (271 : Nat) ({ cls := "LetterRepositoryModel", name := "originByRecursion", desc := "(II)I" } : MethodName)) ∈ TB := tb_9 49 rfl rfl
theorem tw_9_50 : (Cond.instanceMethod ({ cls := "LetterRepositoryModel", name := "originByRecursion", desc := "(II)I" } : MethodName)) ∈ TB := tb_9 50 rfl rfl
theorem tw_9_51 : (Cond.selects "LetterRepositoryModel" ({ cls := "LetterRepositoryModel", name := "originByRecursion", desc := "(II)I" } : MethodName) ({ cls := "LetterRepositoryModel", name := "originByRecursion", desc := "(II)I" } : MethodName)) ∈ TB := tb_9 51 rfl rfl
theorem tw_9_52 : (Cond.code ({ cls := "LetterRepositoryModel", name := "originByRecursion", desc := "(II)I" } : MethodName) prog_12_method_69_code (3 : Nat) (some FieldType.int)) ∈ TB := tb_9 52 rfl rfl
theorem tw_9_53 : (Cond.methodLink "LetterRepositoryModel" (205 : Nat) ({ cls := "LetterRepositoryModel", name := "originOf", desc := "(II)I" } : MethodName)) ∈ TB := tb_9 53 rfl rfl
theorem tw_9_54 : (Cond.methodLink "LetterRepositoryLaw" (274 : Nat) ({ cls := "LetterRepositoryModel", name := "revisionsBy", desc := "(I)I" } : MethodName)) ∈ TB := tb_9 54 rfl rfl
theorem tw_9_55 : (Cond.instanceMethod ({ cls := "LetterRepositoryModel", name := "revisionsBy", desc := "(I)I" } : MethodName)) ∈ TB := tb_9 55 rfl rfl
theorem tw_9_56 : (Cond.selects "LetterRepositoryModel" ({ cls := "LetterRepositoryModel", name := "revisionsBy", desc := "(I)I" } : MethodName) ({ cls := "LetterRepositoryModel", name := "revisionsBy", desc := "(I)I" } : MethodName)) ∈ TB := tb_9 56 rfl rfl
theorem tw_9_57 : (Cond.code ({ cls := "LetterRepositoryModel", name := "revisionsBy", desc := "(I)I" } : MethodName) prog_12_method_71_code (2 : Nat) (some FieldType.int)) ∈ TB := tb_9 57 rfl rfl
theorem tw_9_58 : (Cond.methodLink "LetterRepositoryModel" (208 : Nat) ({ cls := "LetterRepositoryModel", name := "manyBy", desc := "(I)I" } : MethodName)) ∈ TB := tb_9 58 rfl rfl
theorem tw_9_60 : (Cond.instanceMethod ({ cls := "LetterRepositoryModel", name := "manyBy", desc := "(I)I" } : MethodName)) ∈ TB := tb_9 60 rfl rfl
theorem tw_9_61 : (Cond.code ({ cls := "LetterRepositoryModel", name := "manyBy", desc := "(I)I" } : MethodName) prog_12_method_70_code (4 : Nat) (some FieldType.int)) ∈ TB := tb_9 61 rfl rfl
theorem tw_9_62 : (Cond.methodLink "LetterRepositoryLaw" (278 : Nat) ({ cls := "LetterRepositoryModel", name := "busiestAuthor", desc := "()I" } : MethodName)) ∈ TB := tb_9 62 rfl rfl
theorem tw_9_63 : (Cond.instanceMethod ({ cls := "LetterRepositoryModel", name := "busiestAuthor", desc := "()I" } : MethodName)) ∈ TB := tb_9 63 rfl rfl
theorem tw_9_64 : (Cond.selects "LetterRepositoryModel" ({ cls := "LetterRepositoryModel", name := "busiestAuthor", desc := "()I" } : MethodName) ({ cls := "LetterRepositoryModel", name := "busiestAuthor", desc := "()I" } : MethodName)) ∈ TB := tb_9 64 rfl rfl
theorem tw_9_65 : (Cond.code ({ cls := "LetterRepositoryModel", name := "busiestAuthor", desc := "()I" } : MethodName) prog_12_method_72_code (3 : Nat) (some FieldType.int)) ∈ TB := tb_9 65 rfl rfl
theorem tw_9_66 : (Cond.methodLink "LetterRepositoryLaw" (282 : Nat) ({ cls := "LetterRepositoryModel", name := "branchCount", desc := "()I" } : MethodName)) ∈ TB := tb_9 66 rfl rfl
theorem tw_9_67 : (Cond.instanceMethod ({ cls := "LetterRepositoryModel", name := "branchCount", desc := "()I" } : MethodName)) ∈ TB := tb_9 67 rfl rfl
theorem tw_9_68 : (Cond.selects "LetterRepositoryModel" ({ cls := "LetterRepositoryModel", name := "branchCount", desc := "()I" } : MethodName) ({ cls := "LetterRepositoryModel", name := "branchCount", desc := "()I" } : MethodName)) ∈ TB := tb_9 68 rfl rfl
theorem tw_9_69 : (Cond.code ({ cls := "LetterRepositoryModel", name := "branchCount", desc := "()I" } : MethodName) prog_12_method_73_code (1 : Nat) (some FieldType.int)) ∈ TB := tb_9 69 rfl rfl
theorem tw_9_70 : (Cond.methodLink "LetterRepositoryLaw" (285 : Nat) ({ cls := "LetterRepositoryModel", name := "head", desc := "(I)I" } : MethodName)) ∈ TB := tb_9 70 rfl rfl
theorem tw_9_71 : (Cond.instanceMethod ({ cls := "LetterRepositoryModel", name := "head", desc := "(I)I" } : MethodName)) ∈ TB := tb_9 71 rfl rfl
theorem tw_9_72 : (Cond.selects "LetterRepositoryModel" ({ cls := "LetterRepositoryModel", name := "head", desc := "(I)I" } : MethodName) ({ cls := "LetterRepositoryModel", name := "head", desc := "(I)I" } : MethodName)) ∈ TB := tb_9 72 rfl rfl
theorem tw_9_73 : (Cond.code ({ cls := "LetterRepositoryModel", name := "head", desc := "(I)I" } : MethodName) prog_12_method_74_code (2 : Nat) (some FieldType.int)) ∈ TB := tb_9 73 rfl rfl
theorem tw_9_74 : (Cond.methodLink "LetterRepositoryLaw" (288 : Nat) ({ cls := "LetterRepositoryModel", name := "letterAt", desc := "(II)C" } : MethodName)) ∈ TB := tb_9 74 rfl rfl
theorem tw_9_75 : (Cond.instanceMethod ({ cls := "LetterRepositoryModel", name := "letterAt", desc := "(II)C" } : MethodName)) ∈ TB := tb_9 75 rfl rfl
theorem tw_9_76 : (Cond.selects "LetterRepositoryModel" ({ cls := "LetterRepositoryModel", name := "letterAt", desc := "(II)C" } : MethodName) ({ cls := "LetterRepositoryModel", name := "letterAt", desc := "(II)C" } : MethodName)) ∈ TB := tb_9 76 rfl rfl
theorem tw_9_77 : (Cond.code ({ cls := "LetterRepositoryModel", name := "letterAt", desc := "(II)C" } : MethodName) prog_12_method_75_code (3 : Nat) (some FieldType.char)) ∈ TB := tb_9 77 rfl rfl
theorem tw_9_78 : (Cond.methodLink "LetterRepositoryLaw" (291 : Nat) ({ cls := "LetterRepositoryModel", name := "isEdited", desc := "(II)Z" } : MethodName)) ∈ TB := tb_9 78 rfl rfl
theorem tw_9_79 : (Cond.instanceMethod ({ cls := "LetterRepositoryModel", name := "isEdited", desc := "(II)Z" } : MethodName)) ∈ TB := tb_9 79 rfl rfl
theorem tw_9_80 : (Cond.selects "LetterRepositoryModel" ({ cls := "LetterRepositoryModel", name := "isEdited", desc := "(II)Z" } : MethodName) ({ cls := "LetterRepositoryModel", name := "isEdited", desc := "(II)Z" } : MethodName)) ∈ TB := tb_9 80 rfl rfl
theorem tw_9_81 : (Cond.code ({ cls := "LetterRepositoryModel", name := "isEdited", desc := "(II)Z" } : MethodName) prog_12_method_76_code (3 : Nat) (some FieldType.boolean)) ∈ TB := tb_9 81 rfl rfl
theorem tw_9_82 : (Cond.methodLink "LetterRepositoryLaw" (294 : Nat) ({ cls := "LetterRepositoryModel", name := "editCount", desc := "(I)I" } : MethodName)) ∈ TB := tb_9 82 rfl rfl
theorem tw_9_83 : (Cond.instanceMethod ({ cls := "LetterRepositoryModel", name := "editCount", desc := "(I)I" } : MethodName)) ∈ TB := tb_9 83 rfl rfl
theorem tw_9_84 : (Cond.selects "LetterRepositoryModel" ({ cls := "LetterRepositoryModel", name := "editCount", desc := "(I)I" } : MethodName) ({ cls := "LetterRepositoryModel", name := "editCount", desc := "(I)I" } : MethodName)) ∈ TB := tb_9 84 rfl rfl
theorem tw_9_85 : (Cond.code ({ cls := "LetterRepositoryModel", name := "editCount", desc := "(I)I" } : MethodName) prog_12_method_77_code (2 : Nat) (some FieldType.int)) ∈ TB := tb_9 85 rfl rfl
theorem tw_9_86 : (Cond.methodLink "LetterRepositoryLaw" (297 : Nat) ({ cls := "LetterRepositoryModel", name := "branchByHead", desc := "(I)I" } : MethodName)) ∈ TB := tb_9 86 rfl rfl
theorem tw_9_87 : (Cond.instanceMethod ({ cls := "LetterRepositoryModel", name := "branchByHead", desc := "(I)I" } : MethodName)) ∈ TB := tb_9 87 rfl rfl
theorem tw_9_88 : (Cond.selects "LetterRepositoryModel" ({ cls := "LetterRepositoryModel", name := "branchByHead", desc := "(I)I" } : MethodName) ({ cls := "LetterRepositoryModel", name := "branchByHead", desc := "(I)I" } : MethodName)) ∈ TB := tb_9 88 rfl rfl
theorem tw_9_89 : (Cond.code ({ cls := "LetterRepositoryModel", name := "branchByHead", desc := "(I)I" } : MethodName) prog_12_method_78_code (6 : Nat) (some FieldType.int)) ∈ TB := tb_9 89 rfl rfl
theorem tw_9_90 : (Cond.methodLink "LetterRepositoryLaw" (300 : Nat) ({ cls := "LetterRepositoryModel", name := "conflictCount", desc := "(II)I" } : MethodName)) ∈ TB := tb_9 90 rfl rfl
theorem tw_9_91 : (Cond.instanceMethod ({ cls := "LetterRepositoryModel", name := "conflictCount", desc := "(II)I" } : MethodName)) ∈ TB := tb_9 91 rfl rfl
theorem tw_9_92 : (Cond.selects "LetterRepositoryModel" ({ cls := "LetterRepositoryModel", name := "conflictCount", desc := "(II)I" } : MethodName) ({ cls := "LetterRepositoryModel", name := "conflictCount", desc := "(II)I" } : MethodName)) ∈ TB := tb_9 92 rfl rfl
theorem tw_9_93 : (Cond.code ({ cls := "LetterRepositoryModel", name := "conflictCount", desc := "(II)I" } : MethodName) prog_12_method_80_code (3 : Nat) (some FieldType.int)) ∈ TB := tb_9 93 rfl rfl
theorem tw_9_94 : (Cond.methodLink "LetterRepositoryModel" (211 : Nat) ({ cls := "LetterRepositoryModel", name := "asksMerge", desc := "(II)Z" } : MethodName)) ∈ TB := tb_9 94 rfl rfl
theorem tw_9_96 : (Cond.instanceMethod ({ cls := "LetterRepositoryModel", name := "asksMerge", desc := "(II)Z" } : MethodName)) ∈ TB := tb_9 96 rfl rfl
theorem tw_9_97 : (Cond.code ({ cls := "LetterRepositoryModel", name := "asksMerge", desc := "(II)Z" } : MethodName) prog_12_method_79_code (3 : Nat) (some FieldType.boolean)) ∈ TB := tb_9 97 rfl rfl
theorem tw_9_98 : (Cond.methodLink "LetterRepositoryLaw" (304 : Nat) ({ cls := "LetterRepositoryModel", name := "conflictAt", desc := "(III)I" } : MethodName)) ∈ TB := tb_9 98 rfl rfl
theorem tw_9_99 : (Cond.instanceMethod ({ cls := "LetterRepositoryModel", name := "conflictAt", desc := "(III)I" } : MethodName)) ∈ TB := tb_9 99 rfl rfl
theorem tw_9_100 : (Cond.selects "LetterRepositoryModel" ({ cls := "LetterRepositoryModel", name := "conflictAt", desc := "(III)I" } : MethodName) ({ cls := "LetterRepositoryModel", name := "conflictAt", desc := "(III)I" } : MethodName)) ∈ TB := tb_9 100 rfl rfl
theorem tw_9_101 : (Cond.code ({ cls := "LetterRepositoryModel", name := "conflictAt", desc := "(III)I" } : MethodName) prog_12_method_81_code (6 : Nat) (some FieldType.int)) ∈ TB := tb_9 101 rfl rfl
theorem tw_9_102 : (Cond.methodLink "LetterRepositoryLaw" (307 : Nat) ({ cls := "LetterRepositoryModel", name := "canMerge", desc := "(II)Z" } : MethodName)) ∈ TB := tb_9 102 rfl rfl
theorem tw_9_103 : (Cond.instanceMethod ({ cls := "LetterRepositoryModel", name := "canMerge", desc := "(II)Z" } : MethodName)) ∈ TB := tb_9 103 rfl rfl
theorem tw_9_104 : (Cond.selects "LetterRepositoryModel" ({ cls := "LetterRepositoryModel", name := "canMerge", desc := "(II)Z" } : MethodName) ({ cls := "LetterRepositoryModel", name := "canMerge", desc := "(II)Z" } : MethodName)) ∈ TB := tb_9 104 rfl rfl
theorem tw_9_105 : (Cond.code ({ cls := "LetterRepositoryModel", name := "canMerge", desc := "(II)Z" } : MethodName) prog_12_method_82_code (3 : Nat) (some FieldType.boolean)) ∈ TB := tb_9 105 rfl rfl
theorem tw_9_106 : (Cond.methodLink "LetterRepositoryLaw" (310 : Nat) ({ cls := "LetterRepositoryModel", name := "mergedLetter", desc := "(III)C" } : MethodName)) ∈ TB := tb_9 106 rfl rfl
theorem tw_9_107 : (Cond.instanceMethod ({ cls := "LetterRepositoryModel", name := "mergedLetter", desc := "(III)C" } : MethodName)) ∈ TB := tb_9 107 rfl rfl
theorem tw_9_108 : (Cond.selects "LetterRepositoryModel" ({ cls := "LetterRepositoryModel", name := "mergedLetter", desc := "(III)C" } : MethodName) ({ cls := "LetterRepositoryModel", name := "mergedLetter", desc := "(III)C" } : MethodName)) ∈ TB := tb_9 108 rfl rfl
theorem tw_9_109 : (Cond.code ({ cls := "LetterRepositoryModel", name := "mergedLetter", desc := "(III)C" } : MethodName) prog_12_method_83_code (5 : Nat) (some FieldType.char)) ∈ TB := tb_9 109 rfl rfl
theorem tw_9_110 : (Cond.methodLink "LetterRepositoryLaw" (313 : Nat) ({ cls := "LetterRepositoryModel", name := "canPick", desc := "(II)Z" } : MethodName)) ∈ TB := tb_9 110 rfl rfl
theorem tw_9_111 : (Cond.instanceMethod ({ cls := "LetterRepositoryModel", name := "canPick", desc := "(II)Z" } : MethodName)) ∈ TB := tb_9 111 rfl rfl
theorem tw_9_112 : (Cond.selects "LetterRepositoryModel" ({ cls := "LetterRepositoryModel", name := "canPick", desc := "(II)Z" } : MethodName) ({ cls := "LetterRepositoryModel", name := "canPick", desc := "(II)Z" } : MethodName)) ∈ TB := tb_9 112 rfl rfl
theorem tw_9_113 : (Cond.code ({ cls := "LetterRepositoryModel", name := "canPick", desc := "(II)Z" } : MethodName) prog_12_method_84_code (3 : Nat) (some FieldType.boolean)) ∈ TB := tb_9 113 rfl rfl
theorem tw_9_114 : (Cond.methodLink "LetterRepositoryLaw" (317 : Nat) ({ cls := "LetterRepositoryModel", name := "tagCount", desc := "()I" } : MethodName)) ∈ TB := tb_9 114 rfl rfl
theorem tw_9_115 : (Cond.instanceMethod ({ cls := "LetterRepositoryModel", name := "tagCount", desc := "()I" } : MethodName)) ∈ TB := tb_9 115 rfl rfl
theorem tw_9_116 : (Cond.selects "LetterRepositoryModel" ({ cls := "LetterRepositoryModel", name := "tagCount", desc := "()I" } : MethodName) ({ cls := "LetterRepositoryModel", name := "tagCount", desc := "()I" } : MethodName)) ∈ TB := tb_9 116 rfl rfl
theorem tw_9_117 : (Cond.code ({ cls := "LetterRepositoryModel", name := "tagCount", desc := "()I" } : MethodName) prog_12_method_85_code (1 : Nat) (some FieldType.int)) ∈ TB := tb_9 117 rfl rfl
theorem tw_9_118 : (Cond.methodLink "LetterRepositoryLaw" (320 : Nat) ({ cls := "LetterRepositoryModel", name := "taggedRevision", desc := "(C)I" } : MethodName)) ∈ TB := tb_9 118 rfl rfl
theorem tw_9_119 : (Cond.instanceMethod ({ cls := "LetterRepositoryModel", name := "taggedRevision", desc := "(C)I" } : MethodName)) ∈ TB := tb_9 119 rfl rfl
theorem tw_9_120 : (Cond.selects "LetterRepositoryModel" ({ cls := "LetterRepositoryModel", name := "taggedRevision", desc := "(C)I" } : MethodName) ({ cls := "LetterRepositoryModel", name := "taggedRevision", desc := "(C)I" } : MethodName)) ∈ TB := tb_9 120 rfl rfl
theorem tw_9_121 : (Cond.code ({ cls := "LetterRepositoryModel", name := "taggedRevision", desc := "(C)I" } : MethodName) prog_12_method_86_code (2 : Nat) (some FieldType.int)) ∈ TB := tb_9 121 rfl rfl
theorem tw_9_122 : (Cond.methodLink "LetterRepositoryLaw" (323 : Nat) ({ cls := "LetterRepositoryModel", name := "tagOf", desc := "(I)C" } : MethodName)) ∈ TB := tb_9 122 rfl rfl
theorem tw_9_123 : (Cond.instanceMethod ({ cls := "LetterRepositoryModel", name := "tagOf", desc := "(I)C" } : MethodName)) ∈ TB := tb_9 123 rfl rfl
theorem tw_9_124 : (Cond.selects "LetterRepositoryModel" ({ cls := "LetterRepositoryModel", name := "tagOf", desc := "(I)C" } : MethodName) ({ cls := "LetterRepositoryModel", name := "tagOf", desc := "(I)C" } : MethodName)) ∈ TB := tb_9 124 rfl rfl
theorem tw_9_125 : (Cond.code ({ cls := "LetterRepositoryModel", name := "tagOf", desc := "(I)C" } : MethodName) prog_12_method_87_code (3 : Nat) (some FieldType.char)) ∈ TB := tb_9 125 rfl rfl
theorem tw_9_126 : (Cond.methodLink "LetterRepositoryLaw" (327 : Nat) ({ cls := "LetterRepositoryModel", name := "usedCount", desc := "()I" } : MethodName)) ∈ TB := tb_9 126 rfl rfl
theorem tw_9_127 : (Cond.instanceMethod ({ cls := "LetterRepositoryModel", name := "usedCount", desc := "()I" } : MethodName)) ∈ TB := tb_9 127 rfl rfl
theorem tw_9_128 : (Cond.selects "LetterRepositoryModel" ({ cls := "LetterRepositoryModel", name := "usedCount", desc := "()I" } : MethodName) ({ cls := "LetterRepositoryModel", name := "usedCount", desc := "()I" } : MethodName)) ∈ TB := tb_9 128 rfl rfl
theorem tw_9_129 : (Cond.code ({ cls := "LetterRepositoryModel", name := "usedCount", desc := "()I" } : MethodName) prog_12_method_88_code (4 : Nat) (some FieldType.int)) ∈ TB := tb_9 129 rfl rfl
theorem tw_9_130 : (Cond.methodLink "LetterRepositoryLaw" (331 : Nat) ({ cls := "LetterRepositoryModel", name := "usedCountByMarks", desc := "()I" } : MethodName)) ∈ TB := tb_9 130 rfl rfl
theorem tw_9_131 : (Cond.instanceMethod ({ cls := "LetterRepositoryModel", name := "usedCountByMarks", desc := "()I" } : MethodName)) ∈ TB := tb_9 131 rfl rfl
theorem tw_9_132 : (Cond.selects "LetterRepositoryModel" ({ cls := "LetterRepositoryModel", name := "usedCountByMarks", desc := "()I" } : MethodName) ({ cls := "LetterRepositoryModel", name := "usedCountByMarks", desc := "()I" } : MethodName)) ∈ TB := tb_9 132 rfl rfl
theorem tw_9_133 : (Cond.code ({ cls := "LetterRepositoryModel", name := "usedCountByMarks", desc := "()I" } : MethodName) prog_12_method_89_code (1 : Nat) (some FieldType.int)) ∈ TB := tb_9 133 rfl rfl
theorem tw_9_134 : (Cond.methodLink "LetterRepositoryModel" (214 : Nat) ({ cls := "LetterRepositoryModel", name := "usedCount", desc := "()I" } : MethodName)) ∈ TB := tb_9 134 rfl rfl
theorem tw_9_135 : (Cond.methodLink "LetterRepositoryLaw" (336 : Nat) ({ cls := "LetterRepositoryModel", name := "meanGeneration", desc := "()D" } : MethodName)) ∈ TB := tb_9 135 rfl rfl
theorem tw_9_136 : (Cond.instanceMethod ({ cls := "LetterRepositoryModel", name := "meanGeneration", desc := "()D" } : MethodName)) ∈ TB := tb_9 136 rfl rfl
theorem tw_9_137 : (Cond.selects "LetterRepositoryModel" ({ cls := "LetterRepositoryModel", name := "meanGeneration", desc := "()D" } : MethodName) ({ cls := "LetterRepositoryModel", name := "meanGeneration", desc := "()D" } : MethodName)) ∈ TB := tb_9 137 rfl rfl
theorem tw_9_138 : (Cond.code ({ cls := "LetterRepositoryModel", name := "meanGeneration", desc := "()D" } : MethodName) prog_12_method_90_code (3 : Nat) (some FieldType.double)) ∈ TB := tb_9 138 rfl rfl
theorem tw_9_139 : (Cond.methodLink "LetterRepositoryLaw" (341 : Nat) ({ cls := "LetterRepositoryModel", name := "archivedShare", desc := "()F" } : MethodName)) ∈ TB := tb_9 139 rfl rfl
theorem tw_9_140 : (Cond.instanceMethod ({ cls := "LetterRepositoryModel", name := "archivedShare", desc := "()F" } : MethodName)) ∈ TB := tb_9 140 rfl rfl
theorem tw_9_141 : (Cond.selects "LetterRepositoryModel" ({ cls := "LetterRepositoryModel", name := "archivedShare", desc := "()F" } : MethodName) ({ cls := "LetterRepositoryModel", name := "archivedShare", desc := "()F" } : MethodName)) ∈ TB := tb_9 141 rfl rfl
theorem tw_9_142 : (Cond.code ({ cls := "LetterRepositoryModel", name := "archivedShare", desc := "()F" } : MethodName) prog_12_method_91_code (3 : Nat) (some FieldType.float)) ∈ TB := tb_9 142 rfl rfl
theorem tw_9_143 : (Cond.methodLink "LetterRepositoryLaw" (346 : Nat) ({ cls := "LetterRepositoryModel", name := "isConsistent", desc := "()Z" } : MethodName)) ∈ TB := tb_9 143 rfl rfl
theorem tw_9_144 : (Cond.instanceMethod ({ cls := "LetterRepositoryModel", name := "isConsistent", desc := "()Z" } : MethodName)) ∈ TB := tb_9 144 rfl rfl
theorem tw_9_145 : (Cond.selects "LetterRepositoryModel" ({ cls := "LetterRepositoryModel", name := "isConsistent", desc := "()Z" } : MethodName) ({ cls := "LetterRepositoryModel", name := "isConsistent", desc := "()Z" } : MethodName)) ∈ TB := tb_9 145 rfl rfl
theorem tw_9_146 : (Cond.code ({ cls := "LetterRepositoryModel", name := "isConsistent", desc := "()Z" } : MethodName) prog_12_method_92_code (1 : Nat) (some FieldType.boolean)) ∈ TB := tb_9 146 rfl rfl
theorem tw_9_147 : (Cond.methodLink "LetterRepositoryLaw" (349 : Nat) ({ cls := "LetterRepositoryModel", name := "formatRevision", desc := "(I)I" } : MethodName)) ∈ TB := tb_9 147 rfl rfl
theorem tw_9_148 : (Cond.instanceMethod ({ cls := "LetterRepositoryModel", name := "formatRevision", desc := "(I)I" } : MethodName)) ∈ TB := tb_9 148 rfl rfl
theorem tw_9_149 : (Cond.selects "LetterRepositoryModel" ({ cls := "LetterRepositoryModel", name := "formatRevision", desc := "(I)I" } : MethodName) ({ cls := "LetterRepositoryModel", name := "formatRevision", desc := "(I)I" } : MethodName)) ∈ TB := tb_9 149 rfl rfl
theorem tw_9_150 : (Cond.code ({ cls := "LetterRepositoryModel", name := "formatRevision", desc := "(I)I" } : MethodName) prog_12_method_95_code (4 : Nat) (some FieldType.int)) ∈ TB := tb_9 150 rfl rfl
theorem tw_9_151 : (Cond.methodLink "LetterRepositoryModel" (220 : Nat) ({ cls := "LetterRepositoryModel", name := "sign", desc := "(I)V" } : MethodName)) ∈ TB := tb_9 151 rfl rfl
theorem tw_9_153 : (Cond.instanceMethod ({ cls := "LetterRepositoryModel", name := "sign", desc := "(I)V" } : MethodName)) ∈ TB := tb_9 153 rfl rfl
theorem tw_9_154 : (Cond.code ({ cls := "LetterRepositoryModel", name := "sign", desc := "(I)V" } : MethodName) prog_12_method_93_code (2 : Nat) (none : Option FieldType)) ∈ TB := tb_9 154 rfl rfl
theorem tw_9_155 : (Cond.methodLink "LetterRepositoryModel" (224 : Nat) ({ cls := "LetterRepositoryModel", name := "writesNumber", desc := "(I)V" } : MethodName)) ∈ TB := tb_9 155 rfl rfl
theorem tw_9_157 : (Cond.instanceMethod ({ cls := "LetterRepositoryModel", name := "writesNumber", desc := "(I)V" } : MethodName)) ∈ TB := tb_9 157 rfl rfl
theorem tw_9_158 : (Cond.code ({ cls := "LetterRepositoryModel", name := "writesNumber", desc := "(I)V" } : MethodName) prog_12_method_94_code (2 : Nat) (none : Option FieldType)) ∈ TB := tb_9 158 rfl rfl
theorem tw_9_159 : (Cond.methodLink "LetterRepositoryLaw" (352 : Nat) ({ cls := "LetterRepositoryModel", name := "formatBranch", desc := "(I)I" } : MethodName)) ∈ TB := tb_9 159 rfl rfl
theorem tw_9_160 : (Cond.instanceMethod ({ cls := "LetterRepositoryModel", name := "formatBranch", desc := "(I)I" } : MethodName)) ∈ TB := tb_9 160 rfl rfl
theorem tw_9_161 : (Cond.selects "LetterRepositoryModel" ({ cls := "LetterRepositoryModel", name := "formatBranch", desc := "(I)I" } : MethodName) ({ cls := "LetterRepositoryModel", name := "formatBranch", desc := "(I)I" } : MethodName)) ∈ TB := tb_9 161 rfl rfl
theorem tw_9_162 : (Cond.code ({ cls := "LetterRepositoryModel", name := "formatBranch", desc := "(I)I" } : MethodName) prog_12_method_96_code (3 : Nat) (some FieldType.int)) ∈ TB := tb_9 162 rfl rfl
theorem tw_9_163 : (Cond.methodLink "LetterRepositoryLaw" (355 : Nat) ({ cls := "LetterRepositoryModel", name := "formatMerge", desc := "(II)I" } : MethodName)) ∈ TB := tb_9 163 rfl rfl
theorem tw_9_164 : (Cond.instanceMethod ({ cls := "LetterRepositoryModel", name := "formatMerge", desc := "(II)I" } : MethodName)) ∈ TB := tb_9 164 rfl rfl
theorem tw_9_165 : (Cond.selects "LetterRepositoryModel" ({ cls := "LetterRepositoryModel", name := "formatMerge", desc := "(II)I" } : MethodName) ({ cls := "LetterRepositoryModel", name := "formatMerge", desc := "(II)I" } : MethodName)) ∈ TB := tb_9 165 rfl rfl
theorem tw_9_166 : (Cond.code ({ cls := "LetterRepositoryModel", name := "formatMerge", desc := "(II)I" } : MethodName) prog_12_method_97_code (5 : Nat) (some FieldType.int)) ∈ TB := tb_9 166 rfl rfl
theorem tw_9_167 : (Cond.methodLink "LetterRepositoryLaw" (358 : Nat) ({ cls := "LetterRepositoryModel", name := "lineChar", desc := "(I)C" } : MethodName)) ∈ TB := tb_9 167 rfl rfl
theorem tw_9_168 : (Cond.instanceMethod ({ cls := "LetterRepositoryModel", name := "lineChar", desc := "(I)C" } : MethodName)) ∈ TB := tb_9 168 rfl rfl
theorem tw_9_169 : (Cond.selects "LetterRepositoryModel" ({ cls := "LetterRepositoryModel", name := "lineChar", desc := "(I)C" } : MethodName) ({ cls := "LetterRepositoryModel", name := "lineChar", desc := "(I)C" } : MethodName)) ∈ TB := tb_9 169 rfl rfl
theorem tw_9_170 : (Cond.code ({ cls := "LetterRepositoryModel", name := "lineChar", desc := "(I)C" } : MethodName) prog_12_method_98_code (2 : Nat) (some FieldType.char)) ∈ TB := tb_9 170 rfl rfl
theorem tw_9_171 : (Cond.methodLink "LetterRepositoryLaw" (361 : Nat) ({ cls := "LetterRepositoryModel", name := "append", desc := "(C)I" } : MethodName)) ∈ TB := tb_9 171 rfl rfl
theorem tw_9_172 : (Cond.instanceMethod ({ cls := "LetterRepositoryModel", name := "append", desc := "(C)I" } : MethodName)) ∈ TB := tb_9 172 rfl rfl
theorem tw_9_173 : (Cond.selects "LetterRepositoryModel" ({ cls := "LetterRepositoryModel", name := "append", desc := "(C)I" } : MethodName) ({ cls := "LetterRepositoryModel", name := "append", desc := "(C)I" } : MethodName)) ∈ TB := tb_9 173 rfl rfl
theorem tw_9_174 : (Cond.code ({ cls := "LetterRepositoryModel", name := "append", desc := "(C)I" } : MethodName) prog_12_method_99_code (2 : Nat) (some FieldType.int)) ∈ TB := tb_9 174 rfl rfl
theorem tw_9_175 : (Cond.constantLong "LetterRepositoryModel" (227 : Nat) (32 : Int64)) ∈ TB := tb_9 175 rfl rfl
theorem tw_9_176 : (Cond.constantLong "LetterRepositoryModel" (229 : Nat) (126 : Int64)) ∈ TB := tb_9 176 rfl rfl
theorem tw_9_177 : (Cond.methodLink "LetterRepositoryLaw" (365 : Nat) ({ cls := "LetterRepositoryModel", name := "run", desc := "()I" } : MethodName)) ∈ TB := tb_9 177 rfl rfl
theorem tw_9_178 : (Cond.instanceMethod ({ cls := "LetterRepositoryModel", name := "run", desc := "()I" } : MethodName)) ∈ TB := tb_9 178 rfl rfl
theorem tw_9_179 : (Cond.selects "LetterRepositoryModel" ({ cls := "LetterRepositoryModel", name := "run", desc := "()I" } : MethodName) ({ cls := "LetterRepositoryModel", name := "run", desc := "()I" } : MethodName)) ∈ TB := tb_9 179 rfl rfl
theorem tw_9_180 : (Cond.code ({ cls := "LetterRepositoryModel", name := "run", desc := "()I" } : MethodName) prog_12_method_110_code (4 : Nat) (some FieldType.int)) ∈ TB := tb_9 180 rfl rfl
theorem tw_9_181 : (Cond.methodLink "LetterRepositoryModel" (275 : Nat) ({ cls := "LetterRepositoryModel", name := "readCommand", desc := "()V" } : MethodName)) ∈ TB := tb_9 181 rfl rfl
theorem tw_9_183 : (Cond.instanceMethod ({ cls := "LetterRepositoryModel", name := "readCommand", desc := "()V" } : MethodName)) ∈ TB := tb_9 183 rfl rfl
theorem tw_9_184 : (Cond.code ({ cls := "LetterRepositoryModel", name := "readCommand", desc := "()V" } : MethodName) prog_12_method_108_code (4 : Nat) (none : Option FieldType)) ∈ TB := tb_9 184 rfl rfl
theorem tw_9_185 : (Cond.methodLink "LetterRepositoryModel" (269 : Nat) ({ cls := "LetterRepositoryModel", name := "likeness", desc := "(I)I" } : MethodName)) ∈ TB := tb_9 185 rfl rfl
theorem tw_9_187 : (Cond.instanceMethod ({ cls := "LetterRepositoryModel", name := "likeness", desc := "(I)I" } : MethodName)) ∈ TB := tb_9 187 rfl rfl
theorem tw_9_188 : (Cond.code ({ cls := "LetterRepositoryModel", name := "likeness", desc := "(I)I" } : MethodName) prog_12_method_106_code (4 : Nat) (some FieldType.int)) ∈ TB := tb_9 188 rfl rfl
theorem tw_9_189 : (Cond.methodLink "LetterRepositoryModel" (272 : Nat) ({ cls := "LetterRepositoryModel", name := "readArguments", desc := "(II)V" } : MethodName)) ∈ TB := tb_9 189 rfl rfl
theorem tw_9_191 : (Cond.instanceMethod ({ cls := "LetterRepositoryModel", name := "readArguments", desc := "(II)V" } : MethodName)) ∈ TB := tb_9 191 rfl rfl
theorem tw_9_192 : (Cond.code ({ cls := "LetterRepositoryModel", name := "readArguments", desc := "(II)V" } : MethodName) prog_12_method_107_code (3 : Nat) (none : Option FieldType)) ∈ TB := tb_9 192 rfl rfl
theorem tw_9_193 : (Cond.methodLink "LetterRepositoryModel" (250 : Nat) ({ cls := "LetterRepositoryModel", name := "digit", desc := "()I" } : MethodName)) ∈ TB := tb_9 193 rfl rfl
theorem tw_9_195 : (Cond.instanceMethod ({ cls := "LetterRepositoryModel", name := "digit", desc := "()I" } : MethodName)) ∈ TB := tb_9 195 rfl rfl
theorem tw_9_196 : (Cond.code ({ cls := "LetterRepositoryModel", name := "digit", desc := "()I" } : MethodName) prog_12_method_102_code (1 : Nat) (some FieldType.int)) ∈ TB := tb_9 196 rfl rfl
theorem tw_9_197 : (Cond.methodLink "LetterRepositoryModel" (247 : Nat) ({ cls := "LetterRepositoryModel", name := "one", desc := "(II)I" } : MethodName)) ∈ TB := tb_9 197 rfl rfl
theorem tw_9_199 : (Cond.instanceMethod ({ cls := "LetterRepositoryModel", name := "one", desc := "(II)I" } : MethodName)) ∈ TB := tb_9 199 rfl rfl
theorem tw_9_200 : (Cond.code ({ cls := "LetterRepositoryModel", name := "one", desc := "(II)I" } : MethodName) prog_12_method_101_code (4 : Nat) (some FieldType.int)) ∈ TB := tb_9 200 rfl rfl
theorem tw_9_201 : (Cond.methodLink "LetterRepositoryModel" (244 : Nat) ({ cls := "LetterRepositoryModel", name := "here", desc := "()I" } : MethodName)) ∈ TB := tb_9 201 rfl rfl
theorem tw_9_203 : (Cond.instanceMethod ({ cls := "LetterRepositoryModel", name := "here", desc := "()I" } : MethodName)) ∈ TB := tb_9 203 rfl rfl
theorem tw_9_204 : (Cond.code ({ cls := "LetterRepositoryModel", name := "here", desc := "()I" } : MethodName) prog_12_method_100_code (1 : Nat) (some FieldType.int)) ∈ TB := tb_9 204 rfl rfl
theorem tw_9_205 : (Cond.methodLink "LetterRepositoryModel" (260 : Nat) ({ cls := "LetterRepositoryModel", name := "digitBehind", desc := "()I" } : MethodName)) ∈ TB := tb_9 205 rfl rfl
theorem tw_9_207 : (Cond.instanceMethod ({ cls := "LetterRepositoryModel", name := "digitBehind", desc := "()I" } : MethodName)) ∈ TB := tb_9 207 rfl rfl
theorem tw_9_208 : (Cond.code ({ cls := "LetterRepositoryModel", name := "digitBehind", desc := "()I" } : MethodName) prog_12_method_105_code (1 : Nat) (some FieldType.int)) ∈ TB := tb_9 208 rfl rfl
theorem tw_9_209 : (Cond.methodLink "LetterRepositoryModel" (257 : Nat) ({ cls := "LetterRepositoryModel", name := "number", desc := "()I" } : MethodName)) ∈ TB := tb_9 209 rfl rfl
theorem tw_9_211 : (Cond.instanceMethod ({ cls := "LetterRepositoryModel", name := "number", desc := "()I" } : MethodName)) ∈ TB := tb_9 211 rfl rfl
theorem tw_9_212 : (Cond.code ({ cls := "LetterRepositoryModel", name := "number", desc := "()I" } : MethodName) prog_12_method_103_code (2 : Nat) (some FieldType.int)) ∈ TB := tb_9 212 rfl rfl
theorem tw_9_213 : (Cond.constantLong "LetterRepositoryModel" (253 : Nat) (48 : Int64)) ∈ TB := tb_9 213 rfl rfl
theorem tw_9_214 : (Cond.constantLong "LetterRepositoryModel" (255 : Nat) (57 : Int64)) ∈ TB := tb_9 214 rfl rfl
theorem tw_9_215 : (Cond.methodLink "LetterRepositoryModel" (263 : Nat) ({ cls := "LetterRepositoryModel", name := "numberBehind", desc := "()I" } : MethodName)) ∈ TB := tb_9 215 rfl rfl
theorem tw_9_217 : (Cond.instanceMethod ({ cls := "LetterRepositoryModel", name := "numberBehind", desc := "()I" } : MethodName)) ∈ TB := tb_9 217 rfl rfl
theorem tw_9_218 : (Cond.code ({ cls := "LetterRepositoryModel", name := "numberBehind", desc := "()I" } : MethodName) prog_12_method_104_code (1 : Nat) (some FieldType.int)) ∈ TB := tb_9 218 rfl rfl
theorem tw_9_219 : (Cond.methodLink "LetterRepositoryModel" (278 : Nat) ({ cls := "LetterRepositoryModel", name := "does", desc := "(I)V" } : MethodName)) ∈ TB := tb_9 219 rfl rfl
theorem tw_9_221 : (Cond.instanceMethod ({ cls := "LetterRepositoryModel", name := "does", desc := "(I)V" } : MethodName)) ∈ TB := tb_9 221 rfl rfl
theorem tw_9_222 : (Cond.code ({ cls := "LetterRepositoryModel", name := "does", desc := "(I)V" } : MethodName) prog_12_method_109_code (4 : Nat) (none : Option FieldType)) ∈ TB := tb_9 222 rfl rfl
theorem tw_9_223 : (Cond.methodLink "LetterRepositoryLaw" (368 : Nat) ({ cls := "LetterRepositoryModel", name := "errorPosition", desc := "()I" } : MethodName)) ∈ TB := tb_9 223 rfl rfl
theorem tw_9_224 : (Cond.instanceMethod ({ cls := "LetterRepositoryModel", name := "errorPosition", desc := "()I" } : MethodName)) ∈ TB := tb_9 224 rfl rfl
theorem tw_9_225 : (Cond.selects "LetterRepositoryModel" ({ cls := "LetterRepositoryModel", name := "errorPosition", desc := "()I" } : MethodName) ({ cls := "LetterRepositoryModel", name := "errorPosition", desc := "()I" } : MethodName)) ∈ TB := tb_9 225 rfl rfl
theorem tw_9_226 : (Cond.code ({ cls := "LetterRepositoryModel", name := "errorPosition", desc := "()I" } : MethodName) prog_12_method_111_code (1 : Nat) (some FieldType.int)) ∈ TB := tb_9 226 rfl rfl
theorem tw_9_227 : (Cond.methodLink "LetterRepositoryLaw" (371 : Nat) ({ cls := "LetterRepositoryModel", name := "failedCommand", desc := "()I" } : MethodName)) ∈ TB := tb_9 227 rfl rfl
theorem tw_9_228 : (Cond.instanceMethod ({ cls := "LetterRepositoryModel", name := "failedCommand", desc := "()I" } : MethodName)) ∈ TB := tb_9 228 rfl rfl
theorem tw_9_229 : (Cond.selects "LetterRepositoryModel" ({ cls := "LetterRepositoryModel", name := "failedCommand", desc := "()I" } : MethodName) ({ cls := "LetterRepositoryModel", name := "failedCommand", desc := "()I" } : MethodName)) ∈ TB := tb_9 229 rfl rfl
theorem tw_9_230 : (Cond.code ({ cls := "LetterRepositoryModel", name := "failedCommand", desc := "()I" } : MethodName) prog_12_method_112_code (1 : Nat) (some FieldType.int)) ∈ TB := tb_9 230 rfl rfl
theorem tw_9_231 : (Cond.methodLink "LetterRepositoryLaw" (375 : Nat) ({ cls := "LetterRepositoryModel", name := "undoableCount", desc := "()I" } : MethodName)) ∈ TB := tb_9 231 rfl rfl
theorem tw_9_232 : (Cond.instanceMethod ({ cls := "LetterRepositoryModel", name := "undoableCount", desc := "()I" } : MethodName)) ∈ TB := tb_9 232 rfl rfl
theorem tw_9_233 : (Cond.selects "LetterRepositoryModel" ({ cls := "LetterRepositoryModel", name := "undoableCount", desc := "()I" } : MethodName) ({ cls := "LetterRepositoryModel", name := "undoableCount", desc := "()I" } : MethodName)) ∈ TB := tb_9 233 rfl rfl
theorem tw_9_234 : (Cond.code ({ cls := "LetterRepositoryModel", name := "undoableCount", desc := "()I" } : MethodName) prog_12_method_113_code (1 : Nat) (some FieldType.int)) ∈ TB := tb_9 234 rfl rfl
theorem tw_9_235 : (Cond.methodLink "LetterRepositoryLaw" (378 : Nat) ({ cls := "LetterRepositoryModel", name := "undo", desc := "()I" } : MethodName)) ∈ TB := tb_9 235 rfl rfl
theorem tw_9_236 : (Cond.instanceMethod ({ cls := "LetterRepositoryModel", name := "undo", desc := "()I" } : MethodName)) ∈ TB := tb_9 236 rfl rfl
theorem tw_9_237 : (Cond.selects "LetterRepositoryModel" ({ cls := "LetterRepositoryModel", name := "undo", desc := "()I" } : MethodName) ({ cls := "LetterRepositoryModel", name := "undo", desc := "()I" } : MethodName)) ∈ TB := tb_9 237 rfl rfl
theorem tw_9_238 : (Cond.code ({ cls := "LetterRepositoryModel", name := "undo", desc := "()I" } : MethodName) prog_12_method_114_code (2 : Nat) (some FieldType.int)) ∈ TB := tb_9 238 rfl rfl
theorem tw_9_239 : (Cond.methodLink "LetterRepositoryLaw" (382 : Nat) ({ cls := "LetterRepositoryModel", name := "save", desc := "()I" } : MethodName)) ∈ TB := tb_9 239 rfl rfl
theorem tw_10_0 : (Cond.instanceMethod ({ cls := "LetterRepositoryModel", name := "save", desc := "()I" } : MethodName)) ∈ TB := tb_10 0 rfl rfl
theorem tw_10_1 : (Cond.selects "LetterRepositoryModel" ({ cls := "LetterRepositoryModel", name := "save", desc := "()I" } : MethodName) ({ cls := "LetterRepositoryModel", name := "save", desc := "()I" } : MethodName)) ∈ TB := tb_10 1 rfl rfl
theorem tw_10_2 : (Cond.code ({ cls := "LetterRepositoryModel", name := "save", desc := "()I" } : MethodName) prog_12_method_115_code (2 : Nat) (some FieldType.int)) ∈ TB := tb_10 2 rfl rfl
theorem tw_10_3 : (Cond.methodLink "LetterRepositoryLaw" (385 : Nat) ({ cls := "LetterRepositoryModel", name := "restore", desc := "()I" } : MethodName)) ∈ TB := tb_10 3 rfl rfl
theorem tw_10_4 : (Cond.instanceMethod ({ cls := "LetterRepositoryModel", name := "restore", desc := "()I" } : MethodName)) ∈ TB := tb_10 4 rfl rfl
theorem tw_10_5 : (Cond.selects "LetterRepositoryModel" ({ cls := "LetterRepositoryModel", name := "restore", desc := "()I" } : MethodName) ({ cls := "LetterRepositoryModel", name := "restore", desc := "()I" } : MethodName)) ∈ TB := tb_10 5 rfl rfl
theorem tw_10_6 : (Cond.code ({ cls := "LetterRepositoryModel", name := "restore", desc := "()I" } : MethodName) prog_12_method_116_code (2 : Nat) (some FieldType.int)) ∈ TB := tb_10 6 rfl rfl
theorem tw_10_7 : (Cond.arrayClass FieldType.long) ∈ TB := tb_10 7 rfl rfl
theorem tw_10_8 : (Cond.sameMethod "java/lang/Throwable" "java/lang/Throwable" "fillInStackTrace" "(I)Ljava/lang/Throwable;") ∈ TB := tb_10 8 rfl rfl
theorem tw_10_9 : (Cond.sameMethod "java/lang/AbstractStringBuilder" "java/lang/AbstractStringBuilder" "setLength" "(I)V") ∈ TB := tb_10 9 rfl rfl
theorem tw_10_10 : (Cond.sameMethod "java/lang/AbstractStringBuilder" "java/lang/AbstractStringBuilder" "append" "(Ljava/lang/String;)Ljava/lang/AbstractStringBuilder;") ∈ TB := tb_10 10 rfl rfl
theorem tw_10_11 : (Cond.sameMethod "java/lang/AbstractStringBuilder" "java/lang/AbstractStringBuilder" "appendNull" "()Ljava/lang/AbstractStringBuilder;") ∈ TB := tb_10 11 rfl rfl
theorem tw_10_12 : (Cond.sameMethod "java/lang/AbstractStringBuilder" "java/lang/AbstractStringBuilder" "ensureCapacityInternal" "(I)V") ∈ TB := tb_10 12 rfl rfl
theorem tw_10_13 : (Cond.sameMethod "java/lang/AbstractStringBuilder" "java/lang/AbstractStringBuilder" "newCapacity" "(I)I") ∈ TB := tb_10 13 rfl rfl
theorem tw_10_14 : (Cond.sameMethod "java/lang/AbstractStringBuilder" "java/lang/AbstractStringBuilder" "putStringAt" "(ILjava/lang/String;)V") ∈ TB := tb_10 14 rfl rfl
theorem tw_10_15 : (Cond.sameMethod "java/lang/AbstractStringBuilder" "java/lang/AbstractStringBuilder" "inflateIfNeededFor" "(Ljava/lang/String;)V") ∈ TB := tb_10 15 rfl rfl
theorem tw_10_16 : (Cond.sameMethod "java/lang/AbstractStringBuilder" "java/lang/AbstractStringBuilder" "inflate" "()V") ∈ TB := tb_10 16 rfl rfl
theorem tw_10_17 : (Cond.sameMethod "java/lang/AbstractStringBuilder" "java/lang/AbstractStringBuilder" "append" "(I)Ljava/lang/AbstractStringBuilder;") ∈ TB := tb_10 17 rfl rfl
theorem tw_10_18 : (Cond.sameMethod "java/lang/AbstractStringBuilder" "java/lang/AbstractStringBuilder" "append" "(C)Ljava/lang/AbstractStringBuilder;") ∈ TB := tb_10 18 rfl rfl
theorem tw_10_19 : (Cond.selects "java/lang/StringBuilder" ({ cls := "java/lang/StringBuilder", name := "length", desc := "()I" } : MethodName) ({ cls := "java/lang/StringBuilder", name := "length", desc := "()I" } : MethodName)) ∈ TB := tb_10 19 rfl rfl
theorem tw_10_20 : (Cond.sameMethod "java/lang/AbstractStringBuilder" "java/lang/AbstractStringBuilder" "charAt" "(I)C") ∈ TB := tb_10 20 rfl rfl
theorem tw_10_21 : (Cond.castable "java/lang/ArrayIndexOutOfBoundsException" "java/lang/IndexOutOfBoundsException") ∈ NB := nb_10 21 rfl rfl
theorem tw_10_22 : (Cond.castable "java/lang/StringIndexOutOfBoundsException" "java/lang/IndexOutOfBoundsException") ∈ NB := nb_10 22 rfl rfl
theorem tw_10_23 : (Cond.castable "LetterRepository" "java/lang/Object") ∈ NB := nb_10 23 rfl rfl
theorem tw_10_24 : (Cond.castable "LetterRepository$Store" "java/lang/Object") ∈ NB := nb_10 24 rfl rfl
theorem tw_10_25 : (Cond.castable "LetterRepository$Revisions" "java/lang/Object") ∈ NB := nb_10 25 rfl rfl
theorem tw_10_26 : (Cond.castable "LetterRepository$Row" "java/lang/Object") ∈ NB := nb_10 26 rfl rfl
theorem tw_10_27 : (Cond.castable "LetterRepository$History" "java/lang/Object") ∈ NB := nb_10 27 rfl rfl
theorem tw_10_28 : (Cond.castable "LetterRepository$Program" "java/lang/Object") ∈ NB := nb_10 28 rfl rfl
theorem tw_10_29 : (Cond.castable "LetterRepository$Command" "java/lang/Object") ∈ NB := nb_10 29 rfl rfl
theorem tw_10_30 : (Cond.castable "LetterRepository$Kind" "java/lang/Object") ∈ NB := nb_10 30 rfl rfl
theorem tw_10_31 : (Cond.castable "java/lang/StringBuilder" "java/lang/Object") ∈ NB := nb_10 31 rfl rfl
theorem tw_10_32 : (Cond.castable "LetterRepositoryModel" "java/lang/Object") ∈ NB := nb_10 32 rfl rfl
theorem tw_10_33 : (Cond.castable "LetterRepository$Refusal" "java/lang/Object") ∈ NB := nb_10 33 rfl rfl
theorem tw_10_34 : (Cond.castable "java/lang/IndexOutOfBoundsException" "java/lang/Object") ∈ NB := nb_10 34 rfl rfl
theorem tw_10_35 : (Cond.castable "java/lang/IllegalArgumentException" "java/lang/Object") ∈ NB := nb_10 35 rfl rfl
theorem tw_10_36 : (Cond.castable "java/util/NoSuchElementException" "java/lang/Object") ∈ NB := nb_10 36 rfl rfl
theorem tw_10_37 : (Cond.castable "java/lang/IllegalStateException" "java/lang/Object") ∈ NB := nb_10 37 rfl rfl
theorem tw_10_38 : (Cond.castable "java/lang/StringIndexOutOfBoundsException" "java/lang/Object") ∈ NB := nb_10 38 rfl rfl
theorem tw_10_39 : (Cond.castable "java/lang/String" "java/lang/Object") ∈ NB := nb_10 39 rfl rfl
theorem tw_10_40 : (Cond.castable "java/lang/ArrayIndexOutOfBoundsException" "java/lang/Object") ∈ NB := nb_10 40 rfl rfl
theorem tw_10_41 : (Cond.castable "java/lang/Throwable" "java/lang/Object") ∈ NB := nb_10 41 rfl rfl
theorem tw_10_42 : (Cond.fieldLinkNest "LetterRepository$Program" (61 : Nat) "LetterRepository$Kind" "form" "Ljava/lang/String;" "LetterRepository") ∈ NB := nb_10 42 rfl rfl
theorem tw_10_43 : (Cond.fieldLink "java/lang/Enum" (7 : Nat) "java/lang/Enum" "ordinal" "I") ∈ TB := tb_10 43 rfl rfl
theorem tp_0 : Cond.selects "LetterRepository" ⟨"LetterRepository", "remember", "()V"⟩ ⟨"LetterRepository", "remember", "()V"⟩ ∈ TB := tb_sel (List.mem_of_getElem? (i := 0) rfl) rfl
theorem tp_1 : Cond.selects "LetterRepository$History" ⟨"LetterRepository$History", "slotAt", "(I)LLetterRepository$Store;"⟩ ⟨"LetterRepository$History", "slotAt", "(I)LLetterRepository$Store;"⟩ ∈ TB := tb_sel (List.mem_of_getElem? (i := 1) rfl) rfl
theorem tp_2 : Cond.selects "LetterRepository$Revisions" ⟨"LetterRepository$Revisions", "inherits", "(II)Z"⟩ ⟨"LetterRepository$Revisions", "inherits", "(II)Z"⟩ ∈ TB := tb_sel (List.mem_of_getElem? (i := 2) rfl) rfl
theorem tp_3 : Cond.selects "java/lang/Throwable" ⟨"java/lang/Throwable", "fillInStackTrace", "(I)Ljava/lang/Throwable;"⟩ ⟨"java/lang/Throwable", "fillInStackTrace", "(I)Ljava/lang/Throwable;"⟩ ∈ TB := tb_sel (List.mem_of_getElem? (i := 3) rfl) rfl
theorem tp_4 : Cond.selects "LetterRepository$Store" ⟨"LetterRepository$Store", "putWorking", "(III)V"⟩ ⟨"LetterRepository$Store", "putWorking", "(III)V"⟩ ∈ TB := tb_sel (List.mem_of_getElem? (i := 4) rfl) rfl
theorem tp_5 : Cond.selects "LetterRepository$Store" ⟨"LetterRepository$Store", "checkOut", "(II)V"⟩ ⟨"LetterRepository$Store", "checkOut", "(II)V"⟩ ∈ TB := tb_sel (List.mem_of_getElem? (i := 5) rfl) rfl
theorem tp_6 : Cond.selects "LetterRepository$Store" ⟨"LetterRepository$Store", "blocksPicking", "(II)Z"⟩ ⟨"LetterRepository$Store", "blocksPicking", "(II)Z"⟩ ∈ TB := tb_sel (List.mem_of_getElem? (i := 6) rfl) rfl
theorem tp_7 : Cond.selects "LetterRepository$Store" ⟨"LetterRepository$Store", "isChanged", "(II)Z"⟩ ⟨"LetterRepository$Store", "isChanged", "(II)Z"⟩ ∈ TB := tb_sel (List.mem_of_getElem? (i := 7) rfl) rfl
theorem tp_8 : Cond.selects "LetterRepository" ⟨"LetterRepository", "requireRevision", "(I)V"⟩ ⟨"LetterRepository", "requireRevision", "(I)V"⟩ ∈ TB := tb_sel (List.mem_of_getElem? (i := 8) rfl) rfl
theorem tp_9 : Cond.selects "LetterRepository$Revisions" ⟨"LetterRepository$Revisions", "withNeighbours", "(I)I"⟩ ⟨"LetterRepository$Revisions", "withNeighbours", "(I)I"⟩ ∈ TB := tb_sel (List.mem_of_getElem? (i := 9) rfl) rfl
theorem tp_10 : Cond.selects "LetterRepository" ⟨"LetterRepository", "requireBranch", "(I)V"⟩ ⟨"LetterRepository", "requireBranch", "(I)V"⟩ ∈ TB := tb_sel (List.mem_of_getElem? (i := 10) rfl) rfl
theorem tp_11 : Cond.selects "LetterRepository$Store" ⟨"LetterRepository$Store", "comesBefore", "(II)Z"⟩ ⟨"LetterRepository$Store", "comesBefore", "(II)Z"⟩ ∈ TB := tb_sel (List.mem_of_getElem? (i := 11) rfl) rfl
theorem tp_12 : Cond.selects "LetterRepository" ⟨"LetterRepository", "requirePair", "(II)V"⟩ ⟨"LetterRepository", "requirePair", "(II)V"⟩ ∈ TB := tb_sel (List.mem_of_getElem? (i := 12) rfl) rfl
theorem tp_13 : Cond.selects "LetterRepository" ⟨"LetterRepository", "appendParent", "(Ljava/lang/String;I)V"⟩ ⟨"LetterRepository", "appendParent", "(Ljava/lang/String;I)V"⟩ ∈ TB := tb_sel (List.mem_of_getElem? (i := 13) rfl) rfl
theorem tp_14 : Cond.selects "LetterRepository$Program" ⟨"LetterRepository$Program", "readCommand", "(Ljava/lang/StringBuilder;)Z"⟩ ⟨"LetterRepository$Program", "readCommand", "(Ljava/lang/StringBuilder;)Z"⟩ ∈ TB := tb_sel (List.mem_of_getElem? (i := 14) rfl) rfl
theorem tp_15 : Cond.selects "LetterRepository$Program" ⟨"LetterRepository$Program", "readForm", "(LLetterRepository$Kind;Ljava/lang/StringBuilder;)Z"⟩ ⟨"LetterRepository$Program", "readForm", "(LLetterRepository$Kind;Ljava/lang/StringBuilder;)Z"⟩ ∈ TB := tb_sel (List.mem_of_getElem? (i := 15) rfl) rfl
theorem tp_16 : Cond.selects "LetterRepository$Program" ⟨"LetterRepository$Program", "readSign", "(CLjava/lang/StringBuilder;LLetterRepository$Command;)Z"⟩ ⟨"LetterRepository$Program", "readSign", "(CLjava/lang/StringBuilder;LLetterRepository$Command;)Z"⟩ ∈ TB := tb_sel (List.mem_of_getElem? (i := 16) rfl) rfl
theorem tp_17 : Cond.selects "LetterRepository$Program" ⟨"LetterRepository$Program", "signAt", "(Ljava/lang/StringBuilder;)I"⟩ ⟨"LetterRepository$Program", "signAt", "(Ljava/lang/StringBuilder;)I"⟩ ∈ TB := tb_sel (List.mem_of_getElem? (i := 17) rfl) rfl
theorem tp_18 : Cond.selects "LetterRepository$Program" ⟨"LetterRepository$Program", "numberFrom", "(ILjava/lang/StringBuilder;)I"⟩ ⟨"LetterRepository$Program", "numberFrom", "(ILjava/lang/StringBuilder;)I"⟩ ∈ TB := tb_sel (List.mem_of_getElem? (i := 18) rfl) rfl
theorem tp_19 : Cond.selects "LetterRepository$Program" ⟨"LetterRepository$Program", "readSemicolon", "(Ljava/lang/StringBuilder;)Z"⟩ ⟨"LetterRepository$Program", "readSemicolon", "(Ljava/lang/StringBuilder;)Z"⟩ ∈ TB := tb_sel (List.mem_of_getElem? (i := 19) rfl) rfl
theorem tp_20 : Cond.selects "LetterRepositoryModel" ⟨"LetterRepositoryModel", "starts", "()V"⟩ ⟨"LetterRepositoryModel", "starts", "()V"⟩ ∈ TB := tb_sel (List.mem_of_getElem? (i := 20) rfl) rfl
theorem tp_21 : Cond.selects "LetterRepositoryModel" ⟨"LetterRepositoryModel", "editIt", "(III)I"⟩ ⟨"LetterRepositoryModel", "editIt", "(III)I"⟩ ∈ TB := tb_sel (List.mem_of_getElem? (i := 21) rfl) rfl
theorem tp_22 : Cond.selects "LetterRepositoryModel" ⟨"LetterRepositoryModel", "isBranch", "(I)Z"⟩ ⟨"LetterRepositoryModel", "isBranch", "(I)Z"⟩ ∈ TB := tb_sel (List.mem_of_getElem? (i := 22) rfl) rfl
theorem tp_23 : Cond.selects "LetterRepositoryModel" ⟨"LetterRepositoryModel", "throwing", "(I)I"⟩ ⟨"LetterRepositoryModel", "throwing", "(I)I"⟩ ∈ TB := tb_sel (List.mem_of_getElem? (i := 23) rfl) rfl
theorem tp_24 : Cond.selects "LetterRepositoryModel" ⟨"LetterRepositoryModel", "edits", "(I)I"⟩ ⟨"LetterRepositoryModel", "edits", "(I)I"⟩ ∈ TB := tb_sel (List.mem_of_getElem? (i := 24) rfl) rfl
theorem tp_25 : Cond.selects "LetterRepositoryModel" ⟨"LetterRepositoryModel", "isEditedAt", "(II)Z"⟩ ⟨"LetterRepositoryModel", "isEditedAt", "(II)Z"⟩ ∈ TB := tb_sel (List.mem_of_getElem? (i := 25) rfl) rfl
theorem tp_26 : Cond.selects "LetterRepositoryModel" ⟨"LetterRepositoryModel", "work", "(II)I"⟩ ⟨"LetterRepositoryModel", "work", "(II)I"⟩ ∈ TB := tb_sel (List.mem_of_getElem? (i := 26) rfl) rfl
theorem tp_27 : Cond.selects "LetterRepositoryModel" ⟨"LetterRepositoryModel", "headOf", "(I)I"⟩ ⟨"LetterRepositoryModel", "headOf", "(I)I"⟩ ∈ TB := tb_sel (List.mem_of_getElem? (i := 27) rfl) rfl
theorem tp_28 : Cond.selects "LetterRepositoryModel" ⟨"LetterRepositoryModel", "letter", "(II)I"⟩ ⟨"LetterRepositoryModel", "letter", "(II)I"⟩ ∈ TB := tb_sel (List.mem_of_getElem? (i := 28) rfl) rfl
theorem tp_29 : Cond.selects "LetterRepositoryModel" ⟨"LetterRepositoryModel", "changed", "(I)I"⟩ ⟨"LetterRepositoryModel", "changed", "(I)I"⟩ ∈ TB := tb_sel (List.mem_of_getElem? (i := 29) rfl) rfl
theorem tp_30 : Cond.selects "LetterRepositoryModel" ⟨"LetterRepositoryModel", "revertIt", "(I)I"⟩ ⟨"LetterRepositoryModel", "revertIt", "(I)I"⟩ ∈ TB := tb_sel (List.mem_of_getElem? (i := 30) rfl) rfl
theorem tp_31 : Cond.selects "LetterRepositoryModel" ⟨"LetterRepositoryModel", "becomesHead", "(II)V"⟩ ⟨"LetterRepositoryModel", "becomesHead", "(II)V"⟩ ∈ TB := tb_sel (List.mem_of_getElem? (i := 31) rfl) rfl
theorem tp_32 : Cond.selects "LetterRepositoryModel" ⟨"LetterRepositoryModel", "commitIt", "(II)I"⟩ ⟨"LetterRepositoryModel", "commitIt", "(II)I"⟩ ∈ TB := tb_sel (List.mem_of_getElem? (i := 32) rfl) rfl
theorem tp_33 : Cond.selects "LetterRepositoryModel" ⟨"LetterRepositoryModel", "makes", "(III)I"⟩ ⟨"LetterRepositoryModel", "makes", "(III)I"⟩ ∈ TB := tb_sel (List.mem_of_getElem? (i := 33) rfl) rfl
theorem tp_34 : Cond.selects "LetterRepositoryModel" ⟨"LetterRepositoryModel", "branchIt", "(I)I"⟩ ⟨"LetterRepositoryModel", "branchIt", "(I)I"⟩ ∈ TB := tb_sel (List.mem_of_getElem? (i := 34) rfl) rfl
theorem tp_35 : Cond.selects "LetterRepositoryModel" ⟨"LetterRepositoryModel", "isOpen", "(I)Z"⟩ ⟨"LetterRepositoryModel", "isOpen", "(I)Z"⟩ ∈ TB := tb_sel (List.mem_of_getElem? (i := 35) rfl) rfl
theorem tp_36 : Cond.selects "LetterRepositoryModel" ⟨"LetterRepositoryModel", "isRevision", "(I)Z"⟩ ⟨"LetterRepositoryModel", "isRevision", "(I)Z"⟩ ∈ TB := tb_sel (List.mem_of_getElem? (i := 36) rfl) rfl
theorem tp_37 : Cond.selects "LetterRepositoryModel" ⟨"LetterRepositoryModel", "closeIt", "(I)I"⟩ ⟨"LetterRepositoryModel", "closeIt", "(I)I"⟩ ∈ TB := tb_sel (List.mem_of_getElem? (i := 37) rfl) rfl
theorem tp_38 : Cond.selects "LetterRepositoryModel" ⟨"LetterRepositoryModel", "mergeIt", "(III)I"⟩ ⟨"LetterRepositoryModel", "mergeIt", "(III)I"⟩ ∈ TB := tb_sel (List.mem_of_getElem? (i := 38) rfl) rfl
theorem tp_39 : Cond.selects "LetterRepositoryModel" ⟨"LetterRepositoryModel", "mayMerge", "(II)Z"⟩ ⟨"LetterRepositoryModel", "mayMerge", "(II)Z"⟩ ∈ TB := tb_sel (List.mem_of_getElem? (i := 39) rfl) rfl
theorem tp_40 : Cond.selects "LetterRepositoryModel" ⟨"LetterRepositoryModel", "ancestorsOf", "(I)I"⟩ ⟨"LetterRepositoryModel", "ancestorsOf", "(I)I"⟩ ∈ TB := tb_sel (List.mem_of_getElem? (i := 40) rfl) rfl
theorem tp_41 : Cond.selects "LetterRepositoryModel" ⟨"LetterRepositoryModel", "conflicts", "(II)I"⟩ ⟨"LetterRepositoryModel", "conflicts", "(II)I"⟩ ∈ TB := tb_sel (List.mem_of_getElem? (i := 41) rfl) rfl
theorem tp_42 : Cond.selects "LetterRepositoryModel" ⟨"LetterRepositoryModel", "merged", "(III)I"⟩ ⟨"LetterRepositoryModel", "merged", "(III)I"⟩ ∈ TB := tb_sel (List.mem_of_getElem? (i := 42) rfl) rfl
theorem tp_43 : Cond.selects "LetterRepositoryModel" ⟨"LetterRepositoryModel", "common", "(II)I"⟩ ⟨"LetterRepositoryModel", "common", "(II)I"⟩ ∈ TB := tb_sel (List.mem_of_getElem? (i := 43) rfl) rfl
theorem tp_44 : Cond.selects "LetterRepositoryModel" ⟨"LetterRepositoryModel", "pickIt", "(II)I"⟩ ⟨"LetterRepositoryModel", "pickIt", "(II)I"⟩ ∈ TB := tb_sel (List.mem_of_getElem? (i := 44) rfl) rfl
theorem tp_45 : Cond.selects "LetterRepositoryModel" ⟨"LetterRepositoryModel", "mayPick", "(II)Z"⟩ ⟨"LetterRepositoryModel", "mayPick", "(II)Z"⟩ ∈ TB := tb_sel (List.mem_of_getElem? (i := 45) rfl) rfl
theorem tp_46 : Cond.selects "LetterRepositoryModel" ⟨"LetterRepositoryModel", "resetIt", "(II)I"⟩ ⟨"LetterRepositoryModel", "resetIt", "(II)I"⟩ ∈ TB := tb_sel (List.mem_of_getElem? (i := 46) rfl) rfl
theorem tp_47 : Cond.selects "LetterRepositoryModel" ⟨"LetterRepositoryModel", "tagIt", "(II)I"⟩ ⟨"LetterRepositoryModel", "tagIt", "(II)I"⟩ ∈ TB := tb_sel (List.mem_of_getElem? (i := 47) rfl) rfl
theorem tp_48 : Cond.selects "LetterRepositoryModel" ⟨"LetterRepositoryModel", "tags", "()I"⟩ ⟨"LetterRepositoryModel", "tags", "()I"⟩ ∈ TB := tb_sel (List.mem_of_getElem? (i := 48) rfl) rfl
theorem tp_49 : Cond.selects "LetterRepositoryModel" ⟨"LetterRepositoryModel", "untagIt", "(I)I"⟩ ⟨"LetterRepositoryModel", "untagIt", "(I)I"⟩ ∈ TB := tb_sel (List.mem_of_getElem? (i := 49) rfl) rfl
theorem tp_50 : Cond.selects "LetterRepositoryModel" ⟨"LetterRepositoryModel", "archiveIt", "()I"⟩ ⟨"LetterRepositoryModel", "archiveIt", "()I"⟩ ∈ TB := tb_sel (List.mem_of_getElem? (i := 50) rfl) rfl
theorem tp_51 : Cond.selects "LetterRepositoryModel" ⟨"LetterRepositoryModel", "used", "()I"⟩ ⟨"LetterRepositoryModel", "used", "()I"⟩ ∈ TB := tb_sel (List.mem_of_getElem? (i := 51) rfl) rfl
theorem tp_52 : Cond.selects "LetterRepositoryModel" ⟨"LetterRepositoryModel", "parent", "(II)I"⟩ ⟨"LetterRepositoryModel", "parent", "(II)I"⟩ ∈ TB := tb_sel (List.mem_of_getElem? (i := 52) rfl) rfl
theorem tp_53 : Cond.selects "LetterRepositoryModel" ⟨"LetterRepositoryModel", "generationOf", "(I)I"⟩ ⟨"LetterRepositoryModel", "generationOf", "(I)I"⟩ ∈ TB := tb_sel (List.mem_of_getElem? (i := 53) rfl) rfl
theorem tp_54 : Cond.selects "LetterRepositoryModel" ⟨"LetterRepositoryModel", "asks", "(II)Z"⟩ ⟨"LetterRepositoryModel", "asks", "(II)Z"⟩ ∈ TB := tb_sel (List.mem_of_getElem? (i := 54) rfl) rfl
theorem tp_55 : Cond.selects "LetterRepositoryModel" ⟨"LetterRepositoryModel", "areNext", "(II)Z"⟩ ⟨"LetterRepositoryModel", "areNext", "(II)Z"⟩ ∈ TB := tb_sel (List.mem_of_getElem? (i := 55) rfl) rfl
theorem tp_56 : Cond.selects "LetterRepositoryModel" ⟨"LetterRepositoryModel", "manyBy", "(I)I"⟩ ⟨"LetterRepositoryModel", "manyBy", "(I)I"⟩ ∈ TB := tb_sel (List.mem_of_getElem? (i := 56) rfl) rfl
theorem tp_57 : Cond.selects "LetterRepositoryModel" ⟨"LetterRepositoryModel", "asksMerge", "(II)Z"⟩ ⟨"LetterRepositoryModel", "asksMerge", "(II)Z"⟩ ∈ TB := tb_sel (List.mem_of_getElem? (i := 57) rfl) rfl
theorem tp_58 : Cond.selects "LetterRepositoryModel" ⟨"LetterRepositoryModel", "sign", "(I)V"⟩ ⟨"LetterRepositoryModel", "sign", "(I)V"⟩ ∈ TB := tb_sel (List.mem_of_getElem? (i := 58) rfl) rfl
theorem tp_59 : Cond.selects "LetterRepositoryModel" ⟨"LetterRepositoryModel", "writesNumber", "(I)V"⟩ ⟨"LetterRepositoryModel", "writesNumber", "(I)V"⟩ ∈ TB := tb_sel (List.mem_of_getElem? (i := 59) rfl) rfl
theorem tp_60 : Cond.selects "LetterRepositoryModel" ⟨"LetterRepositoryModel", "readCommand", "()V"⟩ ⟨"LetterRepositoryModel", "readCommand", "()V"⟩ ∈ TB := tb_sel (List.mem_of_getElem? (i := 60) rfl) rfl
theorem tp_61 : Cond.selects "LetterRepositoryModel" ⟨"LetterRepositoryModel", "likeness", "(I)I"⟩ ⟨"LetterRepositoryModel", "likeness", "(I)I"⟩ ∈ TB := tb_sel (List.mem_of_getElem? (i := 61) rfl) rfl
theorem tp_62 : Cond.selects "LetterRepositoryModel" ⟨"LetterRepositoryModel", "readArguments", "(II)V"⟩ ⟨"LetterRepositoryModel", "readArguments", "(II)V"⟩ ∈ TB := tb_sel (List.mem_of_getElem? (i := 62) rfl) rfl
theorem tp_63 : Cond.selects "LetterRepositoryModel" ⟨"LetterRepositoryModel", "digit", "()I"⟩ ⟨"LetterRepositoryModel", "digit", "()I"⟩ ∈ TB := tb_sel (List.mem_of_getElem? (i := 63) rfl) rfl
theorem tp_64 : Cond.selects "LetterRepositoryModel" ⟨"LetterRepositoryModel", "one", "(II)I"⟩ ⟨"LetterRepositoryModel", "one", "(II)I"⟩ ∈ TB := tb_sel (List.mem_of_getElem? (i := 64) rfl) rfl
theorem tp_65 : Cond.selects "LetterRepositoryModel" ⟨"LetterRepositoryModel", "here", "()I"⟩ ⟨"LetterRepositoryModel", "here", "()I"⟩ ∈ TB := tb_sel (List.mem_of_getElem? (i := 65) rfl) rfl
theorem tp_66 : Cond.selects "LetterRepositoryModel" ⟨"LetterRepositoryModel", "digitBehind", "()I"⟩ ⟨"LetterRepositoryModel", "digitBehind", "()I"⟩ ∈ TB := tb_sel (List.mem_of_getElem? (i := 66) rfl) rfl
theorem tp_67 : Cond.selects "LetterRepositoryModel" ⟨"LetterRepositoryModel", "number", "()I"⟩ ⟨"LetterRepositoryModel", "number", "()I"⟩ ∈ TB := tb_sel (List.mem_of_getElem? (i := 67) rfl) rfl
theorem tp_68 : Cond.selects "LetterRepositoryModel" ⟨"LetterRepositoryModel", "numberBehind", "()I"⟩ ⟨"LetterRepositoryModel", "numberBehind", "()I"⟩ ∈ TB := tb_sel (List.mem_of_getElem? (i := 68) rfl) rfl
theorem tp_69 : Cond.selects "LetterRepositoryModel" ⟨"LetterRepositoryModel", "does", "(I)V"⟩ ⟨"LetterRepositoryModel", "does", "(I)V"⟩ ∈ TB := tb_sel (List.mem_of_getElem? (i := 69) rfl) rfl
theorem tq_0 : Cond.selects "java/lang/StringBuilder" ⟨"java/lang/AbstractStringBuilder", "ensureCapacityInternal", "(I)V"⟩ ⟨"java/lang/AbstractStringBuilder", "ensureCapacityInternal", "(I)V"⟩ ∈ TB := List.mem_filter.mpr ⟨List.mem_append_left _ (List.mem_append_left _ (List.mem_of_getElem? (i := 0) rfl)), rfl⟩
theorem tq_1 : Cond.selects "java/lang/StringBuilder" ⟨"java/lang/AbstractStringBuilder", "newCapacity", "(I)I"⟩ ⟨"java/lang/AbstractStringBuilder", "newCapacity", "(I)I"⟩ ∈ TB := List.mem_filter.mpr ⟨List.mem_append_left _ (List.mem_append_left _ (List.mem_of_getElem? (i := 1) rfl)), rfl⟩
theorem tq_2 : Cond.selects "java/lang/StringBuilder" ⟨"java/lang/AbstractStringBuilder", "putStringAt", "(ILjava/lang/String;)V"⟩ ⟨"java/lang/AbstractStringBuilder", "putStringAt", "(ILjava/lang/String;)V"⟩ ∈ TB := List.mem_filter.mpr ⟨List.mem_append_left _ (List.mem_append_left _ (List.mem_of_getElem? (i := 2) rfl)), rfl⟩
theorem tq_3 : Cond.selects "java/lang/StringBuilder" ⟨"java/lang/AbstractStringBuilder", "inflateIfNeededFor", "(Ljava/lang/String;)V"⟩ ⟨"java/lang/AbstractStringBuilder", "inflateIfNeededFor", "(Ljava/lang/String;)V"⟩ ∈ TB := List.mem_filter.mpr ⟨List.mem_append_left _ (List.mem_append_left _ (List.mem_of_getElem? (i := 3) rfl)), rfl⟩
