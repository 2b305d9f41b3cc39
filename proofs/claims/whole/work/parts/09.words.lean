/-! ===== words of the tables, by their places ===== -/
theorem aw_in (ws : List Cond) (ps : List Nat) (hp : ws = ps.filterMap (fun i => lw_tbl[i]?)) (h : ws.all goodWord = true) : ∀ z ∈ ws, z ∈ aw_ztb := by
  intro z hz
  have h1 := List.all_eq_true.mp h z hz
  rw [hp] at hz
  obtain ⟨i, -, hi⟩ := List.mem_filterMap.mp hz
  exact List.mem_filter.mpr ⟨List.mem_of_getElem? hi, h1⟩
theorem tw_0 : (Cond.selects "FormWright$Source" ⟨"FormWright$Source", "readParts", "(II)Z"⟩ ⟨"FormWright$Source", "readParts", "(II)Z"⟩) ∈ aw_ztb := aw_zw 0 (by decide +kernel) rfl
theorem tw_1 : (Cond.selects "FormWright$Source" ⟨"FormWright$Source", "readFactor", "(I)Z"⟩ ⟨"FormWright$Source", "readFactor", "(I)Z"⟩) ∈ aw_ztb := aw_zw 1 (by decide +kernel) rfl
theorem tw_2 : (Cond.selects "FormWright$Source" ⟨"FormWright$Source", "next", "()C"⟩ ⟨"FormWright$Source", "next", "()C"⟩) ∈ aw_ztb := aw_zw 2 (by decide +kernel) rfl
theorem tw_3 : (Cond.selects "FormWright$Source" ⟨"FormWright$Source", "readNumber", "()V"⟩ ⟨"FormWright$Source", "readNumber", "()V"⟩) ∈ aw_ztb := aw_zw 3 (by decide +kernel) rfl
theorem tw_4 : (Cond.selects "FormWright$Source" ⟨"FormWright$Source", "writePlain", "(C)V"⟩ ⟨"FormWright$Source", "writePlain", "(C)V"⟩) ∈ aw_ztb := aw_zw 4 (by decide +kernel) rfl
theorem tw_5 : (Cond.selects "FormWright$Source" ⟨"FormWright$Source", "addStep", "(I)V"⟩ ⟨"FormWright$Source", "addStep", "(I)V"⟩) ∈ aw_ztb := aw_zw 5 (by decide +kernel) rfl
theorem tw_6 : (Cond.selects "FormWright$Source" ⟨"FormWright$Source", "readLetter", "(C)V"⟩ ⟨"FormWright$Source", "readLetter", "(C)V"⟩) ∈ aw_ztb := aw_zw 6 (by decide +kernel) rfl
theorem tw_7 : (Cond.selects "FormWright$Source" ⟨"FormWright$Source", "readNot", "(I)Z"⟩ ⟨"FormWright$Source", "readNot", "(I)Z"⟩) ∈ aw_ztb := aw_zw 7 (by decide +kernel) rfl
theorem tw_8 : (Cond.selects "FormWright$Source" ⟨"FormWright$Source", "readBracket", "(I)Z"⟩ ⟨"FormWright$Source", "readBracket", "(I)Z"⟩) ∈ aw_ztb := aw_zw 8 (by decide +kernel) rfl
theorem tw_9 : (Cond.selects "FormWright$Source" ⟨"FormWright$Source", "openPlain", "(I)V"⟩ ⟨"FormWright$Source", "openPlain", "(I)V"⟩) ∈ aw_ztb := aw_zw 9 (by decide +kernel) rfl
theorem tw_11 : (Cond.selects "FormWright$Form" ⟨"FormWright$Form", "lettersAt", "(I)I"⟩ ⟨"FormWright$Form", "lettersAt", "(I)I"⟩) ∈ aw_ztb := aw_zw 11 (by decide +kernel) rfl
theorem tw_12 : (Cond.selects "FormWright$Form" ⟨"FormWright$Form", "tellOrder", "()V"⟩ ⟨"FormWright$Form", "tellOrder", "()V"⟩) ∈ aw_ztb := aw_zw 12 (by decide +kernel) rfl
theorem tw_13 : (Cond.selects "FormWright$Form" ⟨"FormWright$Form", "lowestFree", "(I)I"⟩ ⟨"FormWright$Form", "lowestFree", "(I)I"⟩) ∈ aw_ztb := aw_zw 13 (by decide +kernel) rfl
theorem tw_14 : (Cond.selects "FormWright$Answer" ⟨"FormWright$Answer", "stateByDoubts", "()I"⟩ ⟨"FormWright$Answer", "stateByDoubts", "()I"⟩) ∈ aw_ztb := aw_zw 14 (by decide +kernel) rfl
theorem tw_15 : (Cond.selects "FormWright" ⟨"FormWright", "requireVersion", "(I)LFormWright$Form;"⟩ ⟨"FormWright", "requireVersion", "(I)LFormWright$Form;"⟩) ∈ aw_ztb := aw_zw 15 (by decide +kernel) rfl
theorem tw_16 : (Cond.selects "FormWright" ⟨"FormWright", "requireAnswer", "(I)LFormWright$Answer;"⟩ ⟨"FormWright", "requireAnswer", "(I)LFormWright$Answer;"⟩) ∈ aw_ztb := aw_zw 16 (by decide +kernel) rfl
theorem tw_17 : (Cond.selects "FormWrightModel" ⟨"FormWrightModel", "firstError", "()I"⟩ ⟨"FormWrightModel", "firstError", "()I"⟩) ∈ aw_ztb := aw_zw 17 (by decide +kernel) rfl
theorem tw_18 : (Cond.selects "FormWrightModel" ⟨"FormWrightModel", "opens", "(I)Z"⟩ ⟨"FormWrightModel", "opens", "(I)Z"⟩) ∈ aw_ztb := aw_zw 18 (by decide +kernel) rfl
theorem tw_19 : (Cond.selects "FormWrightModel" ⟨"FormWrightModel", "endFactor", "()V"⟩ ⟨"FormWrightModel", "endFactor", "()V"⟩) ∈ aw_ztb := aw_zw 19 (by decide +kernel) rfl
theorem tw_20 : (Cond.selects "FormWrightModel" ⟨"FormWrightModel", "goesOn", "(I)Z"⟩ ⟨"FormWrightModel", "goesOn", "(I)Z"⟩) ∈ aw_ztb := aw_zw 20 (by decide +kernel) rfl
theorem tw_21 : (Cond.selects "FormWrightModel" ⟨"FormWrightModel", "layRow", "()V"⟩ ⟨"FormWrightModel", "layRow", "()V"⟩) ∈ aw_ztb := aw_zw 21 (by decide +kernel) rfl
theorem tw_22 : (Cond.selects "FormWrightModel" ⟨"FormWrightModel", "lay", "(I)V"⟩ ⟨"FormWrightModel", "lay", "(I)V"⟩) ∈ aw_ztb := aw_zw 22 (by decide +kernel) rfl
theorem tw_23 : (Cond.selects "FormWrightModel" ⟨"FormWrightModel", "layBangs", "()V"⟩ ⟨"FormWrightModel", "layBangs", "()V"⟩) ∈ aw_ztb := aw_zw 23 (by decide +kernel) rfl
theorem tw_24 : (Cond.selects "FormWrightModel" ⟨"FormWrightModel", "laySigns", "(I)V"⟩ ⟨"FormWrightModel", "laySigns", "(I)V"⟩) ∈ aw_ztb := aw_zw 24 (by decide +kernel) rfl
theorem tw_25 : (Cond.selects "FormWrightModel" ⟨"FormWrightModel", "typeOf", "([III)I"⟩ ⟨"FormWrightModel", "typeOf", "([III)I"⟩) ∈ aw_ztb := aw_zw 25 (by decide +kernel) rfl
theorem tw_26 : (Cond.selects "FormWrightModel" ⟨"FormWrightModel", "brokenMany", "()I"⟩ ⟨"FormWrightModel", "brokenMany", "()I"⟩) ∈ aw_ztb := aw_zw 26 (by decide +kernel) rfl
theorem tw_27 : (Cond.selects "FormWrightModel" ⟨"FormWrightModel", "breaks", "(I)Z"⟩ ⟨"FormWrightModel", "breaks", "(I)Z"⟩) ∈ aw_ztb := aw_zw 27 (by decide +kernel) rfl
theorem tw_28 : (Cond.selects "FormWrightModel" ⟨"FormWrightModel", "dueType", "(I)I"⟩ ⟨"FormWrightModel", "dueType", "(I)I"⟩) ∈ aw_ztb := aw_zw 28 (by decide +kernel) rfl
theorem tw_29 : (Cond.selects "FormWrightModel" ⟨"FormWrightModel", "isReached", "(I)Z"⟩ ⟨"FormWrightModel", "isReached", "(I)Z"⟩) ∈ aw_ztb := aw_zw 29 (by decide +kernel) rfl
theorem tw_30 : (Cond.selects "FormWrightModel" ⟨"FormWrightModel", "hasLetter", "(II)Z"⟩ ⟨"FormWrightModel", "hasLetter", "(II)Z"⟩) ∈ aw_ztb := aw_zw 30 (by decide +kernel) rfl
theorem tw_31 : (Cond.selects "FormWrightModel" ⟨"FormWrightModel", "doubtFor", "(II)V"⟩ ⟨"FormWrightModel", "doubtFor", "(II)V"⟩) ∈ aw_ztb := aw_zw 31 (by decide +kernel) rfl
theorem tw_32 : (Cond.selects "FormWrightModel" ⟨"FormWrightModel", "typeAt", "(II)I"⟩ ⟨"FormWrightModel", "typeAt", "(II)I"⟩) ∈ aw_ztb := aw_zw 32 (by decide +kernel) rfl
theorem tw_33 : (Cond.selects "FormWrightModel" ⟨"FormWrightModel", "areAlike", "(II)Z"⟩ ⟨"FormWrightModel", "areAlike", "(II)Z"⟩) ∈ aw_ztb := aw_zw 33 (by decide +kernel) rfl
theorem tw_34 : (Cond.selects "FormWrightModel" ⟨"FormWrightModel", "isVersion", "(I)Z"⟩ ⟨"FormWrightModel", "isVersion", "(I)Z"⟩) ∈ aw_ztb := aw_zw 34 (by decide +kernel) rfl
theorem tw_35 : (Cond.selects "FormWrightModel" ⟨"FormWrightModel", "layOrder", "(I)I"⟩ ⟨"FormWrightModel", "layOrder", "(I)I"⟩) ∈ aw_ztb := aw_zw 35 (by decide +kernel) rfl
theorem tw_36 : (Cond.selects "FormWrightModel" ⟨"FormWrightModel", "isComputed", "(II)Z"⟩ ⟨"FormWrightModel", "isComputed", "(II)Z"⟩) ∈ aw_ztb := aw_zw 36 (by decide +kernel) rfl
theorem tw_37 : (Cond.selects "FormWrightModel" ⟨"FormWrightModel", "layPlain", "(I)V"⟩ ⟨"FormWrightModel", "layPlain", "(I)V"⟩) ∈ aw_ztb := aw_zw 37 (by decide +kernel) rfl
theorem tw_38 : (Cond.selects "FormWrightModel" ⟨"FormWrightModel", "lays", "(I)V"⟩ ⟨"FormWrightModel", "lays", "(I)V"⟩) ∈ aw_ztb := aw_zw 38 (by decide +kernel) rfl
theorem tw_39 : (Cond.selects "FormWrightModel" ⟨"FormWrightModel", "putNumber", "(I)V"⟩ ⟨"FormWrightModel", "putNumber", "(I)V"⟩) ∈ aw_ztb := aw_zw 39 (by decide +kernel) rfl
theorem tw_40 : (Cond.selects "FormWrightModel" ⟨"FormWrightModel", "beginOf", "(I)I"⟩ ⟨"FormWrightModel", "beginOf", "(I)I"⟩) ∈ aw_ztb := aw_zw 40 (by decide +kernel) rfl
theorem tw_41 : (Cond.selects "FormWrightModel" ⟨"FormWrightModel", "areOne", "(II)Z"⟩ ⟨"FormWrightModel", "areOne", "(II)Z"⟩) ∈ aw_ztb := aw_zw 41 (by decide +kernel) rfl
theorem tw_42 : (Cond.selects "FormWrightModel" ⟨"FormWrightModel", "isAnswer", "(I)Z"⟩ ⟨"FormWrightModel", "isAnswer", "(I)Z"⟩) ∈ aw_ztb := aw_zw 42 (by decide +kernel) rfl
theorem tw_43 : (Cond.selects "FormWrightModel" ⟨"FormWrightModel", "canPut", "(II)Z"⟩ ⟨"FormWrightModel", "canPut", "(II)Z"⟩) ∈ aw_ztb := aw_zw 43 (by decide +kernel) rfl
theorem tw_44 : (Cond.selects "FormWrightModel" ⟨"FormWrightModel", "isRight", "(III)Z"⟩ ⟨"FormWrightModel", "isRight", "(III)Z"⟩) ∈ aw_ztb := aw_zw 44 (by decide +kernel) rfl
theorem tw_45 : (Cond.selects "FormWrightModel" ⟨"FormWrightModel", "lacking", "(I)I"⟩ ⟨"FormWrightModel", "lacking", "(I)I"⟩) ∈ aw_ztb := aw_zw 45 (by decide +kernel) rfl
theorem tw_46 : (Cond.selects "FormWrightModel" ⟨"FormWrightModel", "judge", "(I)I"⟩ ⟨"FormWrightModel", "judge", "(I)I"⟩) ∈ aw_ztb := aw_zw 46 (by decide +kernel) rfl
theorem tw_47 : (Cond.selects "FormWrightModel" ⟨"FormWrightModel", "compute", "(I)V"⟩ ⟨"FormWrightModel", "compute", "(I)V"⟩) ∈ aw_ztb := aw_zw 47 (by decide +kernel) rfl
theorem tw_48 : (Cond.selects "FormWrightModel" ⟨"FormWrightModel", "valueOf", "(II)I"⟩ ⟨"FormWrightModel", "valueOf", "(II)I"⟩) ∈ aw_ztb := aw_zw 48 (by decide +kernel) rfl
theorem tw_49 : (Cond.selects "FormWrightModel" ⟨"FormWrightModel", "refusing", "(I)I"⟩ ⟨"FormWrightModel", "refusing", "(I)I"⟩) ∈ aw_ztb := aw_zw 49 (by decide +kernel) rfl
theorem tw_50 : (Cond.selects "FormWrightModel" ⟨"FormWrightModel", "asksFor", "(I)Z"⟩ ⟨"FormWrightModel", "asksFor", "(I)Z"⟩) ∈ aw_ztb := aw_zw 50 (by decide +kernel) rfl
theorem tw_51 : (Cond.initialized "FormWrightLaw") ∈ aw_ztb := aw_zw 51 (by decide +kernel) rfl
theorem tw_52 : (Cond.initialized "FormWright") ∈ aw_ztb := aw_zw 52 (by decide +kernel) rfl
theorem tw_53 : (Cond.initialized "FormWright$Source") ∈ aw_ztb := aw_zw 53 (by decide +kernel) rfl
theorem tw_54 : (Cond.initialized "FormWright$Form") ∈ aw_ztb := aw_zw 54 (by decide +kernel) rfl
theorem tw_55 : (Cond.initialized "FormWright$Reading") ∈ aw_ztb := aw_zw 55 (by decide +kernel) rfl
theorem tw_56 : (Cond.initialized "FormWright$Types") ∈ aw_ztb := aw_zw 56 (by decide +kernel) rfl
theorem tw_57 : (Cond.initialized "FormWrightModel") ∈ aw_ztb := aw_zw 57 (by decide +kernel) rfl
theorem tw_58 : (Cond.initialized "java/lang/Throwable") ∈ aw_ztb := aw_zw 58 (by decide +kernel) rfl
theorem tw_59 : (Cond.initialized "java/lang/Exception") ∈ aw_ztb := aw_zw 59 (by decide +kernel) rfl
theorem tw_60 : (Cond.initialized "java/lang/RuntimeException") ∈ aw_ztb := aw_zw 60 (by decide +kernel) rfl
theorem tw_61 : (Cond.initialized "java/lang/IllegalStateException") ∈ aw_ztb := aw_zw 61 (by decide +kernel) rfl
theorem tw_62 : (Cond.initialized "FormWright$Formula") ∈ aw_ztb := aw_zw 62 (by decide +kernel) rfl
theorem tw_63 : (Cond.initialized "java/util/Arrays") ∈ aw_ztb := aw_zw 63 (by decide +kernel) rfl
theorem tw_64 : (Cond.initialized "java/lang/Math") ∈ aw_ztb := aw_zw 64 (by decide +kernel) rfl
theorem tw_65 : (Cond.initialized "java/lang/System") ∈ aw_ztb := aw_zw 65 (by decide +kernel) rfl
theorem tw_66 : (Cond.initialized "java/lang/IndexOutOfBoundsException") ∈ aw_ztb := aw_zw 66 (by decide +kernel) rfl
theorem tw_67 : (Cond.initialized "java/lang/IllegalArgumentException") ∈ aw_ztb := aw_zw 67 (by decide +kernel) rfl
theorem tw_68 : (Cond.initialized "FormWright$Answer") ∈ aw_ztb := aw_zw 68 (by decide +kernel) rfl
theorem tw_69 : (Cond.initialized "FormWright$Values") ∈ aw_ztb := aw_zw 69 (by decide +kernel) rfl
theorem tw_70 : (Cond.classLink "FormWrightLaw" (8 : Nat) "FormWright") ∈ aw_ztb := aw_zw 70 (by decide +kernel) rfl
theorem tw_71 : (Cond.instantiable "FormWright" (6 : Nat)) ∈ aw_ztb := aw_zw 71 (by decide +kernel) rfl
theorem tw_72 : (Cond.methodLink "FormWrightLaw" (86 : Nat) ({ cls := "FormWright", name := "<init>", desc := "()V" } : MethodName)) ∈ aw_ztb := aw_zw 72 (by decide +kernel) rfl
theorem tw_73 : (Cond.instanceMethod ({ cls := "FormWright", name := "<init>", desc := "()V" } : MethodName)) ∈ aw_ztb := aw_zw 73 (by decide +kernel) rfl
theorem tw_74 : (Cond.code ({ cls := "FormWright", name := "<init>", desc := "()V" } : MethodName) prog_1_method_1_code (1 : Nat) (Option.none : Option FieldType)) ∈ aw_ztb := aw_zw 74 (by decide +kernel) rfl
theorem tw_75 : (Cond.methodLink "FormWright" (1 : Nat) ({ cls := "java/lang/Object", name := "<init>", desc := "()V" } : MethodName)) ∈ aw_ztb := aw_zw 75 (by decide +kernel) rfl
theorem tw_76 : (Cond.instanceMethod ({ cls := "java/lang/Object", name := "<init>", desc := "()V" } : MethodName)) ∈ aw_ztb := aw_zw 76 (by decide +kernel) rfl
theorem tw_77 : (Cond.code ({ cls := "java/lang/Object", name := "<init>", desc := "()V" } : MethodName) object_method_1_code (1 : Nat) (Option.none : Option FieldType)) ∈ aw_ztb := aw_zw 77 (by decide +kernel) rfl
theorem tw_78 : (Cond.classLink "FormWright" (7 : Nat) "FormWright$Source") ∈ aw_ztb := aw_zw 78 (by decide +kernel) rfl
theorem tw_79 : (Cond.instantiable "FormWright$Source" (8 : Nat)) ∈ aw_ztb := aw_zw 79 (by decide +kernel) rfl
theorem tw_80 : (Cond.methodLinkNest "FormWright" (9 : Nat) ({ cls := "FormWright$Source", name := "<init>", desc := "()V" } : MethodName) "FormWright") ∈ lw_tbl := List.mem_of_getElem? (i := 80) (by decide +kernel)
theorem tw_81 : (Cond.instanceMethod ({ cls := "FormWright$Source", name := "<init>", desc := "()V" } : MethodName)) ∈ aw_ztb := aw_zw 81 (by decide +kernel) rfl
theorem tw_82 : (Cond.code ({ cls := "FormWright$Source", name := "<init>", desc := "()V" } : MethodName) prog_6_method_1_code (1 : Nat) (Option.none : Option FieldType)) ∈ aw_ztb := aw_zw 82 (by decide +kernel) rfl
theorem tw_83 : (Cond.methodLink "FormWright$Source" (3 : Nat) ({ cls := "java/lang/Object", name := "<init>", desc := "()V" } : MethodName)) ∈ aw_ztb := aw_zw 83 (by decide +kernel) rfl
theorem tw_84 : (Cond.fieldLink "FormWright$Source" (9 : Nat) "FormWright$Source" "text" "[C") ∈ aw_ztb := aw_zw 84 (by decide +kernel) rfl
theorem tw_85 : (Cond.fieldLink "FormWright$Source" (15 : Nat) "FormWright$Source" "length" "I") ∈ aw_ztb := aw_zw 85 (by decide +kernel) rfl
theorem tw_86 : (Cond.fieldLink "FormWright$Source" (19 : Nat) "FormWright$Source" "place" "I") ∈ aw_ztb := aw_zw 86 (by decide +kernel) rfl
theorem tw_87 : (Cond.fieldLink "FormWright$Source" (22 : Nat) "FormWright$Source" "steps" "[I") ∈ aw_ztb := aw_zw 87 (by decide +kernel) rfl
theorem tw_88 : (Cond.fieldLink "FormWright$Source" (26 : Nat) "FormWright$Source" "stepCount" "I") ∈ aw_ztb := aw_zw 88 (by decide +kernel) rfl
theorem tw_89 : (Cond.fieldLink "FormWright$Source" (29 : Nat) "FormWright$Source" "plainSigns" "[I") ∈ aw_ztb := aw_zw 89 (by decide +kernel) rfl
theorem tw_90 : (Cond.fieldLink "FormWright$Source" (32 : Nat) "FormWright$Source" "plainLength" "I") ∈ aw_ztb := aw_zw 90 (by decide +kernel) rfl
theorem tw_91 : (Cond.fieldLink "FormWright$Source" (35 : Nat) "FormWright$Source" "letters" "I") ∈ aw_ztb := aw_zw 91 (by decide +kernel) rfl
theorem tw_109 : (Cond.arrayClass FieldType.char) ∈ aw_ztb := aw_zw 109 (by decide +kernel) rfl
theorem tw_110 : (Cond.arrayClass FieldType.int) ∈ aw_ztb := aw_zw 110 (by decide +kernel) rfl
theorem tw_111 : (Cond.classLink "FormWright" (16 : Nat) "FormWright$Form") ∈ aw_ztb := aw_zw 111 (by decide +kernel) rfl
theorem tw_112 : (Cond.instantiable "FormWright$Form" (3 : Nat)) ∈ aw_ztb := aw_zw 112 (by decide +kernel) rfl
theorem tw_113 : (Cond.methodLink "FormWright" (18 : Nat) ({ cls := "FormWright$Form", name := "<init>", desc := "()V" } : MethodName)) ∈ aw_ztb := aw_zw 113 (by decide +kernel) rfl
theorem tw_114 : (Cond.instanceMethod ({ cls := "FormWright$Form", name := "<init>", desc := "()V" } : MethodName)) ∈ aw_ztb := aw_zw 114 (by decide +kernel) rfl
theorem tw_115 : (Cond.code ({ cls := "FormWright$Form", name := "<init>", desc := "()V" } : MethodName) prog_3_method_1_code (1 : Nat) (Option.none : Option FieldType)) ∈ aw_ztb := aw_zw 115 (by decide +kernel) rfl
theorem tw_116 : (Cond.methodLink "FormWright$Form" (3 : Nat) ({ cls := "java/lang/Object", name := "<init>", desc := "()V" } : MethodName)) ∈ aw_ztb := aw_zw 116 (by decide +kernel) rfl
theorem tw_117 : (Cond.classLink "FormWright$Form" (9 : Nat) "FormWright$Formula") ∈ aw_ztb := aw_zw 117 (by decide +kernel) rfl
theorem tw_118 : (Cond.arrayOver (FieldType.object "FormWright$Formula")) ∈ lw_tbl := List.mem_of_getElem? (i := 118) (by decide +kernel)
theorem tw_119 : (Cond.classLink "FormWright$Form" (21 : Nat) "FormWright$Types") ∈ aw_ztb := aw_zw 119 (by decide +kernel) rfl
theorem tw_120 : (Cond.instantiable "FormWright$Types" (1 : Nat)) ∈ aw_ztb := aw_zw 120 (by decide +kernel) rfl
theorem tw_121 : (Cond.methodLink "FormWright$Form" (23 : Nat) ({ cls := "FormWright$Types", name := "<init>", desc := "([I)V" } : MethodName)) ∈ aw_ztb := aw_zw 121 (by decide +kernel) rfl
theorem tw_122 : (Cond.instanceMethod ({ cls := "FormWright$Types", name := "<init>", desc := "([I)V" } : MethodName)) ∈ aw_ztb := aw_zw 122 (by decide +kernel) rfl
theorem tw_123 : (Cond.code ({ cls := "FormWright$Types", name := "<init>", desc := "([I)V" } : MethodName) prog_7_method_1_code (2 : Nat) (Option.none : Option FieldType)) ∈ aw_ztb := aw_zw 123 (by decide +kernel) rfl
theorem tw_124 : (Cond.methodLinkNest "FormWright$Types" (3 : Nat) ({ cls := "FormWright$Reading", name := "<init>", desc := "()V" } : MethodName) "FormWright") ∈ lw_tbl := List.mem_of_getElem? (i := 124) (by decide +kernel)
theorem tw_125 : (Cond.instanceMethod ({ cls := "FormWright$Reading", name := "<init>", desc := "()V" } : MethodName)) ∈ aw_ztb := aw_zw 125 (by decide +kernel) rfl
theorem tw_126 : (Cond.code ({ cls := "FormWright$Reading", name := "<init>", desc := "()V" } : MethodName) prog_5_method_1_code (1 : Nat) (Option.none : Option FieldType)) ∈ aw_ztb := aw_zw 126 (by decide +kernel) rfl
theorem tw_127 : (Cond.methodLink "FormWright$Reading" (1 : Nat) ({ cls := "java/lang/Object", name := "<init>", desc := "()V" } : MethodName)) ∈ aw_ztb := aw_zw 127 (by decide +kernel) rfl
theorem tw_128 : (Cond.fieldLink "FormWright$Types" (9 : Nat) "FormWright$Types" "row" "[I") ∈ aw_ztb := aw_zw 128 (by decide +kernel) rfl
theorem tw_132 : (Cond.fieldLink "FormWright$Form" (26 : Nat) "FormWright$Form" "types" "LFormWright$Types;") ∈ aw_ztb := aw_zw 132 (by decide +kernel) rfl
theorem tw_133 : (Cond.fieldLink "FormWright$Form" (11 : Nat) "FormWright$Form" "formulas" "[LFormWright$Formula;") ∈ aw_ztb := aw_zw 133 (by decide +kernel) rfl
theorem tw_134 : (Cond.fieldLink "FormWright$Form" (17 : Nat) "FormWright$Form" "told" "[I") ∈ aw_ztb := aw_zw 134 (by decide +kernel) rfl
theorem tw_142 : (Cond.arrayOver (FieldType.object "FormWright$Form")) ∈ lw_tbl := List.mem_of_getElem? (i := 142) (by decide +kernel)
theorem tw_143 : (Cond.classLink "FormWright" (31 : Nat) "FormWright$Answer") ∈ aw_ztb := aw_zw 143 (by decide +kernel) rfl
theorem tw_144 : (Cond.arrayOver (FieldType.object "FormWright$Answer")) ∈ lw_tbl := List.mem_of_getElem? (i := 144) (by decide +kernel)
theorem tw_145 : (Cond.fieldLink "FormWright" (10 : Nat) "FormWright" "source" "LFormWright$Source;") ∈ aw_ztb := aw_zw 145 (by decide +kernel) rfl
theorem tw_146 : (Cond.fieldLink "FormWright" (19 : Nat) "FormWright" "draft" "LFormWright$Form;") ∈ aw_ztb := aw_zw 146 (by decide +kernel) rfl
theorem tw_147 : (Cond.fieldLink "FormWright" (23 : Nat) "FormWright" "published" "[LFormWright$Form;") ∈ aw_ztb := aw_zw 147 (by decide +kernel) rfl
theorem tw_148 : (Cond.fieldLink "FormWright" (27 : Nat) "FormWright" "publishedCount" "I") ∈ aw_ztb := aw_zw 148 (by decide +kernel) rfl
theorem tw_149 : (Cond.fieldLink "FormWright" (33 : Nat) "FormWright" "begun" "[LFormWright$Answer;") ∈ aw_ztb := aw_zw 149 (by decide +kernel) rfl
theorem tw_150 : (Cond.fieldLink "FormWright" (37 : Nat) "FormWright" "begunCount" "I") ∈ aw_ztb := aw_zw 150 (by decide +kernel) rfl
theorem tw_164 : (Cond.methodLink "FormWrightLaw" (99 : Nat) ({ cls := "FormWright", name := "clear", desc := "()I" } : MethodName)) ∈ aw_ztb := aw_zw 164 (by decide +kernel) rfl
theorem tw_165 : (Cond.instanceMethod ({ cls := "FormWright", name := "clear", desc := "()I" } : MethodName)) ∈ aw_ztb := aw_zw 165 (by decide +kernel) rfl
theorem tw_166 : (Cond.selects "FormWright" ({ cls := "FormWright", name := "clear", desc := "()I" } : MethodName) ({ cls := "FormWright", name := "clear", desc := "()I" } : MethodName)) ∈ aw_ztb := aw_zw 166 (by decide +kernel) rfl
theorem tw_167 : (Cond.code ({ cls := "FormWright", name := "clear", desc := "()I" } : MethodName) prog_1_method_3_code (2 : Nat) (Option.some FieldType.int)) ∈ aw_ztb := aw_zw 167 (by decide +kernel) rfl
theorem tw_168 : (Cond.methodLink "FormWright" (40 : Nat) ({ cls := "FormWright$Source", name := "size", desc := "()I" } : MethodName)) ∈ aw_ztb := aw_zw 168 (by decide +kernel) rfl
theorem tw_169 : (Cond.instanceMethod ({ cls := "FormWright$Source", name := "size", desc := "()I" } : MethodName)) ∈ aw_ztb := aw_zw 169 (by decide +kernel) rfl
theorem tw_170 : (Cond.selects "FormWright$Source" ({ cls := "FormWright$Source", name := "size", desc := "()I" } : MethodName) ({ cls := "FormWright$Source", name := "size", desc := "()I" } : MethodName)) ∈ aw_ztb := aw_zw 170 (by decide +kernel) rfl
theorem tw_171 : (Cond.code ({ cls := "FormWright$Source", name := "size", desc := "()I" } : MethodName) prog_6_method_2_code (1 : Nat) (Option.some FieldType.int)) ∈ aw_ztb := aw_zw 171 (by decide +kernel) rfl
theorem tw_172 : (Cond.methodLink "FormWright" (55 : Nat) ({ cls := "FormWright$Source", name := "empty", desc := "()V" } : MethodName)) ∈ aw_ztb := aw_zw 172 (by decide +kernel) rfl
theorem tw_173 : (Cond.instanceMethod ({ cls := "FormWright$Source", name := "empty", desc := "()V" } : MethodName)) ∈ aw_ztb := aw_zw 173 (by decide +kernel) rfl
theorem tw_174 : (Cond.selects "FormWright$Source" ({ cls := "FormWright$Source", name := "empty", desc := "()V" } : MethodName) ({ cls := "FormWright$Source", name := "empty", desc := "()V" } : MethodName)) ∈ aw_ztb := aw_zw 174 (by decide +kernel) rfl
theorem tw_175 : (Cond.code ({ cls := "FormWright$Source", name := "empty", desc := "()V" } : MethodName) prog_6_method_4_code (1 : Nat) (Option.none : Option FieldType)) ∈ aw_ztb := aw_zw 175 (by decide +kernel) rfl
theorem tw_176 : (Cond.methodLink "FormWrightLaw" (103 : Nat) ({ cls := "FormWright", name := "error", desc := "()I" } : MethodName)) ∈ aw_ztb := aw_zw 176 (by decide +kernel) rfl
theorem tw_177 : (Cond.instanceMethod ({ cls := "FormWright", name := "error", desc := "()I" } : MethodName)) ∈ aw_ztb := aw_zw 177 (by decide +kernel) rfl
theorem tw_178 : (Cond.selects "FormWright" ({ cls := "FormWright", name := "error", desc := "()I" } : MethodName) ({ cls := "FormWright", name := "error", desc := "()I" } : MethodName)) ∈ aw_ztb := aw_zw 178 (by decide +kernel) rfl
theorem tw_179 : (Cond.code ({ cls := "FormWright", name := "error", desc := "()I" } : MethodName) prog_1_method_4_code (1 : Nat) (Option.some FieldType.int)) ∈ aw_ztb := aw_zw 179 (by decide +kernel) rfl
theorem tw_180 : (Cond.methodLink "FormWright" (58 : Nat) ({ cls := "FormWright$Source", name := "firstError", desc := "()I" } : MethodName)) ∈ aw_ztb := aw_zw 180 (by decide +kernel) rfl
theorem tw_181 : (Cond.instanceMethod ({ cls := "FormWright$Source", name := "firstError", desc := "()I" } : MethodName)) ∈ aw_ztb := aw_zw 181 (by decide +kernel) rfl
theorem tw_182 : (Cond.selects "FormWright$Source" ({ cls := "FormWright$Source", name := "firstError", desc := "()I" } : MethodName) ({ cls := "FormWright$Source", name := "firstError", desc := "()I" } : MethodName)) ∈ aw_ztb := aw_zw 182 (by decide +kernel) rfl
theorem tw_183 : (Cond.code ({ cls := "FormWright$Source", name := "firstError", desc := "()I" } : MethodName) prog_6_method_5_code (1 : Nat) (Option.some FieldType.int)) ∈ aw_ztb := aw_zw 183 (by decide +kernel) rfl
theorem tw_184 : (Cond.methodLink "FormWright$Source" (38 : Nat) ({ cls := "FormWright$Source", name := "readParts", desc := "(II)Z" } : MethodName)) ∈ aw_ztb := aw_zw 184 (by decide +kernel) rfl
theorem tw_186 : (Cond.instanceMethod ({ cls := "FormWright$Source", name := "readParts", desc := "(II)Z" } : MethodName)) ∈ aw_ztb := aw_zw 186 (by decide +kernel) rfl
theorem tw_187 : (Cond.code ({ cls := "FormWright$Source", name := "readParts", desc := "(II)Z" } : MethodName) prog_6_method_7_code (7 : Nat) (Option.some FieldType.boolean)) ∈ aw_ztb := aw_zw 187 (by decide +kernel) rfl
theorem tw_188 : (Cond.methodLink "FormWright$Source" (53 : Nat) ({ cls := "FormWright$Source", name := "readFactor", desc := "(I)Z" } : MethodName)) ∈ aw_ztb := aw_zw 188 (by decide +kernel) rfl
theorem tw_190 : (Cond.instanceMethod ({ cls := "FormWright$Source", name := "readFactor", desc := "(I)Z" } : MethodName)) ∈ aw_ztb := aw_zw 190 (by decide +kernel) rfl
theorem tw_191 : (Cond.code ({ cls := "FormWright$Source", name := "readFactor", desc := "(I)Z" } : MethodName) prog_6_method_8_code (3 : Nat) (Option.some FieldType.boolean)) ∈ aw_ztb := aw_zw 191 (by decide +kernel) rfl
theorem tw_192 : (Cond.methodLink "FormWright$Source" (57 : Nat) ({ cls := "FormWright$Source", name := "next", desc := "()C" } : MethodName)) ∈ aw_ztb := aw_zw 192 (by decide +kernel) rfl
theorem tw_194 : (Cond.instanceMethod ({ cls := "FormWright$Source", name := "next", desc := "()C" } : MethodName)) ∈ aw_ztb := aw_zw 194 (by decide +kernel) rfl
theorem tw_195 : (Cond.code ({ cls := "FormWright$Source", name := "next", desc := "()C" } : MethodName) prog_6_method_13_code (1 : Nat) (Option.some FieldType.char)) ∈ aw_ztb := aw_zw 195 (by decide +kernel) rfl
theorem tw_196 : (Cond.methodLink "FormWright$Source" (76 : Nat) ({ cls := "FormWright$Source", name := "isDigit", desc := "(C)Z" } : MethodName)) ∈ aw_ztb := aw_zw 196 (by decide +kernel) rfl
theorem tw_197 : (Cond.static ({ cls := "FormWright$Source", name := "isDigit", desc := "(C)Z" } : MethodName)) ∈ aw_ztb := aw_zw 197 (by decide +kernel) rfl
theorem tw_198 : (Cond.code ({ cls := "FormWright$Source", name := "isDigit", desc := "(C)Z" } : MethodName) prog_6_method_14_code (1 : Nat) (Option.some FieldType.boolean)) ∈ aw_ztb := aw_zw 198 (by decide +kernel) rfl
theorem tw_199 : (Cond.methodLink "FormWright$Source" (80 : Nat) ({ cls := "FormWright$Source", name := "readNumber", desc := "()V" } : MethodName)) ∈ aw_ztb := aw_zw 199 (by decide +kernel) rfl
theorem tw_201 : (Cond.instanceMethod ({ cls := "FormWright$Source", name := "readNumber", desc := "()V" } : MethodName)) ∈ aw_ztb := aw_zw 201 (by decide +kernel) rfl
theorem tw_202 : (Cond.code ({ cls := "FormWright$Source", name := "readNumber", desc := "()V" } : MethodName) prog_6_method_11_code (3 : Nat) (Option.none : Option FieldType)) ∈ aw_ztb := aw_zw 202 (by decide +kernel) rfl
theorem tw_203 : (Cond.methodLink "FormWright$Source" (69 : Nat) ({ cls := "FormWright$Source", name := "writePlain", desc := "(C)V" } : MethodName)) ∈ aw_ztb := aw_zw 203 (by decide +kernel) rfl
theorem tw_205 : (Cond.instanceMethod ({ cls := "FormWright$Source", name := "writePlain", desc := "(C)V" } : MethodName)) ∈ aw_ztb := aw_zw 205 (by decide +kernel) rfl
theorem tw_206 : (Cond.code ({ cls := "FormWright$Source", name := "writePlain", desc := "(C)V" } : MethodName) prog_6_method_17_code (2 : Nat) (Option.none : Option FieldType)) ∈ aw_ztb := aw_zw 206 (by decide +kernel) rfl
theorem tw_207 : (Cond.methodLink "FormWright$Source" (73 : Nat) ({ cls := "FormWright$Source", name := "addStep", desc := "(I)V" } : MethodName)) ∈ aw_ztb := aw_zw 207 (by decide +kernel) rfl
theorem tw_209 : (Cond.instanceMethod ({ cls := "FormWright$Source", name := "addStep", desc := "(I)V" } : MethodName)) ∈ aw_ztb := aw_zw 209 (by decide +kernel) rfl
theorem tw_210 : (Cond.code ({ cls := "FormWright$Source", name := "addStep", desc := "(I)V" } : MethodName) prog_6_method_16_code (2 : Nat) (Option.none : Option FieldType)) ∈ aw_ztb := aw_zw 210 (by decide +kernel) rfl
theorem tw_211 : (Cond.methodLink "FormWright$Source" (83 : Nat) ({ cls := "FormWright$Source", name := "readLetter", desc := "(C)V" } : MethodName)) ∈ aw_ztb := aw_zw 211 (by decide +kernel) rfl
theorem tw_213 : (Cond.instanceMethod ({ cls := "FormWright$Source", name := "readLetter", desc := "(C)V" } : MethodName)) ∈ aw_ztb := aw_zw 213 (by decide +kernel) rfl
theorem tw_214 : (Cond.code ({ cls := "FormWright$Source", name := "readLetter", desc := "(C)V" } : MethodName) prog_6_method_12_code (3 : Nat) (Option.none : Option FieldType)) ∈ aw_ztb := aw_zw 214 (by decide +kernel) rfl
theorem tw_215 : (Cond.methodLink "FormWright$Source" (86 : Nat) ({ cls := "FormWright$Source", name := "readNot", desc := "(I)Z" } : MethodName)) ∈ aw_ztb := aw_zw 215 (by decide +kernel) rfl
theorem tw_217 : (Cond.instanceMethod ({ cls := "FormWright$Source", name := "readNot", desc := "(I)Z" } : MethodName)) ∈ aw_ztb := aw_zw 217 (by decide +kernel) rfl
theorem tw_218 : (Cond.code ({ cls := "FormWright$Source", name := "readNot", desc := "(I)Z" } : MethodName) prog_6_method_9_code (2 : Nat) (Option.some FieldType.boolean)) ∈ aw_ztb := aw_zw 218 (by decide +kernel) rfl
theorem tw_219 : (Cond.methodLink "FormWright$Source" (89 : Nat) ({ cls := "FormWright$Source", name := "readBracket", desc := "(I)Z" } : MethodName)) ∈ aw_ztb := aw_zw 219 (by decide +kernel) rfl
theorem tw_221 : (Cond.instanceMethod ({ cls := "FormWright$Source", name := "readBracket", desc := "(I)Z" } : MethodName)) ∈ aw_ztb := aw_zw 221 (by decide +kernel) rfl
theorem tw_222 : (Cond.code ({ cls := "FormWright$Source", name := "readBracket", desc := "(I)Z" } : MethodName) prog_6_method_10_code (2 : Nat) (Option.some FieldType.boolean)) ∈ aw_ztb := aw_zw 222 (by decide +kernel) rfl
theorem tw_223 : (Cond.methodLink "FormWright$Source" (61 : Nat) ({ cls := "FormWright$Source", name := "levelOf", desc := "(I)I" } : MethodName)) ∈ aw_ztb := aw_zw 223 (by decide +kernel) rfl
theorem tw_224 : (Cond.static ({ cls := "FormWright$Source", name := "levelOf", desc := "(I)I" } : MethodName)) ∈ aw_ztb := aw_zw 224 (by decide +kernel) rfl
theorem tw_225 : (Cond.code ({ cls := "FormWright$Source", name := "levelOf", desc := "(I)I" } : MethodName) prog_6_method_15_code (1 : Nat) (Option.some FieldType.int)) ∈ aw_ztb := aw_zw 225 (by decide +kernel) rfl
theorem tw_226 : (Cond.methodLink "FormWright$Source" (65 : Nat) ({ cls := "FormWright$Source", name := "openPlain", desc := "(I)V" } : MethodName)) ∈ aw_ztb := aw_zw 226 (by decide +kernel) rfl
theorem tw_228 : (Cond.instanceMethod ({ cls := "FormWright$Source", name := "openPlain", desc := "(I)V" } : MethodName)) ∈ aw_ztb := aw_zw 228 (by decide +kernel) rfl
theorem tw_229 : (Cond.code ({ cls := "FormWright$Source", name := "openPlain", desc := "(I)V" } : MethodName) prog_6_method_18_code (3 : Nat) (Option.none : Option FieldType)) ∈ aw_ztb := aw_zw 229 (by decide +kernel) rfl
theorem tw_230 : (Cond.methodLink "FormWrightLaw" (128 : Nat) ({ cls := "FormWright", name := "versions", desc := "()I" } : MethodName)) ∈ aw_ztb := aw_zw 230 (by decide +kernel) rfl
theorem tw_231 : (Cond.instanceMethod ({ cls := "FormWright", name := "versions", desc := "()I" } : MethodName)) ∈ aw_ztb := aw_zw 231 (by decide +kernel) rfl
theorem tw_232 : (Cond.selects "FormWright" ({ cls := "FormWright", name := "versions", desc := "()I" } : MethodName) ({ cls := "FormWright", name := "versions", desc := "()I" } : MethodName)) ∈ aw_ztb := aw_zw 232 (by decide +kernel) rfl
theorem tw_233 : (Cond.code ({ cls := "FormWright", name := "versions", desc := "()I" } : MethodName) prog_1_method_11_code (1 : Nat) (Option.some FieldType.int)) ∈ aw_ztb := aw_zw 233 (by decide +kernel) rfl
theorem tw_234 : (Cond.methodLink "FormWrightLaw" (151 : Nat) ({ cls := "FormWright", name := "answers", desc := "()I" } : MethodName)) ∈ aw_ztb := aw_zw 234 (by decide +kernel) rfl
theorem tw_235 : (Cond.instanceMethod ({ cls := "FormWright", name := "answers", desc := "()I" } : MethodName)) ∈ aw_ztb := aw_zw 235 (by decide +kernel) rfl
theorem tw_236 : (Cond.selects "FormWright" ({ cls := "FormWright", name := "answers", desc := "()I" } : MethodName) ({ cls := "FormWright", name := "answers", desc := "()I" } : MethodName)) ∈ aw_ztb := aw_zw 236 (by decide +kernel) rfl
theorem tw_237 : (Cond.code ({ cls := "FormWright", name := "answers", desc := "()I" } : MethodName) prog_1_method_18_code (1 : Nat) (Option.some FieldType.int)) ∈ aw_ztb := aw_zw 237 (by decide +kernel) rfl
theorem tw_238 : (Cond.methodLink "FormWrightLaw" (167 : Nat) ({ cls := "FormWright", name := "counted", desc := "()I" } : MethodName)) ∈ aw_ztb := aw_zw 238 (by decide +kernel) rfl
theorem tw_239 : (Cond.instanceMethod ({ cls := "FormWright", name := "counted", desc := "()I" } : MethodName)) ∈ aw_ztb := aw_zw 239 (by decide +kernel) rfl
theorem tw_240 : (Cond.selects "FormWright" ({ cls := "FormWright", name := "counted", desc := "()I" } : MethodName) ({ cls := "FormWright", name := "counted", desc := "()I" } : MethodName)) ∈ aw_ztb := aw_zw 240 (by decide +kernel) rfl
theorem tw_241 : (Cond.code ({ cls := "FormWright", name := "counted", desc := "()I" } : MethodName) prog_1_method_23_code (4 : Nat) (Option.some FieldType.int)) ∈ aw_ztb := aw_zw 241 (by decide +kernel) rfl
theorem tw_242 : (Cond.methodLink "FormWright" (158 : Nat) ({ cls := "FormWright$Answer", name := "stateNow", desc := "()I" } : MethodName)) ∈ aw_ztb := aw_zw 242 (by decide +kernel) rfl
theorem tw_243 : (Cond.instanceMethod ({ cls := "FormWright$Answer", name := "stateNow", desc := "()I" } : MethodName)) ∈ aw_ztb := aw_zw 243 (by decide +kernel) rfl
theorem tw_244 : (Cond.selects "FormWright$Answer" ({ cls := "FormWright$Answer", name := "stateNow", desc := "()I" } : MethodName) ({ cls := "FormWright$Answer", name := "stateNow", desc := "()I" } : MethodName)) ∈ aw_ztb := aw_zw 244 (by decide +kernel) rfl
theorem tw_245 : (Cond.code ({ cls := "FormWright$Answer", name := "stateNow", desc := "()I" } : MethodName) prog_2_method_3_code (1 : Nat) (Option.some FieldType.int)) ∈ aw_ztb := aw_zw 245 (by decide +kernel) rfl
theorem tw_247 : (Cond.static ({ cls := "FormWrightLaw", name := "type", desc := "(LFormWright;C[J)I" } : MethodName)) ∈ aw_ztb := aw_zw 247 (by decide +kernel) rfl
theorem tw_248 : (Cond.codeWith ({ cls := "FormWrightLaw", name := "type", desc := "(LFormWright;C[J)I" } : MethodName) method_3_code (4 : Nat) (Option.some FieldType.int) [((0 : Nat), (9 : Nat), (12 : Nat), (13 : Nat))]) ∈ aw_ztb := aw_zw 248 (by decide +kernel) rfl
theorem tw_249 : (Cond.classLink "FormWrightLaw" (13 : Nat) "java/lang/IllegalStateException") ∈ aw_ztb := aw_zw 249 (by decide +kernel) rfl
theorem tw_250 : (Cond.methodLink "FormWrightLaw" (7 : Nat) ({ cls := "FormWright", name := "type", desc := "(C)I" } : MethodName)) ∈ aw_ztb := aw_zw 250 (by decide +kernel) rfl
theorem tw_251 : (Cond.instanceMethod ({ cls := "FormWright", name := "type", desc := "(C)I" } : MethodName)) ∈ aw_ztb := aw_zw 251 (by decide +kernel) rfl
theorem tw_252 : (Cond.selects "FormWright" ({ cls := "FormWright", name := "type", desc := "(C)I" } : MethodName) ({ cls := "FormWright", name := "type", desc := "(C)I" } : MethodName)) ∈ aw_ztb := aw_zw 252 (by decide +kernel) rfl
theorem tw_253 : (Cond.code ({ cls := "FormWright", name := "type", desc := "(C)I" } : MethodName) prog_1_method_2_code (2 : Nat) (Option.some FieldType.int)) ∈ aw_ztb := aw_zw 253 (by decide +kernel) rfl
theorem tw_254 : (Cond.classLink "FormWright" (44 : Nat) "java/lang/IllegalStateException") ∈ aw_ztb := aw_zw 254 (by decide +kernel) rfl
theorem tw_255 : (Cond.instantiable "java/lang/IllegalStateException" (6 : Nat)) ∈ aw_ztb := aw_zw 255 (by decide +kernel) rfl
theorem tw_256 : (Cond.castable "java/lang/IllegalStateException" "java/lang/IllegalStateException") ∈ lw_tbl := List.mem_of_getElem? (i := 256) (by decide +kernel)
theorem tw_286 : (Cond.sameMethod "java/lang/Throwable" "java/lang/Throwable" "fillInStackTrace" "()Ljava/lang/Throwable;") ∈ aw_ztb := aw_zw 286 (by decide +kernel) rfl
theorem tw_293 : (Cond.instantiable "java/lang/Throwable" (6 : Nat)) ∈ aw_ztb := aw_zw 293 (by decide +kernel) rfl
theorem tw_294 : (Cond.native ({ cls := "java/lang/Throwable", name := "fillInStackTrace", desc := "(I)Ljava/lang/Throwable;" } : MethodName)) ∈ aw_ztb := aw_zw 294 (by decide +kernel) rfl
theorem tw_321 : (Cond.arrayClass FieldType.byte) ∈ aw_ztb := aw_zw 321 (by decide +kernel) rfl
theorem tw_322 : (Cond.methodLink "FormWright" (51 : Nat) ({ cls := "FormWright$Source", name := "append", desc := "(C)V" } : MethodName)) ∈ aw_ztb := aw_zw 322 (by decide +kernel) rfl
theorem tw_323 : (Cond.instanceMethod ({ cls := "FormWright$Source", name := "append", desc := "(C)V" } : MethodName)) ∈ aw_ztb := aw_zw 323 (by decide +kernel) rfl
theorem tw_324 : (Cond.selects "FormWright$Source" ({ cls := "FormWright$Source", name := "append", desc := "(C)V" } : MethodName) ({ cls := "FormWright$Source", name := "append", desc := "(C)V" } : MethodName)) ∈ aw_ztb := aw_zw 324 (by decide +kernel) rfl
theorem tw_325 : (Cond.code ({ cls := "FormWright$Source", name := "append", desc := "(C)V" } : MethodName) prog_6_method_3_code (2 : Nat) (Option.none : Option FieldType)) ∈ aw_ztb := aw_zw 325 (by decide +kernel) rfl
theorem tw_327 : (Cond.static ({ cls := "FormWrightLaw", name := "typeOfText", desc := "(LFormWright;[J)I" } : MethodName)) ∈ aw_ztb := aw_zw 327 (by decide +kernel) rfl
theorem tw_328 : (Cond.codeWith ({ cls := "FormWrightLaw", name := "typeOfText", desc := "(LFormWright;[J)I" } : MethodName) method_4_code (3 : Nat) (Option.some FieldType.int) [((0 : Nat), (8 : Nat), (11 : Nat), (13 : Nat))]) ∈ aw_ztb := aw_zw 328 (by decide +kernel) rfl
theorem tw_329 : (Cond.methodLink "FormWrightLaw" (15 : Nat) ({ cls := "FormWright", name := "typeOfText", desc := "()I" } : MethodName)) ∈ aw_ztb := aw_zw 329 (by decide +kernel) rfl
theorem tw_330 : (Cond.instanceMethod ({ cls := "FormWright", name := "typeOfText", desc := "()I" } : MethodName)) ∈ aw_ztb := aw_zw 330 (by decide +kernel) rfl
theorem tw_331 : (Cond.selects "FormWright" ({ cls := "FormWright", name := "typeOfText", desc := "()I" } : MethodName) ({ cls := "FormWright", name := "typeOfText", desc := "()I" } : MethodName)) ∈ aw_ztb := aw_zw 331 (by decide +kernel) rfl
theorem tw_332 : (Cond.code ({ cls := "FormWright", name := "typeOfText", desc := "()I" } : MethodName) prog_1_method_5_code (1 : Nat) (Option.some FieldType.int)) ∈ aw_ztb := aw_zw 332 (by decide +kernel) rfl
theorem tw_334 : (Cond.methodLink "FormWright" (63 : Nat) ({ cls := "FormWright$Source", name := "made", desc := "()LFormWright$Formula;" } : MethodName)) ∈ aw_ztb := aw_zw 334 (by decide +kernel) rfl
theorem tw_335 : (Cond.instanceMethod ({ cls := "FormWright$Source", name := "made", desc := "()LFormWright$Formula;" } : MethodName)) ∈ aw_ztb := aw_zw 335 (by decide +kernel) rfl
theorem tw_336 : (Cond.selects "FormWright$Source" ({ cls := "FormWright$Source", name := "made", desc := "()LFormWright$Formula;" } : MethodName) ({ cls := "FormWright$Source", name := "made", desc := "()LFormWright$Formula;" } : MethodName)) ∈ aw_ztb := aw_zw 336 (by decide +kernel) rfl
theorem tw_337 : (Cond.code ({ cls := "FormWright$Source", name := "made", desc := "()LFormWright$Formula;" } : MethodName) prog_6_method_6_code (1 : Nat) (Option.some (FieldType.object "FormWright$Formula"))) ∈ aw_ztb := aw_zw 337 (by decide +kernel) rfl
theorem tw_338 : (Cond.classLink "FormWright$Source" (42 : Nat) "FormWright$Formula") ∈ aw_ztb := aw_zw 338 (by decide +kernel) rfl
theorem tw_339 : (Cond.instantiable "FormWright$Formula" (4 : Nat)) ∈ aw_ztb := aw_zw 339 (by decide +kernel) rfl
theorem tw_340 : (Cond.methodLink "FormWright$Source" (44 : Nat) ({ cls := "java/util/Arrays", name := "copyOf", desc := "([II)[I" } : MethodName)) ∈ aw_ztb := aw_zw 340 (by decide +kernel) rfl
theorem tw_341 : (Cond.static ({ cls := "java/util/Arrays", name := "copyOf", desc := "([II)[I" } : MethodName)) ∈ aw_ztb := aw_zw 341 (by decide +kernel) rfl
theorem tw_342 : (Cond.code ({ cls := "java/util/Arrays", name := "copyOf", desc := "([II)[I" } : MethodName) prog_21_method_123_code (3 : Nat) (Option.some (FieldType.array FieldType.int))) ∈ aw_ztb := aw_zw 342 (by decide +kernel) rfl
theorem tw_343 : (Cond.methodLink "java/util/Arrays" (316 : Nat) ({ cls := "[I", name := "clone", desc := "()Ljava/lang/Object;" } : MethodName)) ∈ aw_ztb := aw_zw 343 (by decide +kernel) rfl
theorem tw_344 : (Cond.sameMethod "[I" "java/lang/Object" "clone" "()Ljava/lang/Object;") ∈ aw_ztb := aw_zw 344 (by decide +kernel) rfl
theorem tw_345 : (Cond.native ({ cls := "java/lang/Object", name := "clone", desc := "()Ljava/lang/Object;" } : MethodName)) ∈ aw_ztb := aw_zw 345 (by decide +kernel) rfl
theorem tw_346 : (Cond.instanceMethod ({ cls := "java/lang/Object", name := "clone", desc := "()Ljava/lang/Object;" } : MethodName)) ∈ aw_ztb := aw_zw 346 (by decide +kernel) rfl
theorem tw_347 : (Cond.selects "[I" ({ cls := "[I", name := "clone", desc := "()Ljava/lang/Object;" } : MethodName) ({ cls := "java/lang/Object", name := "clone", desc := "()Ljava/lang/Object;" } : MethodName)) ∈ aw_ztb := aw_zw 347 (by decide +kernel) rfl
theorem tw_348 : (Cond.castable "[I" "java/lang/Cloneable") ∈ lw_tbl := List.mem_of_getElem? (i := 348) (by decide +kernel)
theorem tw_349 : (Cond.classLink "java/util/Arrays" (317 : Nat) "[I") ∈ aw_ztb := aw_zw 349 (by decide +kernel) rfl
theorem tw_350 : (Cond.methodLink "java/util/Arrays" (304 : Nat) ({ cls := "java/lang/Math", name := "min", desc := "(II)I" } : MethodName)) ∈ aw_ztb := aw_zw 350 (by decide +kernel) rfl
theorem tw_351 : (Cond.static ({ cls := "java/lang/Math", name := "min", desc := "(II)I" } : MethodName)) ∈ aw_ztb := aw_zw 351 (by decide +kernel) rfl
theorem tw_352 : (Cond.code ({ cls := "java/lang/Math", name := "min", desc := "(II)I" } : MethodName) prog_16_method_69_code (2 : Nat) (Option.some FieldType.int)) ∈ aw_ztb := aw_zw 352 (by decide +kernel) rfl
theorem tw_353 : (Cond.methodLink "java/util/Arrays" (150 : Nat) ({ cls := "java/lang/System", name := "arraycopy", desc := "(Ljava/lang/Object;ILjava/lang/Object;II)V" } : MethodName)) ∈ aw_ztb := aw_zw 353 (by decide +kernel) rfl
theorem tw_354 : (Cond.static ({ cls := "java/lang/System", name := "arraycopy", desc := "(Ljava/lang/Object;ILjava/lang/Object;II)V" } : MethodName)) ∈ aw_ztb := aw_zw 354 (by decide +kernel) rfl
theorem tw_355 : (Cond.native ({ cls := "java/lang/System", name := "arraycopy", desc := "(Ljava/lang/Object;ILjava/lang/Object;II)V" } : MethodName)) ∈ aw_ztb := aw_zw 355 (by decide +kernel) rfl
theorem tw_356 : (Cond.methodLink "FormWright$Source" (50 : Nat) ({ cls := "FormWright$Formula", name := "<init>", desc := "([I[II)V" } : MethodName)) ∈ aw_ztb := aw_zw 356 (by decide +kernel) rfl
theorem tw_357 : (Cond.instanceMethod ({ cls := "FormWright$Formula", name := "<init>", desc := "([I[II)V" } : MethodName)) ∈ aw_ztb := aw_zw 357 (by decide +kernel) rfl
theorem tw_358 : (Cond.code ({ cls := "FormWright$Formula", name := "<init>", desc := "([I[II)V" } : MethodName) prog_4_method_1_code (4 : Nat) (Option.none : Option FieldType)) ∈ aw_ztb := aw_zw 358 (by decide +kernel) rfl
theorem tw_359 : (Cond.methodLink "FormWright$Formula" (3 : Nat) ({ cls := "java/lang/Object", name := "<init>", desc := "()V" } : MethodName)) ∈ aw_ztb := aw_zw 359 (by decide +kernel) rfl
theorem tw_360 : (Cond.fieldLink "FormWright$Formula" (9 : Nat) "FormWright$Formula" "steps" "[I") ∈ aw_ztb := aw_zw 360 (by decide +kernel) rfl
theorem tw_361 : (Cond.fieldLink "FormWright$Formula" (15 : Nat) "FormWright$Formula" "stack" "[I") ∈ aw_ztb := aw_zw 361 (by decide +kernel) rfl
theorem tw_362 : (Cond.fieldLink "FormWright$Formula" (18 : Nat) "FormWright$Formula" "plainSigns" "[I") ∈ aw_ztb := aw_zw 362 (by decide +kernel) rfl
theorem tw_363 : (Cond.fieldLink "FormWright$Formula" (21 : Nat) "FormWright$Formula" "letters" "I") ∈ aw_ztb := aw_zw 363 (by decide +kernel) rfl
theorem tw_373 : (Cond.methodLink "FormWright" (67 : Nat) ({ cls := "FormWright$Form", name := "typeOfFormula", desc := "(LFormWright$Formula;)I" } : MethodName)) ∈ aw_ztb := aw_zw 373 (by decide +kernel) rfl
theorem tw_374 : (Cond.instanceMethod ({ cls := "FormWright$Form", name := "typeOfFormula", desc := "(LFormWright$Formula;)I" } : MethodName)) ∈ aw_ztb := aw_zw 374 (by decide +kernel) rfl
theorem tw_375 : (Cond.selects "FormWright$Form" ({ cls := "FormWright$Form", name := "typeOfFormula", desc := "(LFormWright$Formula;)I" } : MethodName) ({ cls := "FormWright$Form", name := "typeOfFormula", desc := "(LFormWright$Formula;)I" } : MethodName)) ∈ aw_ztb := aw_zw 375 (by decide +kernel) rfl
theorem tw_376 : (Cond.code ({ cls := "FormWright$Form", name := "typeOfFormula", desc := "(LFormWright$Formula;)I" } : MethodName) prog_3_method_8_code (2 : Nat) (Option.some FieldType.int)) ∈ aw_ztb := aw_zw 376 (by decide +kernel) rfl
theorem tw_377 : (Cond.methodLink "FormWright$Form" (42 : Nat) ({ cls := "FormWright$Formula", name := "readFor", desc := "(LFormWright$Reading;)I" } : MethodName)) ∈ aw_ztb := aw_zw 377 (by decide +kernel) rfl
theorem tw_378 : (Cond.instanceMethod ({ cls := "FormWright$Formula", name := "readFor", desc := "(LFormWright$Reading;)I" } : MethodName)) ∈ aw_ztb := aw_zw 378 (by decide +kernel) rfl
theorem tw_379 : (Cond.selects "FormWright$Formula" ({ cls := "FormWright$Formula", name := "readFor", desc := "(LFormWright$Reading;)I" } : MethodName) ({ cls := "FormWright$Formula", name := "readFor", desc := "(LFormWright$Reading;)I" } : MethodName)) ∈ aw_ztb := aw_zw 379 (by decide +kernel) rfl
theorem tw_380 : (Cond.code ({ cls := "FormWright$Formula", name := "readFor", desc := "(LFormWright$Reading;)I" } : MethodName) prog_4_method_5_code (7 : Nat) (Option.some FieldType.int)) ∈ aw_ztb := aw_zw 380 (by decide +kernel) rfl
theorem tw_381 : (Cond.methodLink "FormWright$Formula" (29 : Nat) ({ cls := "FormWright$Reading", name := "ofNumber", desc := "(I)I" } : MethodName)) ∈ aw_ztb := aw_zw 381 (by decide +kernel) rfl
theorem tw_382 : (Cond.declares ({ cls := "FormWright$Reading", name := "ofNumber", desc := "(I)I" } : MethodName)) ∈ lw_tbl := List.mem_of_getElem? (i := 382) (by decide +kernel)
theorem tw_383 : (Cond.sameMethod "FormWright$Reading" "FormWright$Reading" "ofNumber" "(I)I") ∈ aw_ztb := aw_zw 383 (by decide +kernel) rfl
theorem tw_384 : (Cond.selects "FormWright$Types" ({ cls := "FormWright$Reading", name := "ofNumber", desc := "(I)I" } : MethodName) ({ cls := "FormWright$Types", name := "ofNumber", desc := "(I)I" } : MethodName)) ∈ aw_ztb := aw_zw 384 (by decide +kernel) rfl
theorem tw_385 : (Cond.instanceMethod ({ cls := "FormWright$Types", name := "ofNumber", desc := "(I)I" } : MethodName)) ∈ aw_ztb := aw_zw 385 (by decide +kernel) rfl
theorem tw_386 : (Cond.code ({ cls := "FormWright$Types", name := "ofNumber", desc := "(I)I" } : MethodName) prog_7_method_5_code (2 : Nat) (Option.some FieldType.int)) ∈ aw_ztb := aw_zw 386 (by decide +kernel) rfl
theorem tw_387 : (Cond.selects "FormWright$Values" ({ cls := "FormWright$Reading", name := "ofNumber", desc := "(I)I" } : MethodName) ({ cls := "FormWright$Values", name := "ofNumber", desc := "(I)I" } : MethodName)) ∈ aw_ztb := aw_zw 387 (by decide +kernel) rfl
theorem tw_388 : (Cond.instanceMethod ({ cls := "FormWright$Values", name := "ofNumber", desc := "(I)I" } : MethodName)) ∈ aw_ztb := aw_zw 388 (by decide +kernel) rfl
theorem tw_389 : (Cond.code ({ cls := "FormWright$Values", name := "ofNumber", desc := "(I)I" } : MethodName) prog_8_method_5_code (2 : Nat) (Option.some FieldType.int)) ∈ aw_ztb := aw_zw 389 (by decide +kernel) rfl
theorem tw_390 : (Cond.methodLink "FormWright$Formula" (34 : Nat) ({ cls := "FormWright$Reading", name := "ofField", desc := "(I)I" } : MethodName)) ∈ aw_ztb := aw_zw 390 (by decide +kernel) rfl
theorem tw_391 : (Cond.declares ({ cls := "FormWright$Reading", name := "ofField", desc := "(I)I" } : MethodName)) ∈ lw_tbl := List.mem_of_getElem? (i := 391) (by decide +kernel)
theorem tw_392 : (Cond.sameMethod "FormWright$Reading" "FormWright$Reading" "ofField" "(I)I") ∈ aw_ztb := aw_zw 392 (by decide +kernel) rfl
theorem tw_393 : (Cond.selects "FormWright$Types" ({ cls := "FormWright$Reading", name := "ofField", desc := "(I)I" } : MethodName) ({ cls := "FormWright$Types", name := "ofField", desc := "(I)I" } : MethodName)) ∈ aw_ztb := aw_zw 393 (by decide +kernel) rfl
theorem tw_394 : (Cond.instanceMethod ({ cls := "FormWright$Types", name := "ofField", desc := "(I)I" } : MethodName)) ∈ aw_ztb := aw_zw 394 (by decide +kernel) rfl
theorem tw_395 : (Cond.code ({ cls := "FormWright$Types", name := "ofField", desc := "(I)I" } : MethodName) prog_7_method_6_code (3 : Nat) (Option.some FieldType.int)) ∈ aw_ztb := aw_zw 395 (by decide +kernel) rfl
theorem tw_396 : (Cond.methodLink "FormWright$Types" (23 : Nat) ({ cls := "FormWright$Types", name := "at", desc := "(I)I" } : MethodName)) ∈ aw_ztb := aw_zw 396 (by decide +kernel) rfl
theorem tw_397 : (Cond.instanceMethod ({ cls := "FormWright$Types", name := "at", desc := "(I)I" } : MethodName)) ∈ aw_ztb := aw_zw 397 (by decide +kernel) rfl
theorem tw_398 : (Cond.selects "FormWright$Types" ({ cls := "FormWright$Types", name := "at", desc := "(I)I" } : MethodName) ({ cls := "FormWright$Types", name := "at", desc := "(I)I" } : MethodName)) ∈ aw_ztb := aw_zw 398 (by decide +kernel) rfl
theorem tw_399 : (Cond.code ({ cls := "FormWright$Types", name := "at", desc := "(I)I" } : MethodName) prog_7_method_3_code (2 : Nat) (Option.some FieldType.int)) ∈ aw_ztb := aw_zw 399 (by decide +kernel) rfl
theorem tw_400 : (Cond.selects "FormWright$Values" ({ cls := "FormWright$Reading", name := "ofField", desc := "(I)I" } : MethodName) ({ cls := "FormWright$Values", name := "ofField", desc := "(I)I" } : MethodName)) ∈ aw_ztb := aw_zw 400 (by decide +kernel) rfl
theorem tw_401 : (Cond.instanceMethod ({ cls := "FormWright$Values", name := "ofField", desc := "(I)I" } : MethodName)) ∈ aw_ztb := aw_zw 401 (by decide +kernel) rfl
theorem tw_402 : (Cond.code ({ cls := "FormWright$Values", name := "ofField", desc := "(I)I" } : MethodName) prog_8_method_6_code (2 : Nat) (Option.some FieldType.int)) ∈ aw_ztb := aw_zw 402 (by decide +kernel) rfl
theorem tw_403 : (Cond.methodLink "FormWright$Values" (23 : Nat) ({ cls := "FormWright$Values", name := "at", desc := "(I)I" } : MethodName)) ∈ aw_ztb := aw_zw 403 (by decide +kernel) rfl
theorem tw_404 : (Cond.instanceMethod ({ cls := "FormWright$Values", name := "at", desc := "(I)I" } : MethodName)) ∈ aw_ztb := aw_zw 404 (by decide +kernel) rfl
theorem tw_405 : (Cond.selects "FormWright$Values" ({ cls := "FormWright$Values", name := "at", desc := "(I)I" } : MethodName) ({ cls := "FormWright$Values", name := "at", desc := "(I)I" } : MethodName)) ∈ aw_ztb := aw_zw 405 (by decide +kernel) rfl
theorem tw_406 : (Cond.code ({ cls := "FormWright$Values", name := "at", desc := "(I)I" } : MethodName) prog_8_method_3_code (2 : Nat) (Option.some FieldType.int)) ∈ aw_ztb := aw_zw 406 (by decide +kernel) rfl
theorem tw_407 : (Cond.methodLink "FormWright$Formula" (37 : Nat) ({ cls := "FormWright$Reading", name := "ofNot", desc := "(I)I" } : MethodName)) ∈ aw_ztb := aw_zw 407 (by decide +kernel) rfl
theorem tw_408 : (Cond.declares ({ cls := "FormWright$Reading", name := "ofNot", desc := "(I)I" } : MethodName)) ∈ lw_tbl := List.mem_of_getElem? (i := 408) (by decide +kernel)
theorem tw_409 : (Cond.sameMethod "FormWright$Reading" "FormWright$Reading" "ofNot" "(I)I") ∈ aw_ztb := aw_zw 409 (by decide +kernel) rfl
theorem tw_410 : (Cond.selects "FormWright$Types" ({ cls := "FormWright$Reading", name := "ofNot", desc := "(I)I" } : MethodName) ({ cls := "FormWright$Types", name := "ofNot", desc := "(I)I" } : MethodName)) ∈ aw_ztb := aw_zw 410 (by decide +kernel) rfl
theorem tw_411 : (Cond.instanceMethod ({ cls := "FormWright$Types", name := "ofNot", desc := "(I)I" } : MethodName)) ∈ aw_ztb := aw_zw 411 (by decide +kernel) rfl
theorem tw_412 : (Cond.code ({ cls := "FormWright$Types", name := "ofNot", desc := "(I)I" } : MethodName) prog_7_method_7_code (2 : Nat) (Option.some FieldType.int)) ∈ aw_ztb := aw_zw 412 (by decide +kernel) rfl
theorem tw_413 : (Cond.selects "FormWright$Values" ({ cls := "FormWright$Reading", name := "ofNot", desc := "(I)I" } : MethodName) ({ cls := "FormWright$Values", name := "ofNot", desc := "(I)I" } : MethodName)) ∈ aw_ztb := aw_zw 413 (by decide +kernel) rfl
theorem tw_414 : (Cond.instanceMethod ({ cls := "FormWright$Values", name := "ofNot", desc := "(I)I" } : MethodName)) ∈ aw_ztb := aw_zw 414 (by decide +kernel) rfl
theorem tw_415 : (Cond.code ({ cls := "FormWright$Values", name := "ofNot", desc := "(I)I" } : MethodName) prog_8_method_7_code (2 : Nat) (Option.some FieldType.int)) ∈ aw_ztb := aw_zw 415 (by decide +kernel) rfl
theorem tw_416 : (Cond.methodLink "FormWright$Formula" (40 : Nat) ({ cls := "FormWright$Reading", name := "ofSign", desc := "(III)I" } : MethodName)) ∈ aw_ztb := aw_zw 416 (by decide +kernel) rfl
theorem tw_417 : (Cond.declares ({ cls := "FormWright$Reading", name := "ofSign", desc := "(III)I" } : MethodName)) ∈ lw_tbl := List.mem_of_getElem? (i := 417) (by decide +kernel)
theorem tw_418 : (Cond.sameMethod "FormWright$Reading" "FormWright$Reading" "ofSign" "(III)I") ∈ aw_ztb := aw_zw 418 (by decide +kernel) rfl
theorem tw_419 : (Cond.selects "FormWright$Types" ({ cls := "FormWright$Reading", name := "ofSign", desc := "(III)I" } : MethodName) ({ cls := "FormWright$Types", name := "ofSign", desc := "(III)I" } : MethodName)) ∈ aw_ztb := aw_zw 419 (by decide +kernel) rfl
theorem tw_420 : (Cond.instanceMethod ({ cls := "FormWright$Types", name := "ofSign", desc := "(III)I" } : MethodName)) ∈ aw_ztb := aw_zw 420 (by decide +kernel) rfl
theorem tw_421 : (Cond.code ({ cls := "FormWright$Types", name := "ofSign", desc := "(III)I" } : MethodName) prog_7_method_8_code (4 : Nat) (Option.some FieldType.int)) ∈ aw_ztb := aw_zw 421 (by decide +kernel) rfl
theorem tw_422 : (Cond.methodLink "FormWright$Types" (27 : Nat) ({ cls := "FormWright$Types", name := "areAlike", desc := "(II)Z" } : MethodName)) ∈ aw_ztb := aw_zw 422 (by decide +kernel) rfl
theorem tw_423 : (Cond.static ({ cls := "FormWright$Types", name := "areAlike", desc := "(II)Z" } : MethodName)) ∈ aw_ztb := aw_zw 423 (by decide +kernel) rfl
theorem tw_424 : (Cond.code ({ cls := "FormWright$Types", name := "areAlike", desc := "(II)Z" } : MethodName) prog_7_method_9_code (2 : Nat) (Option.some FieldType.boolean)) ∈ aw_ztb := aw_zw 424 (by decide +kernel) rfl
theorem tw_425 : (Cond.selects "FormWright$Values" ({ cls := "FormWright$Reading", name := "ofSign", desc := "(III)I" } : MethodName) ({ cls := "FormWright$Values", name := "ofSign", desc := "(III)I" } : MethodName)) ∈ aw_ztb := aw_zw 425 (by decide +kernel) rfl
theorem tw_426 : (Cond.instanceMethod ({ cls := "FormWright$Values", name := "ofSign", desc := "(III)I" } : MethodName)) ∈ aw_ztb := aw_zw 426 (by decide +kernel) rfl
theorem tw_427 : (Cond.code ({ cls := "FormWright$Values", name := "ofSign", desc := "(III)I" } : MethodName) prog_8_method_8_code (4 : Nat) (Option.some FieldType.int)) ∈ aw_ztb := aw_zw 427 (by decide +kernel) rfl
theorem tw_429 : (Cond.static ({ cls := "FormWrightLaw", name := "setType", desc := "(LFormWright;II[J)I" } : MethodName)) ∈ aw_ztb := aw_zw 429 (by decide +kernel) rfl
theorem tw_430 : (Cond.codeWith ({ cls := "FormWrightLaw", name := "setType", desc := "(LFormWright;II[J)I" } : MethodName) method_5_code (5 : Nat) (Option.some FieldType.int) [((0 : Nat), (10 : Nat), (13 : Nat), (23 : Nat)), ((0 : Nat), (10 : Nat), (17 : Nat), (25 : Nat))]) ∈ aw_ztb := aw_zw 430 (by decide +kernel) rfl
theorem tw_431 : (Cond.classLink "FormWrightLaw" (23 : Nat) "java/lang/IndexOutOfBoundsException") ∈ aw_ztb := aw_zw 431 (by decide +kernel) rfl
theorem tw_432 : (Cond.classLink "FormWrightLaw" (25 : Nat) "java/lang/IllegalArgumentException") ∈ aw_ztb := aw_zw 432 (by decide +kernel) rfl
theorem tw_433 : (Cond.methodLink "FormWrightLaw" (19 : Nat) ({ cls := "FormWright", name := "setType", desc := "(II)I" } : MethodName)) ∈ aw_ztb := aw_zw 433 (by decide +kernel) rfl
theorem tw_434 : (Cond.instanceMethod ({ cls := "FormWright", name := "setType", desc := "(II)I" } : MethodName)) ∈ aw_ztb := aw_zw 434 (by decide +kernel) rfl
theorem tw_435 : (Cond.selects "FormWright" ({ cls := "FormWright", name := "setType", desc := "(II)I" } : MethodName) ({ cls := "FormWright", name := "setType", desc := "(II)I" } : MethodName)) ∈ aw_ztb := aw_zw 435 (by decide +kernel) rfl
theorem tw_436 : (Cond.code ({ cls := "FormWright", name := "setType", desc := "(II)I" } : MethodName) prog_1_method_6_code (3 : Nat) (Option.some FieldType.int)) ∈ aw_ztb := aw_zw 436 (by decide +kernel) rfl
theorem tw_437 : (Cond.methodLink "FormWright" (71 : Nat) ({ cls := "FormWright", name := "requireField", desc := "(I)V" } : MethodName)) ∈ aw_ztb := aw_zw 437 (by decide +kernel) rfl
theorem tw_438 : (Cond.static ({ cls := "FormWright", name := "requireField", desc := "(I)V" } : MethodName)) ∈ aw_ztb := aw_zw 438 (by decide +kernel) rfl
theorem tw_439 : (Cond.code ({ cls := "FormWright", name := "requireField", desc := "(I)V" } : MethodName) prog_1_method_28_code (1 : Nat) (Option.none : Option FieldType)) ∈ aw_ztb := aw_zw 439 (by decide +kernel) rfl
theorem tw_440 : (Cond.classLink "FormWright" (227 : Nat) "java/lang/IndexOutOfBoundsException") ∈ aw_ztb := aw_zw 440 (by decide +kernel) rfl
theorem tw_441 : (Cond.instantiable "java/lang/IndexOutOfBoundsException" (6 : Nat)) ∈ aw_ztb := aw_zw 441 (by decide +kernel) rfl
theorem tw_442 : (Cond.castable "java/lang/IndexOutOfBoundsException" "java/lang/IndexOutOfBoundsException") ∈ lw_tbl := List.mem_of_getElem? (i := 442) (by decide +kernel)
theorem tw_456 : (Cond.classLink "FormWright" (75 : Nat) "java/lang/IllegalArgumentException") ∈ aw_ztb := aw_zw 456 (by decide +kernel) rfl
theorem tw_457 : (Cond.instantiable "java/lang/IllegalArgumentException" (6 : Nat)) ∈ aw_ztb := aw_zw 457 (by decide +kernel) rfl
theorem tw_458 : (Cond.castable "java/lang/IllegalArgumentException" "java/lang/IllegalArgumentException") ∈ lw_tbl := List.mem_of_getElem? (i := 458) (by decide +kernel)
theorem tw_472 : (Cond.methodLink "FormWright" (80 : Nat) ({ cls := "FormWright$Form", name := "giveType", desc := "(II)V" } : MethodName)) ∈ aw_ztb := aw_zw 472 (by decide +kernel) rfl
theorem tw_473 : (Cond.instanceMethod ({ cls := "FormWright$Form", name := "giveType", desc := "(II)V" } : MethodName)) ∈ aw_ztb := aw_zw 473 (by decide +kernel) rfl
theorem tw_474 : (Cond.selects "FormWright$Form" ({ cls := "FormWright$Form", name := "giveType", desc := "(II)V" } : MethodName) ({ cls := "FormWright$Form", name := "giveType", desc := "(II)V" } : MethodName)) ∈ aw_ztb := aw_zw 474 (by decide +kernel) rfl
theorem tw_475 : (Cond.code ({ cls := "FormWright$Form", name := "giveType", desc := "(II)V" } : MethodName) prog_3_method_4_code (3 : Nat) (Option.none : Option FieldType)) ∈ aw_ztb := aw_zw 475 (by decide +kernel) rfl
theorem tw_476 : (Cond.methodLink "FormWright$Form" (34 : Nat) ({ cls := "FormWright$Types", name := "give", desc := "(II)V" } : MethodName)) ∈ aw_ztb := aw_zw 476 (by decide +kernel) rfl
theorem tw_477 : (Cond.instanceMethod ({ cls := "FormWright$Types", name := "give", desc := "(II)V" } : MethodName)) ∈ aw_ztb := aw_zw 477 (by decide +kernel) rfl
theorem tw_478 : (Cond.selects "FormWright$Types" ({ cls := "FormWright$Types", name := "give", desc := "(II)V" } : MethodName) ({ cls := "FormWright$Types", name := "give", desc := "(II)V" } : MethodName)) ∈ aw_ztb := aw_zw 478 (by decide +kernel) rfl
theorem tw_479 : (Cond.code ({ cls := "FormWright$Types", name := "give", desc := "(II)V" } : MethodName) prog_7_method_4_code (3 : Nat) (Option.none : Option FieldType)) ∈ aw_ztb := aw_zw 479 (by decide +kernel) rfl
theorem tw_480 : (Cond.methodLink "FormWright" (84 : Nat) ({ cls := "FormWright$Form", name := "countBroken", desc := "()I" } : MethodName)) ∈ aw_ztb := aw_zw 480 (by decide +kernel) rfl
theorem tw_481 : (Cond.instanceMethod ({ cls := "FormWright$Form", name := "countBroken", desc := "()I" } : MethodName)) ∈ aw_ztb := aw_zw 481 (by decide +kernel) rfl
theorem tw_482 : (Cond.selects "FormWright$Form" ({ cls := "FormWright$Form", name := "countBroken", desc := "()I" } : MethodName) ({ cls := "FormWright$Form", name := "countBroken", desc := "()I" } : MethodName)) ∈ aw_ztb := aw_zw 482 (by decide +kernel) rfl
theorem tw_483 : (Cond.code ({ cls := "FormWright$Form", name := "countBroken", desc := "()I" } : MethodName) prog_3_method_12_code (3 : Nat) (Option.some FieldType.int)) ∈ aw_ztb := aw_zw 483 (by decide +kernel) rfl
theorem tw_484 : (Cond.methodLink "FormWright$Form" (54 : Nat) ({ cls := "FormWright$Form", name := "hasBroken", desc := "(I)Z" } : MethodName)) ∈ aw_ztb := aw_zw 484 (by decide +kernel) rfl
theorem tw_485 : (Cond.instanceMethod ({ cls := "FormWright$Form", name := "hasBroken", desc := "(I)Z" } : MethodName)) ∈ aw_ztb := aw_zw 485 (by decide +kernel) rfl
theorem tw_486 : (Cond.selects "FormWright$Form" ({ cls := "FormWright$Form", name := "hasBroken", desc := "(I)Z" } : MethodName) ({ cls := "FormWright$Form", name := "hasBroken", desc := "(I)Z" } : MethodName)) ∈ aw_ztb := aw_zw 486 (by decide +kernel) rfl
theorem tw_487 : (Cond.code ({ cls := "FormWright$Form", name := "hasBroken", desc := "(I)Z" } : MethodName) prog_3_method_11_code (3 : Nat) (Option.some FieldType.boolean)) ∈ aw_ztb := aw_zw 487 (by decide +kernel) rfl
theorem tw_488 : (Cond.methodLink "FormWright$Form" (38 : Nat) ({ cls := "FormWright$Form", name := "formulaAt", desc := "(I)LFormWright$Formula;" } : MethodName)) ∈ aw_ztb := aw_zw 488 (by decide +kernel) rfl
theorem tw_489 : (Cond.instanceMethod ({ cls := "FormWright$Form", name := "formulaAt", desc := "(I)LFormWright$Formula;" } : MethodName)) ∈ aw_ztb := aw_zw 489 (by decide +kernel) rfl
theorem tw_490 : (Cond.selects "FormWright$Form" ({ cls := "FormWright$Form", name := "formulaAt", desc := "(I)LFormWright$Formula;" } : MethodName) ({ cls := "FormWright$Form", name := "formulaAt", desc := "(I)LFormWright$Formula;" } : MethodName)) ∈ aw_ztb := aw_zw 490 (by decide +kernel) rfl
theorem tw_491 : (Cond.code ({ cls := "FormWright$Form", name := "formulaAt", desc := "(I)LFormWright$Formula;" } : MethodName) prog_3_method_5_code (2 : Nat) (Option.some (FieldType.object "FormWright$Formula"))) ∈ aw_ztb := aw_zw 491 (by decide +kernel) rfl
theorem tw_492 : (Cond.methodLink "FormWright$Form" (50 : Nat) ({ cls := "FormWright$Form", name := "wouldBreak", desc := "(ILFormWright$Formula;)Z" } : MethodName)) ∈ aw_ztb := aw_zw 492 (by decide +kernel) rfl
theorem tw_493 : (Cond.instanceMethod ({ cls := "FormWright$Form", name := "wouldBreak", desc := "(ILFormWright$Formula;)Z" } : MethodName)) ∈ aw_ztb := aw_zw 493 (by decide +kernel) rfl
theorem tw_494 : (Cond.selects "FormWright$Form" ({ cls := "FormWright$Form", name := "wouldBreak", desc := "(ILFormWright$Formula;)Z" } : MethodName) ({ cls := "FormWright$Form", name := "wouldBreak", desc := "(ILFormWright$Formula;)Z" } : MethodName)) ∈ aw_ztb := aw_zw 494 (by decide +kernel) rfl
theorem tw_495 : (Cond.code ({ cls := "FormWright$Form", name := "wouldBreak", desc := "(ILFormWright$Formula;)Z" } : MethodName) prog_3_method_10_code (4 : Nat) (Option.some FieldType.boolean)) ∈ aw_ztb := aw_zw 495 (by decide +kernel) rfl
theorem tw_496 : (Cond.methodLink "FormWright$Form" (30 : Nat) ({ cls := "FormWright$Types", name := "at", desc := "(I)I" } : MethodName)) ∈ aw_ztb := aw_zw 496 (by decide +kernel) rfl
theorem tw_497 : (Cond.methodLink "FormWright$Form" (46 : Nat) ({ cls := "FormWright$Form", name := "typeOfFormula", desc := "(LFormWright$Formula;)I" } : MethodName)) ∈ aw_ztb := aw_zw 497 (by decide +kernel) rfl
theorem tw_499 : (Cond.static ({ cls := "FormWrightLaw", name := "setFormula", desc := "(LFormWright;I[J)I" } : MethodName)) ∈ aw_ztb := aw_zw 499 (by decide +kernel) rfl
theorem tw_500 : (Cond.codeWith ({ cls := "FormWrightLaw", name := "setFormula", desc := "(LFormWright;I[J)I" } : MethodName) method_6_code (4 : Nat) (Option.some FieldType.int) [((0 : Nat), (9 : Nat), (12 : Nat), (23 : Nat)), ((0 : Nat), (9 : Nat), (15 : Nat), (25 : Nat)), ((0 : Nat), (9 : Nat), (18 : Nat), (13 : Nat))]) ∈ aw_ztb := aw_zw 500 (by decide +kernel) rfl
theorem tw_501 : (Cond.methodLink "FormWrightLaw" (27 : Nat) ({ cls := "FormWright", name := "setFormula", desc := "(I)I" } : MethodName)) ∈ aw_ztb := aw_zw 501 (by decide +kernel) rfl
theorem tw_502 : (Cond.instanceMethod ({ cls := "FormWright", name := "setFormula", desc := "(I)I" } : MethodName)) ∈ aw_ztb := aw_zw 502 (by decide +kernel) rfl
theorem tw_503 : (Cond.selects "FormWright" ({ cls := "FormWright", name := "setFormula", desc := "(I)I" } : MethodName) ({ cls := "FormWright", name := "setFormula", desc := "(I)I" } : MethodName)) ∈ aw_ztb := aw_zw 503 (by decide +kernel) rfl
theorem tw_504 : (Cond.code ({ cls := "FormWright", name := "setFormula", desc := "(I)I" } : MethodName) prog_1_method_7_code (3 : Nat) (Option.some FieldType.int)) ∈ aw_ztb := aw_zw 504 (by decide +kernel) rfl
theorem tw_505 : (Cond.methodLink "FormWright" (87 : Nat) ({ cls := "FormWright", name := "requireFormula", desc := "(I)V" } : MethodName)) ∈ aw_ztb := aw_zw 505 (by decide +kernel) rfl
theorem tw_506 : (Cond.static ({ cls := "FormWright", name := "requireFormula", desc := "(I)V" } : MethodName)) ∈ aw_ztb := aw_zw 506 (by decide +kernel) rfl
theorem tw_507 : (Cond.code ({ cls := "FormWright", name := "requireFormula", desc := "(I)V" } : MethodName) prog_1_method_29_code (1 : Nat) (Option.none : Option FieldType)) ∈ aw_ztb := aw_zw 507 (by decide +kernel) rfl
theorem tw_509 : (Cond.methodLink "FormWright" (90 : Nat) ({ cls := "FormWright$Form", name := "wouldBreak", desc := "(ILFormWright$Formula;)Z" } : MethodName)) ∈ aw_ztb := aw_zw 509 (by decide +kernel) rfl
theorem tw_511 : (Cond.methodLink "FormWright" (96 : Nat) ({ cls := "FormWright$Form", name := "wouldCircle", desc := "(ILFormWright$Formula;)Z" } : MethodName)) ∈ aw_ztb := aw_zw 511 (by decide +kernel) rfl
theorem tw_512 : (Cond.instanceMethod ({ cls := "FormWright$Form", name := "wouldCircle", desc := "(ILFormWright$Formula;)Z" } : MethodName)) ∈ aw_ztb := aw_zw 512 (by decide +kernel) rfl
theorem tw_513 : (Cond.selects "FormWright$Form" ({ cls := "FormWright$Form", name := "wouldCircle", desc := "(ILFormWright$Formula;)Z" } : MethodName) ({ cls := "FormWright$Form", name := "wouldCircle", desc := "(ILFormWright$Formula;)Z" } : MethodName)) ∈ aw_ztb := aw_zw 513 (by decide +kernel) rfl
theorem tw_514 : (Cond.code ({ cls := "FormWright$Form", name := "wouldCircle", desc := "(ILFormWright$Formula;)Z" } : MethodName) prog_3_method_13_code (6 : Nat) (Option.some FieldType.boolean)) ∈ aw_ztb := aw_zw 514 (by decide +kernel) rfl
theorem tw_515 : (Cond.methodLink "FormWright$Form" (58 : Nat) ({ cls := "FormWright$Formula", name := "letterSet", desc := "()I" } : MethodName)) ∈ aw_ztb := aw_zw 515 (by decide +kernel) rfl
theorem tw_516 : (Cond.instanceMethod ({ cls := "FormWright$Formula", name := "letterSet", desc := "()I" } : MethodName)) ∈ aw_ztb := aw_zw 516 (by decide +kernel) rfl
theorem tw_517 : (Cond.selects "FormWright$Formula" ({ cls := "FormWright$Formula", name := "letterSet", desc := "()I" } : MethodName) ({ cls := "FormWright$Formula", name := "letterSet", desc := "()I" } : MethodName)) ∈ aw_ztb := aw_zw 517 (by decide +kernel) rfl
theorem tw_518 : (Cond.code ({ cls := "FormWright$Formula", name := "letterSet", desc := "()I" } : MethodName) prog_4_method_2_code (1 : Nat) (Option.some FieldType.int)) ∈ aw_ztb := aw_zw 518 (by decide +kernel) rfl
theorem tw_519 : (Cond.methodLinkNest "FormWright$Form" (62 : Nat) ({ cls := "FormWright", name := "isIn", desc := "(II)Z" } : MethodName) "FormWright") ∈ lw_tbl := List.mem_of_getElem? (i := 519) (by decide +kernel)
theorem tw_520 : (Cond.static ({ cls := "FormWright", name := "isIn", desc := "(II)Z" } : MethodName)) ∈ aw_ztb := aw_zw 520 (by decide +kernel) rfl
theorem tw_521 : (Cond.code ({ cls := "FormWright", name := "isIn", desc := "(II)Z" } : MethodName) prog_1_method_33_code (2 : Nat) (Option.some FieldType.boolean)) ∈ aw_ztb := aw_zw 521 (by decide +kernel) rfl
theorem tw_522 : (Cond.methodLink "FormWright$Form" (66 : Nat) ({ cls := "FormWright$Form", name := "lettersAt", desc := "(I)I" } : MethodName)) ∈ aw_ztb := aw_zw 522 (by decide +kernel) rfl
theorem tw_524 : (Cond.instanceMethod ({ cls := "FormWright$Form", name := "lettersAt", desc := "(I)I" } : MethodName)) ∈ aw_ztb := aw_zw 524 (by decide +kernel) rfl
theorem tw_525 : (Cond.code ({ cls := "FormWright$Form", name := "lettersAt", desc := "(I)I" } : MethodName) prog_3_method_14_code (3 : Nat) (Option.some FieldType.int)) ∈ aw_ztb := aw_zw 525 (by decide +kernel) rfl
theorem tw_527 : (Cond.methodLink "FormWright" (101 : Nat) ({ cls := "FormWright$Form", name := "giveFormula", desc := "(ILFormWright$Formula;)V" } : MethodName)) ∈ aw_ztb := aw_zw 527 (by decide +kernel) rfl
theorem tw_528 : (Cond.instanceMethod ({ cls := "FormWright$Form", name := "giveFormula", desc := "(ILFormWright$Formula;)V" } : MethodName)) ∈ aw_ztb := aw_zw 528 (by decide +kernel) rfl
theorem tw_529 : (Cond.selects "FormWright$Form" ({ cls := "FormWright$Form", name := "giveFormula", desc := "(ILFormWright$Formula;)V" } : MethodName) ({ cls := "FormWright$Form", name := "giveFormula", desc := "(ILFormWright$Formula;)V" } : MethodName)) ∈ aw_ztb := aw_zw 529 (by decide +kernel) rfl
theorem tw_530 : (Cond.code ({ cls := "FormWright$Form", name := "giveFormula", desc := "(ILFormWright$Formula;)V" } : MethodName) prog_3_method_6_code (3 : Nat) (Option.none : Option FieldType)) ∈ aw_ztb := aw_zw 530 (by decide +kernel) rfl
theorem tw_531 : (Cond.methodLink "FormWright" (105 : Nat) ({ cls := "FormWright$Form", name := "countFormulas", desc := "()I" } : MethodName)) ∈ aw_ztb := aw_zw 531 (by decide +kernel) rfl
theorem tw_532 : (Cond.instanceMethod ({ cls := "FormWright$Form", name := "countFormulas", desc := "()I" } : MethodName)) ∈ aw_ztb := aw_zw 532 (by decide +kernel) rfl
theorem tw_533 : (Cond.selects "FormWright$Form" ({ cls := "FormWright$Form", name := "countFormulas", desc := "()I" } : MethodName) ({ cls := "FormWright$Form", name := "countFormulas", desc := "()I" } : MethodName)) ∈ aw_ztb := aw_zw 533 (by decide +kernel) rfl
theorem tw_534 : (Cond.code ({ cls := "FormWright$Form", name := "countFormulas", desc := "()I" } : MethodName) prog_3_method_9_code (6 : Nat) (Option.some FieldType.int)) ∈ aw_ztb := aw_zw 534 (by decide +kernel) rfl
theorem tw_536 : (Cond.static ({ cls := "FormWrightLaw", name := "dropFormula", desc := "(LFormWright;I[J)I" } : MethodName)) ∈ aw_ztb := aw_zw 536 (by decide +kernel) rfl
theorem tw_537 : (Cond.codeWith ({ cls := "FormWrightLaw", name := "dropFormula", desc := "(LFormWright;I[J)I" } : MethodName) method_7_code (4 : Nat) (Option.some FieldType.int) [((0 : Nat), (16 : Nat), (19 : Nat), (23 : Nat))]) ∈ aw_ztb := aw_zw 537 (by decide +kernel) rfl
theorem tw_538 : (Cond.methodLink "FormWrightLaw" (31 : Nat) ({ cls := "FormWright", name := "dropFormula", desc := "(I)Z" } : MethodName)) ∈ aw_ztb := aw_zw 538 (by decide +kernel) rfl
theorem tw_539 : (Cond.instanceMethod ({ cls := "FormWright", name := "dropFormula", desc := "(I)Z" } : MethodName)) ∈ aw_ztb := aw_zw 539 (by decide +kernel) rfl
theorem tw_540 : (Cond.selects "FormWright" ({ cls := "FormWright", name := "dropFormula", desc := "(I)Z" } : MethodName) ({ cls := "FormWright", name := "dropFormula", desc := "(I)Z" } : MethodName)) ∈ aw_ztb := aw_zw 540 (by decide +kernel) rfl
theorem tw_541 : (Cond.code ({ cls := "FormWright", name := "dropFormula", desc := "(I)Z" } : MethodName) prog_1_method_8_code (3 : Nat) (Option.some FieldType.boolean)) ∈ aw_ztb := aw_zw 541 (by decide +kernel) rfl
theorem tw_542 : (Cond.methodLink "FormWright" (108 : Nat) ({ cls := "FormWright$Form", name := "formulaAt", desc := "(I)LFormWright$Formula;" } : MethodName)) ∈ aw_ztb := aw_zw 542 (by decide +kernel) rfl
theorem tw_544 : (Cond.static ({ cls := "FormWrightLaw", name := "isBroken", desc := "(LFormWright;I[J)I" } : MethodName)) ∈ aw_ztb := aw_zw 544 (by decide +kernel) rfl
theorem tw_545 : (Cond.codeWith ({ cls := "FormWrightLaw", name := "isBroken", desc := "(LFormWright;I[J)I" } : MethodName) method_8_code (4 : Nat) (Option.some FieldType.int) [((0 : Nat), (16 : Nat), (19 : Nat), (23 : Nat))]) ∈ aw_ztb := aw_zw 545 (by decide +kernel) rfl
theorem tw_546 : (Cond.methodLink "FormWrightLaw" (35 : Nat) ({ cls := "FormWright", name := "isBroken", desc := "(I)Z" } : MethodName)) ∈ aw_ztb := aw_zw 546 (by decide +kernel) rfl
theorem tw_547 : (Cond.instanceMethod ({ cls := "FormWright", name := "isBroken", desc := "(I)Z" } : MethodName)) ∈ aw_ztb := aw_zw 547 (by decide +kernel) rfl
theorem tw_548 : (Cond.selects "FormWright" ({ cls := "FormWright", name := "isBroken", desc := "(I)Z" } : MethodName) ({ cls := "FormWright", name := "isBroken", desc := "(I)Z" } : MethodName)) ∈ aw_ztb := aw_zw 548 (by decide +kernel) rfl
theorem tw_549 : (Cond.code ({ cls := "FormWright", name := "isBroken", desc := "(I)Z" } : MethodName) prog_1_method_9_code (2 : Nat) (Option.some FieldType.boolean)) ∈ aw_ztb := aw_zw 549 (by decide +kernel) rfl
theorem tw_550 : (Cond.methodLink "FormWright" (112 : Nat) ({ cls := "FormWright$Form", name := "hasBroken", desc := "(I)Z" } : MethodName)) ∈ aw_ztb := aw_zw 550 (by decide +kernel) rfl
theorem tw_552 : (Cond.static ({ cls := "FormWrightLaw", name := "publish", desc := "(LFormWright;[J)I" } : MethodName)) ∈ aw_ztb := aw_zw 552 (by decide +kernel) rfl
theorem tw_553 : (Cond.codeWith ({ cls := "FormWrightLaw", name := "publish", desc := "(LFormWright;[J)I" } : MethodName) method_9_code (3 : Nat) (Option.some FieldType.int) [((0 : Nat), (8 : Nat), (11 : Nat), (13 : Nat))]) ∈ aw_ztb := aw_zw 553 (by decide +kernel) rfl
theorem tw_554 : (Cond.methodLink "FormWrightLaw" (38 : Nat) ({ cls := "FormWright", name := "publish", desc := "()I" } : MethodName)) ∈ aw_ztb := aw_zw 554 (by decide +kernel) rfl
theorem tw_555 : (Cond.instanceMethod ({ cls := "FormWright", name := "publish", desc := "()I" } : MethodName)) ∈ aw_ztb := aw_zw 555 (by decide +kernel) rfl
theorem tw_556 : (Cond.selects "FormWright" ({ cls := "FormWright", name := "publish", desc := "()I" } : MethodName) ({ cls := "FormWright", name := "publish", desc := "()I" } : MethodName)) ∈ aw_ztb := aw_zw 556 (by decide +kernel) rfl
theorem tw_557 : (Cond.code ({ cls := "FormWright", name := "publish", desc := "()I" } : MethodName) prog_1_method_10_code (5 : Nat) (Option.some FieldType.int)) ∈ aw_ztb := aw_zw 557 (by decide +kernel) rfl
theorem tw_559 : (Cond.methodLink "FormWright" (118 : Nat) ({ cls := "FormWright$Form", name := "takeBroken", desc := "()[LFormWright$Formula;" } : MethodName)) ∈ aw_ztb := aw_zw 559 (by decide +kernel) rfl
theorem tw_560 : (Cond.instanceMethod ({ cls := "FormWright$Form", name := "takeBroken", desc := "()[LFormWright$Formula;" } : MethodName)) ∈ aw_ztb := aw_zw 560 (by decide +kernel) rfl
theorem tw_561 : (Cond.selects "FormWright$Form" ({ cls := "FormWright$Form", name := "takeBroken", desc := "()[LFormWright$Formula;" } : MethodName) ({ cls := "FormWright$Form", name := "takeBroken", desc := "()[LFormWright$Formula;" } : MethodName)) ∈ aw_ztb := aw_zw 561 (by decide +kernel) rfl
theorem tw_562 : (Cond.code ({ cls := "FormWright$Form", name := "takeBroken", desc := "()[LFormWright$Formula;" } : MethodName) prog_3_method_15_code (3 : Nat) (Option.some (FieldType.array (FieldType.object "FormWright$Formula")))) ∈ aw_ztb := aw_zw 562 (by decide +kernel) rfl
theorem tw_563 : (Cond.methodLink "FormWright$Form" (69 : Nat) ({ cls := "FormWright$Form", name := "giveFormula", desc := "(ILFormWright$Formula;)V" } : MethodName)) ∈ aw_ztb := aw_zw 563 (by decide +kernel) rfl
theorem tw_564 : (Cond.methodLink "FormWright" (122 : Nat) ({ cls := "FormWright$Form", name := "frozen", desc := "()LFormWright$Form;" } : MethodName)) ∈ aw_ztb := aw_zw 564 (by decide +kernel) rfl
theorem tw_565 : (Cond.instanceMethod ({ cls := "FormWright$Form", name := "frozen", desc := "()LFormWright$Form;" } : MethodName)) ∈ aw_ztb := aw_zw 565 (by decide +kernel) rfl
theorem tw_566 : (Cond.selects "FormWright$Form" ({ cls := "FormWright$Form", name := "frozen", desc := "()LFormWright$Form;" } : MethodName) ({ cls := "FormWright$Form", name := "frozen", desc := "()LFormWright$Form;" } : MethodName)) ∈ aw_ztb := aw_zw 566 (by decide +kernel) rfl
theorem tw_567 : (Cond.code ({ cls := "FormWright$Form", name := "frozen", desc := "()LFormWright$Form;" } : MethodName) prog_3_method_16_code (3 : Nat) (Option.some (FieldType.object "FormWright$Form"))) ∈ aw_ztb := aw_zw 567 (by decide +kernel) rfl
theorem tw_568 : (Cond.classLink "FormWright$Form" (12 : Nat) "FormWright$Form") ∈ aw_ztb := aw_zw 568 (by decide +kernel) rfl
theorem tw_569 : (Cond.methodLink "FormWright$Form" (73 : Nat) ({ cls := "FormWright$Types", name := "copied", desc := "()LFormWright$Types;" } : MethodName)) ∈ aw_ztb := aw_zw 569 (by decide +kernel) rfl
theorem tw_570 : (Cond.instanceMethod ({ cls := "FormWright$Types", name := "copied", desc := "()LFormWright$Types;" } : MethodName)) ∈ aw_ztb := aw_zw 570 (by decide +kernel) rfl
theorem tw_571 : (Cond.selects "FormWright$Types" ({ cls := "FormWright$Types", name := "copied", desc := "()LFormWright$Types;" } : MethodName) ({ cls := "FormWright$Types", name := "copied", desc := "()LFormWright$Types;" } : MethodName)) ∈ aw_ztb := aw_zw 571 (by decide +kernel) rfl
theorem tw_572 : (Cond.code ({ cls := "FormWright$Types", name := "copied", desc := "()LFormWright$Types;" } : MethodName) prog_7_method_2_code (1 : Nat) (Option.some (FieldType.object "FormWright$Types"))) ∈ aw_ztb := aw_zw 572 (by decide +kernel) rfl
theorem tw_573 : (Cond.classLink "FormWright$Types" (10 : Nat) "FormWright$Types") ∈ aw_ztb := aw_zw 573 (by decide +kernel) rfl
theorem tw_575 : (Cond.classLink "FormWright$Types" (16 : Nat) "[I") ∈ aw_ztb := aw_zw 575 (by decide +kernel) rfl
theorem tw_576 : (Cond.methodLink "FormWright$Types" (20 : Nat) ({ cls := "FormWright$Types", name := "<init>", desc := "([I)V" } : MethodName)) ∈ aw_ztb := aw_zw 576 (by decide +kernel) rfl
theorem tw_577 : (Cond.methodLink "FormWright$Form" (77 : Nat) ({ cls := "FormWright$Form", name := "<init>", desc := "(LFormWright$Types;)V" } : MethodName)) ∈ aw_ztb := aw_zw 577 (by decide +kernel) rfl
theorem tw_578 : (Cond.instanceMethod ({ cls := "FormWright$Form", name := "<init>", desc := "(LFormWright$Types;)V" } : MethodName)) ∈ aw_ztb := aw_zw 578 (by decide +kernel) rfl
theorem tw_579 : (Cond.code ({ cls := "FormWright$Form", name := "<init>", desc := "(LFormWright$Types;)V" } : MethodName) prog_3_method_2_code (2 : Nat) (Option.none : Option FieldType)) ∈ aw_ztb := aw_zw 579 (by decide +kernel) rfl
theorem tw_580 : (Cond.methodLink "FormWright$Form" (80 : Nat) ({ cls := "FormWright$Form", name := "tellOrder", desc := "()V" } : MethodName)) ∈ aw_ztb := aw_zw 580 (by decide +kernel) rfl
theorem tw_582 : (Cond.instanceMethod ({ cls := "FormWright$Form", name := "tellOrder", desc := "()V" } : MethodName)) ∈ aw_ztb := aw_zw 582 (by decide +kernel) rfl
theorem tw_583 : (Cond.code ({ cls := "FormWright$Form", name := "tellOrder", desc := "()V" } : MethodName) prog_3_method_17_code (4 : Nat) (Option.none : Option FieldType)) ∈ aw_ztb := aw_zw 583 (by decide +kernel) rfl
theorem tw_584 : (Cond.methodLink "FormWright$Form" (83 : Nat) ({ cls := "FormWright$Form", name := "isComputed", desc := "(I)Z" } : MethodName)) ∈ aw_ztb := aw_zw 584 (by decide +kernel) rfl
theorem tw_585 : (Cond.instanceMethod ({ cls := "FormWright$Form", name := "isComputed", desc := "(I)Z" } : MethodName)) ∈ aw_ztb := aw_zw 585 (by decide +kernel) rfl
theorem tw_586 : (Cond.selects "FormWright$Form" ({ cls := "FormWright$Form", name := "isComputed", desc := "(I)Z" } : MethodName) ({ cls := "FormWright$Form", name := "isComputed", desc := "(I)Z" } : MethodName)) ∈ aw_ztb := aw_zw 586 (by decide +kernel) rfl
theorem tw_587 : (Cond.code ({ cls := "FormWright$Form", name := "isComputed", desc := "(I)Z" } : MethodName) prog_3_method_7_code (2 : Nat) (Option.some FieldType.boolean)) ∈ aw_ztb := aw_zw 587 (by decide +kernel) rfl
theorem tw_588 : (Cond.methodLink "FormWright$Form" (86 : Nat) ({ cls := "FormWright$Form", name := "lowestFree", desc := "(I)I" } : MethodName)) ∈ aw_ztb := aw_zw 588 (by decide +kernel) rfl
theorem tw_590 : (Cond.instanceMethod ({ cls := "FormWright$Form", name := "lowestFree", desc := "(I)I" } : MethodName)) ∈ aw_ztb := aw_zw 590 (by decide +kernel) rfl
theorem tw_591 : (Cond.code ({ cls := "FormWright$Form", name := "lowestFree", desc := "(I)I" } : MethodName) prog_3_method_18_code (3 : Nat) (Option.some FieldType.int)) ∈ aw_ztb := aw_zw 591 (by decide +kernel) rfl
theorem tw_592 : (Cond.methodLink "FormWright" (126 : Nat) ({ cls := "FormWright$Answer", name := "meetVersion", desc := "(LFormWright$Form;[LFormWright$Formula;)V" } : MethodName)) ∈ aw_ztb := aw_zw 592 (by decide +kernel) rfl
theorem tw_593 : (Cond.instanceMethod ({ cls := "FormWright$Answer", name := "meetVersion", desc := "(LFormWright$Form;[LFormWright$Formula;)V" } : MethodName)) ∈ aw_ztb := aw_zw 593 (by decide +kernel) rfl
theorem tw_594 : (Cond.selects "FormWright$Answer" ({ cls := "FormWright$Answer", name := "meetVersion", desc := "(LFormWright$Form;[LFormWright$Formula;)V" } : MethodName) ({ cls := "FormWright$Answer", name := "meetVersion", desc := "(LFormWright$Form;[LFormWright$Formula;)V" } : MethodName)) ∈ aw_ztb := aw_zw 594 (by decide +kernel) rfl
theorem tw_595 : (Cond.code ({ cls := "FormWright$Answer", name := "meetVersion", desc := "(LFormWright$Form;[LFormWright$Formula;)V" } : MethodName) prog_2_method_20_code (3 : Nat) (Option.none : Option FieldType)) ∈ aw_ztb := aw_zw 595 (by decide +kernel) rfl
theorem tw_596 : (Cond.methodLink "FormWright$Answer" (85 : Nat) ({ cls := "FormWright$Answer", name := "isReviewable", desc := "()Z" } : MethodName)) ∈ aw_ztb := aw_zw 596 (by decide +kernel) rfl
theorem tw_597 : (Cond.instanceMethod ({ cls := "FormWright$Answer", name := "isReviewable", desc := "()Z" } : MethodName)) ∈ aw_ztb := aw_zw 597 (by decide +kernel) rfl
theorem tw_598 : (Cond.selects "FormWright$Answer" ({ cls := "FormWright$Answer", name := "isReviewable", desc := "()Z" } : MethodName) ({ cls := "FormWright$Answer", name := "isReviewable", desc := "()Z" } : MethodName)) ∈ aw_ztb := aw_zw 598 (by decide +kernel) rfl
theorem tw_599 : (Cond.code ({ cls := "FormWright$Answer", name := "isReviewable", desc := "()Z" } : MethodName) prog_2_method_6_code (1 : Nat) (Option.some FieldType.boolean)) ∈ aw_ztb := aw_zw 599 (by decide +kernel) rfl
theorem tw_600 : (Cond.methodLink "FormWright$Answer" (89 : Nat) ({ cls := "FormWright$Form", name := "fieldsThatFall", desc := "(LFormWright$Form;[LFormWright$Formula;)I" } : MethodName)) ∈ aw_ztb := aw_zw 600 (by decide +kernel) rfl
theorem tw_601 : (Cond.instanceMethod ({ cls := "FormWright$Form", name := "fieldsThatFall", desc := "(LFormWright$Form;[LFormWright$Formula;)I" } : MethodName)) ∈ aw_ztb := aw_zw 601 (by decide +kernel) rfl
theorem tw_602 : (Cond.selects "FormWright$Form" ({ cls := "FormWright$Form", name := "fieldsThatFall", desc := "(LFormWright$Form;[LFormWright$Formula;)I" } : MethodName) ({ cls := "FormWright$Form", name := "fieldsThatFall", desc := "(LFormWright$Form;[LFormWright$Formula;)I" } : MethodName)) ∈ aw_ztb := aw_zw 602 (by decide +kernel) rfl
theorem tw_603 : (Cond.code ({ cls := "FormWright$Form", name := "fieldsThatFall", desc := "(LFormWright$Form;[LFormWright$Formula;)I" } : MethodName) prog_3_method_20_code (7 : Nat) (Option.some FieldType.int)) ∈ aw_ztb := aw_zw 603 (by decide +kernel) rfl
theorem tw_604 : (Cond.methodLink "FormWright$Form" (89 : Nat) ({ cls := "FormWright$Form", name := "typeOfField", desc := "(I)I" } : MethodName)) ∈ aw_ztb := aw_zw 604 (by decide +kernel) rfl
theorem tw_605 : (Cond.instanceMethod ({ cls := "FormWright$Form", name := "typeOfField", desc := "(I)I" } : MethodName)) ∈ aw_ztb := aw_zw 605 (by decide +kernel) rfl
theorem tw_606 : (Cond.selects "FormWright$Form" ({ cls := "FormWright$Form", name := "typeOfField", desc := "(I)I" } : MethodName) ({ cls := "FormWright$Form", name := "typeOfField", desc := "(I)I" } : MethodName)) ∈ aw_ztb := aw_zw 606 (by decide +kernel) rfl
theorem tw_607 : (Cond.code ({ cls := "FormWright$Form", name := "typeOfField", desc := "(I)I" } : MethodName) prog_3_method_3_code (2 : Nat) (Option.some FieldType.int)) ∈ aw_ztb := aw_zw 607 (by decide +kernel) rfl
theorem tw_608 : (Cond.methodLink "FormWright$Form" (92 : Nat) ({ cls := "FormWright$Formula", name := "looksLike", desc := "(LFormWright$Formula;)Z" } : MethodName)) ∈ aw_ztb := aw_zw 608 (by decide +kernel) rfl
theorem tw_609 : (Cond.instanceMethod ({ cls := "FormWright$Formula", name := "looksLike", desc := "(LFormWright$Formula;)Z" } : MethodName)) ∈ aw_ztb := aw_zw 609 (by decide +kernel) rfl
theorem tw_610 : (Cond.selects "FormWright$Formula" ({ cls := "FormWright$Formula", name := "looksLike", desc := "(LFormWright$Formula;)Z" } : MethodName) ({ cls := "FormWright$Formula", name := "looksLike", desc := "(LFormWright$Formula;)Z" } : MethodName)) ∈ aw_ztb := aw_zw 610 (by decide +kernel) rfl
theorem tw_611 : (Cond.code ({ cls := "FormWright$Formula", name := "looksLike", desc := "(LFormWright$Formula;)Z" } : MethodName) prog_4_method_4_code (3 : Nat) (Option.some FieldType.boolean)) ∈ aw_ztb := aw_zw 611 (by decide +kernel) rfl
theorem tw_612 : (Cond.methodLink "FormWright$Formula" (25 : Nat) ({ cls := "FormWright$Formula", name := "plainSign", desc := "(I)I" } : MethodName)) ∈ aw_ztb := aw_zw 612 (by decide +kernel) rfl
theorem tw_613 : (Cond.instanceMethod ({ cls := "FormWright$Formula", name := "plainSign", desc := "(I)I" } : MethodName)) ∈ aw_ztb := aw_zw 613 (by decide +kernel) rfl
theorem tw_614 : (Cond.selects "FormWright$Formula" ({ cls := "FormWright$Formula", name := "plainSign", desc := "(I)I" } : MethodName) ({ cls := "FormWright$Formula", name := "plainSign", desc := "(I)I" } : MethodName)) ∈ aw_ztb := aw_zw 614 (by decide +kernel) rfl
theorem tw_615 : (Cond.code ({ cls := "FormWright$Formula", name := "plainSign", desc := "(I)I" } : MethodName) prog_4_method_3_code (2 : Nat) (Option.some FieldType.int)) ∈ aw_ztb := aw_zw 615 (by decide +kernel) rfl
theorem tw_616 : (Cond.methodLink "FormWright$Answer" (93 : Nat) ({ cls := "FormWright$Answer", name := "addDoubts", desc := "(I)V" } : MethodName)) ∈ aw_ztb := aw_zw 616 (by decide +kernel) rfl
theorem tw_617 : (Cond.instanceMethod ({ cls := "FormWright$Answer", name := "addDoubts", desc := "(I)V" } : MethodName)) ∈ aw_ztb := aw_zw 617 (by decide +kernel) rfl
theorem tw_618 : (Cond.selects "FormWright$Answer" ({ cls := "FormWright$Answer", name := "addDoubts", desc := "(I)V" } : MethodName) ({ cls := "FormWright$Answer", name := "addDoubts", desc := "(I)V" } : MethodName)) ∈ aw_ztb := aw_zw 618 (by decide +kernel) rfl
theorem tw_619 : (Cond.code ({ cls := "FormWright$Answer", name := "addDoubts", desc := "(I)V" } : MethodName) prog_2_method_17_code (2 : Nat) (Option.none : Option FieldType)) ∈ aw_ztb := aw_zw 619 (by decide +kernel) rfl
theorem tw_620 : (Cond.methodLink "FormWright$Answer" (82 : Nat) ({ cls := "FormWright$Answer", name := "stateByDoubts", desc := "()I" } : MethodName)) ∈ aw_ztb := aw_zw 620 (by decide +kernel) rfl
theorem tw_622 : (Cond.instanceMethod ({ cls := "FormWright$Answer", name := "stateByDoubts", desc := "()I" } : MethodName)) ∈ aw_ztb := aw_zw 622 (by decide +kernel) rfl
theorem tw_623 : (Cond.instantiable "FormWright$Answer" (5 : Nat)) ∈ aw_ztb := aw_zw 623 (by decide +kernel) rfl
theorem tw_624 : (Cond.code ({ cls := "FormWright$Answer", name := "stateByDoubts", desc := "()I" } : MethodName) prog_2_method_16_code (1 : Nat) (Option.some FieldType.int)) ∈ aw_ztb := aw_zw 624 (by decide +kernel) rfl
theorem tw_626 : (Cond.static ({ cls := "FormWrightLaw", name := "typeIn", desc := "(LFormWright;II[J)I" } : MethodName)) ∈ aw_ztb := aw_zw 626 (by decide +kernel) rfl
theorem tw_627 : (Cond.codeWith ({ cls := "FormWrightLaw", name := "typeIn", desc := "(LFormWright;II[J)I" } : MethodName) method_10_code (5 : Nat) (Option.some FieldType.int) [((0 : Nat), (10 : Nat), (13 : Nat), (23 : Nat))]) ∈ aw_ztb := aw_zw 627 (by decide +kernel) rfl
theorem tw_628 : (Cond.methodLink "FormWrightLaw" (41 : Nat) ({ cls := "FormWright", name := "typeIn", desc := "(II)I" } : MethodName)) ∈ aw_ztb := aw_zw 628 (by decide +kernel) rfl
theorem tw_629 : (Cond.instanceMethod ({ cls := "FormWright", name := "typeIn", desc := "(II)I" } : MethodName)) ∈ aw_ztb := aw_zw 629 (by decide +kernel) rfl
theorem tw_630 : (Cond.selects "FormWright" ({ cls := "FormWright", name := "typeIn", desc := "(II)I" } : MethodName) ({ cls := "FormWright", name := "typeIn", desc := "(II)I" } : MethodName)) ∈ aw_ztb := aw_zw 630 (by decide +kernel) rfl
theorem tw_631 : (Cond.code ({ cls := "FormWright", name := "typeIn", desc := "(II)I" } : MethodName) prog_1_method_12_code (4 : Nat) (Option.some FieldType.int)) ∈ aw_ztb := aw_zw 631 (by decide +kernel) rfl
theorem tw_632 : (Cond.methodLink "FormWright" (130 : Nat) ({ cls := "FormWright", name := "requireVersion", desc := "(I)LFormWright$Form;" } : MethodName)) ∈ aw_ztb := aw_zw 632 (by decide +kernel) rfl
theorem tw_634 : (Cond.instanceMethod ({ cls := "FormWright", name := "requireVersion", desc := "(I)LFormWright$Form;" } : MethodName)) ∈ aw_ztb := aw_zw 634 (by decide +kernel) rfl
theorem tw_635 : (Cond.code ({ cls := "FormWright", name := "requireVersion", desc := "(I)LFormWright$Form;" } : MethodName) prog_1_method_31_code (3 : Nat) (Option.some (FieldType.object "FormWright$Form"))) ∈ aw_ztb := aw_zw 635 (by decide +kernel) rfl
theorem tw_637 : (Cond.methodLink "FormWright" (134 : Nat) ({ cls := "FormWright$Form", name := "typeOfField", desc := "(I)I" } : MethodName)) ∈ aw_ztb := aw_zw 637 (by decide +kernel) rfl
theorem tw_639 : (Cond.static ({ cls := "FormWrightLaw", name := "order", desc := "(LFormWright;II[J)I" } : MethodName)) ∈ aw_ztb := aw_zw 639 (by decide +kernel) rfl
theorem tw_640 : (Cond.codeWith ({ cls := "FormWrightLaw", name := "order", desc := "(LFormWright;II[J)I" } : MethodName) method_11_code (5 : Nat) (Option.some FieldType.int) [((0 : Nat), (10 : Nat), (13 : Nat), (23 : Nat))]) ∈ aw_ztb := aw_zw 640 (by decide +kernel) rfl
theorem tw_641 : (Cond.methodLink "FormWrightLaw" (44 : Nat) ({ cls := "FormWright", name := "order", desc := "(II)I" } : MethodName)) ∈ aw_ztb := aw_zw 641 (by decide +kernel) rfl
theorem tw_642 : (Cond.instanceMethod ({ cls := "FormWright", name := "order", desc := "(II)I" } : MethodName)) ∈ aw_ztb := aw_zw 642 (by decide +kernel) rfl
theorem tw_643 : (Cond.selects "FormWright" ({ cls := "FormWright", name := "order", desc := "(II)I" } : MethodName) ({ cls := "FormWright", name := "order", desc := "(II)I" } : MethodName)) ∈ aw_ztb := aw_zw 643 (by decide +kernel) rfl
theorem tw_644 : (Cond.code ({ cls := "FormWright", name := "order", desc := "(II)I" } : MethodName) prog_1_method_13_code (4 : Nat) (Option.some FieldType.int)) ∈ aw_ztb := aw_zw 644 (by decide +kernel) rfl
theorem tw_645 : (Cond.methodLink "FormWright" (138 : Nat) ({ cls := "FormWright", name := "requirePlace", desc := "(I)V" } : MethodName)) ∈ aw_ztb := aw_zw 645 (by decide +kernel) rfl
theorem tw_646 : (Cond.static ({ cls := "FormWright", name := "requirePlace", desc := "(I)V" } : MethodName)) ∈ aw_ztb := aw_zw 646 (by decide +kernel) rfl
theorem tw_647 : (Cond.code ({ cls := "FormWright", name := "requirePlace", desc := "(I)V" } : MethodName) prog_1_method_30_code (1 : Nat) (Option.none : Option FieldType)) ∈ aw_ztb := aw_zw 647 (by decide +kernel) rfl
theorem tw_649 : (Cond.methodLink "FormWright" (141 : Nat) ({ cls := "FormWright$Form", name := "toldAt", desc := "(I)I" } : MethodName)) ∈ aw_ztb := aw_zw 649 (by decide +kernel) rfl
theorem tw_650 : (Cond.instanceMethod ({ cls := "FormWright$Form", name := "toldAt", desc := "(I)I" } : MethodName)) ∈ aw_ztb := aw_zw 650 (by decide +kernel) rfl
theorem tw_651 : (Cond.selects "FormWright$Form" ({ cls := "FormWright$Form", name := "toldAt", desc := "(I)I" } : MethodName) ({ cls := "FormWright$Form", name := "toldAt", desc := "(I)I" } : MethodName)) ∈ aw_ztb := aw_zw 651 (by decide +kernel) rfl
theorem tw_652 : (Cond.code ({ cls := "FormWright$Form", name := "toldAt", desc := "(I)I" } : MethodName) prog_3_method_19_code (2 : Nat) (Option.some FieldType.int)) ∈ aw_ztb := aw_zw 652 (by decide +kernel) rfl
theorem tw_654 : (Cond.static ({ cls := "FormWrightLaw", name := "plain", desc := "(LFormWright;III[J)I" } : MethodName)) ∈ aw_ztb := aw_zw 654 (by decide +kernel) rfl
theorem tw_655 : (Cond.codeWith ({ cls := "FormWrightLaw", name := "plain", desc := "(LFormWright;III[J)I" } : MethodName) method_12_code (6 : Nat) (Option.some FieldType.int) [((0 : Nat), (12 : Nat), (15 : Nat), (23 : Nat))]) ∈ aw_ztb := aw_zw 655 (by decide +kernel) rfl
theorem tw_656 : (Cond.methodLink "FormWrightLaw" (47 : Nat) ({ cls := "FormWright", name := "plain", desc := "(III)I" } : MethodName)) ∈ aw_ztb := aw_zw 656 (by decide +kernel) rfl
theorem tw_657 : (Cond.instanceMethod ({ cls := "FormWright", name := "plain", desc := "(III)I" } : MethodName)) ∈ aw_ztb := aw_zw 657 (by decide +kernel) rfl
theorem tw_658 : (Cond.selects "FormWright" ({ cls := "FormWright", name := "plain", desc := "(III)I" } : MethodName) ({ cls := "FormWright", name := "plain", desc := "(III)I" } : MethodName)) ∈ aw_ztb := aw_zw 658 (by decide +kernel) rfl
theorem tw_659 : (Cond.code ({ cls := "FormWright", name := "plain", desc := "(III)I" } : MethodName) prog_1_method_14_code (6 : Nat) (Option.some FieldType.int)) ∈ aw_ztb := aw_zw 659 (by decide +kernel) rfl
theorem tw_660 : (Cond.methodLink "FormWright" (144 : Nat) ({ cls := "FormWright$Formula", name := "plainSign", desc := "(I)I" } : MethodName)) ∈ aw_ztb := aw_zw 660 (by decide +kernel) rfl
theorem tw_662 : (Cond.static ({ cls := "FormWrightLaw", name := "begin", desc := "(LFormWright;[J)I" } : MethodName)) ∈ aw_ztb := aw_zw 662 (by decide +kernel) rfl
theorem tw_663 : (Cond.codeWith ({ cls := "FormWrightLaw", name := "begin", desc := "(LFormWright;[J)I" } : MethodName) method_13_code (3 : Nat) (Option.some FieldType.int) [((0 : Nat), (8 : Nat), (11 : Nat), (13 : Nat))]) ∈ aw_ztb := aw_zw 663 (by decide +kernel) rfl
theorem tw_664 : (Cond.methodLink "FormWrightLaw" (51 : Nat) ({ cls := "FormWright", name := "begin", desc := "()I" } : MethodName)) ∈ aw_ztb := aw_zw 664 (by decide +kernel) rfl
theorem tw_665 : (Cond.instanceMethod ({ cls := "FormWright", name := "begin", desc := "()I" } : MethodName)) ∈ aw_ztb := aw_zw 665 (by decide +kernel) rfl
theorem tw_666 : (Cond.selects "FormWright" ({ cls := "FormWright", name := "begin", desc := "()I" } : MethodName) ({ cls := "FormWright", name := "begin", desc := "()I" } : MethodName)) ∈ aw_ztb := aw_zw 666 (by decide +kernel) rfl
theorem tw_667 : (Cond.code ({ cls := "FormWright", name := "begin", desc := "()I" } : MethodName) prog_1_method_15_code (2 : Nat) (Option.some FieldType.int)) ∈ aw_ztb := aw_zw 667 (by decide +kernel) rfl
theorem tw_669 : (Cond.methodLink "FormWright" (151 : Nat) ({ cls := "FormWright$Answer", name := "<init>", desc := "(ILFormWright$Form;)V" } : MethodName)) ∈ aw_ztb := aw_zw 669 (by decide +kernel) rfl
theorem tw_670 : (Cond.instanceMethod ({ cls := "FormWright$Answer", name := "<init>", desc := "(ILFormWright$Form;)V" } : MethodName)) ∈ aw_ztb := aw_zw 670 (by decide +kernel) rfl
theorem tw_671 : (Cond.code ({ cls := "FormWright$Answer", name := "<init>", desc := "(ILFormWright$Form;)V" } : MethodName) prog_2_method_1_code (3 : Nat) (Option.none : Option FieldType)) ∈ aw_ztb := aw_zw 671 (by decide +kernel) rfl
theorem tw_672 : (Cond.methodLink "FormWright$Answer" (3 : Nat) ({ cls := "java/lang/Object", name := "<init>", desc := "()V" } : MethodName)) ∈ aw_ztb := aw_zw 672 (by decide +kernel) rfl
theorem tw_673 : (Cond.classLink "FormWright$Answer" (9 : Nat) "FormWright$Values") ∈ aw_ztb := aw_zw 673 (by decide +kernel) rfl
theorem tw_674 : (Cond.instantiable "FormWright$Values" (2 : Nat)) ∈ aw_ztb := aw_zw 674 (by decide +kernel) rfl
theorem tw_675 : (Cond.methodLinkNest "FormWright$Answer" (11 : Nat) ({ cls := "FormWright$Values", name := "<init>", desc := "()V" } : MethodName) "FormWright") ∈ lw_tbl := List.mem_of_getElem? (i := 675) (by decide +kernel)
theorem tw_676 : (Cond.instanceMethod ({ cls := "FormWright$Values", name := "<init>", desc := "()V" } : MethodName)) ∈ aw_ztb := aw_zw 676 (by decide +kernel) rfl
theorem tw_677 : (Cond.code ({ cls := "FormWright$Values", name := "<init>", desc := "()V" } : MethodName) prog_8_method_1_code (1 : Nat) (Option.none : Option FieldType)) ∈ aw_ztb := aw_zw 677 (by decide +kernel) rfl
theorem tw_678 : (Cond.methodLinkNest "FormWright$Values" (3 : Nat) ({ cls := "FormWright$Reading", name := "<init>", desc := "()V" } : MethodName) "FormWright") ∈ lw_tbl := List.mem_of_getElem? (i := 678) (by decide +kernel)
theorem tw_679 : (Cond.fieldLink "FormWright$Values" (9 : Nat) "FormWright$Values" "row" "[I") ∈ aw_ztb := aw_zw 679 (by decide +kernel) rfl
theorem tw_680 : (Cond.fieldLink "FormWright$Values" (15 : Nat) "FormWright$Values" "known" "I") ∈ aw_ztb := aw_zw 680 (by decide +kernel) rfl
theorem tw_686 : (Cond.fieldLink "FormWright$Answer" (25 : Nat) "FormWright$Answer" "number" "I") ∈ aw_ztb := aw_zw 686 (by decide +kernel) rfl
theorem tw_687 : (Cond.fieldLink "FormWright$Answer" (28 : Nat) "FormWright$Answer" "version" "LFormWright$Form;") ∈ aw_ztb := aw_zw 687 (by decide +kernel) rfl
theorem tw_688 : (Cond.fieldLink "FormWright$Answer" (12 : Nat) "FormWright$Answer" "values" "LFormWright$Values;") ∈ aw_ztb := aw_zw 688 (by decide +kernel) rfl
theorem tw_689 : (Cond.fieldLink "FormWright$Answer" (18 : Nat) "FormWright$Answer" "state" "I") ∈ aw_ztb := aw_zw 689 (by decide +kernel) rfl
theorem tw_690 : (Cond.fieldLink "FormWright$Answer" (22 : Nat) "FormWright$Answer" "doubted" "I") ∈ aw_ztb := aw_zw 690 (by decide +kernel) rfl
theorem tw_703 : (Cond.static ({ cls := "FormWrightLaw", name := "put", desc := "(LFormWright;III[J)I" } : MethodName)) ∈ aw_ztb := aw_zw 703 (by decide +kernel) rfl
theorem tw_704 : (Cond.codeWith ({ cls := "FormWrightLaw", name := "put", desc := "(LFormWright;III[J)I" } : MethodName) method_14_code (6 : Nat) (Option.some FieldType.int) [((0 : Nat), (12 : Nat), (15 : Nat), (23 : Nat)), ((0 : Nat), (12 : Nat), (19 : Nat), (13 : Nat)), ((0 : Nat), (12 : Nat), (23 : Nat), (25 : Nat))]) ∈ aw_ztb := aw_zw 704 (by decide +kernel) rfl
theorem tw_705 : (Cond.methodLink "FormWrightLaw" (54 : Nat) ({ cls := "FormWright", name := "put", desc := "(III)I" } : MethodName)) ∈ aw_ztb := aw_zw 705 (by decide +kernel) rfl
theorem tw_706 : (Cond.instanceMethod ({ cls := "FormWright", name := "put", desc := "(III)I" } : MethodName)) ∈ aw_ztb := aw_zw 706 (by decide +kernel) rfl
theorem tw_707 : (Cond.selects "FormWright" ({ cls := "FormWright", name := "put", desc := "(III)I" } : MethodName) ({ cls := "FormWright", name := "put", desc := "(III)I" } : MethodName)) ∈ aw_ztb := aw_zw 707 (by decide +kernel) rfl
theorem tw_708 : (Cond.code ({ cls := "FormWright", name := "put", desc := "(III)I" } : MethodName) prog_1_method_16_code (5 : Nat) (Option.some FieldType.int)) ∈ aw_ztb := aw_zw 708 (by decide +kernel) rfl
theorem tw_709 : (Cond.methodLink "FormWright" (154 : Nat) ({ cls := "FormWright", name := "requireAnswer", desc := "(I)LFormWright$Answer;" } : MethodName)) ∈ aw_ztb := aw_zw 709 (by decide +kernel) rfl
theorem tw_711 : (Cond.instanceMethod ({ cls := "FormWright", name := "requireAnswer", desc := "(I)LFormWright$Answer;" } : MethodName)) ∈ aw_ztb := aw_zw 711 (by decide +kernel) rfl
theorem tw_712 : (Cond.code ({ cls := "FormWright", name := "requireAnswer", desc := "(I)LFormWright$Answer;" } : MethodName) prog_1_method_32_code (3 : Nat) (Option.some (FieldType.object "FormWright$Answer"))) ∈ aw_ztb := aw_zw 712 (by decide +kernel) rfl
theorem tw_714 : (Cond.methodLink "FormWright" (161 : Nat) ({ cls := "FormWright$Answer", name := "isPutField", desc := "(I)Z" } : MethodName)) ∈ aw_ztb := aw_zw 714 (by decide +kernel) rfl
theorem tw_715 : (Cond.instanceMethod ({ cls := "FormWright$Answer", name := "isPutField", desc := "(I)Z" } : MethodName)) ∈ aw_ztb := aw_zw 715 (by decide +kernel) rfl
theorem tw_716 : (Cond.selects "FormWright$Answer" ({ cls := "FormWright$Answer", name := "isPutField", desc := "(I)Z" } : MethodName) ({ cls := "FormWright$Answer", name := "isPutField", desc := "(I)Z" } : MethodName)) ∈ aw_ztb := aw_zw 716 (by decide +kernel) rfl
theorem tw_717 : (Cond.code ({ cls := "FormWright$Answer", name := "isPutField", desc := "(I)Z" } : MethodName) prog_2_method_8_code (2 : Nat) (Option.some FieldType.boolean)) ∈ aw_ztb := aw_zw 717 (by decide +kernel) rfl
theorem tw_718 : (Cond.methodLink "FormWright$Answer" (42 : Nat) ({ cls := "FormWright$Answer", name := "hasField", desc := "(I)Z" } : MethodName)) ∈ aw_ztb := aw_zw 718 (by decide +kernel) rfl
theorem tw_719 : (Cond.instanceMethod ({ cls := "FormWright$Answer", name := "hasField", desc := "(I)Z" } : MethodName)) ∈ aw_ztb := aw_zw 719 (by decide +kernel) rfl
theorem tw_720 : (Cond.selects "FormWright$Answer" ({ cls := "FormWright$Answer", name := "hasField", desc := "(I)Z" } : MethodName) ({ cls := "FormWright$Answer", name := "hasField", desc := "(I)Z" } : MethodName)) ∈ aw_ztb := aw_zw 720 (by decide +kernel) rfl
theorem tw_721 : (Cond.code ({ cls := "FormWright$Answer", name := "hasField", desc := "(I)Z" } : MethodName) prog_2_method_7_code (2 : Nat) (Option.some FieldType.boolean)) ∈ aw_ztb := aw_zw 721 (by decide +kernel) rfl
theorem tw_722 : (Cond.methodLink "FormWright$Answer" (36 : Nat) ({ cls := "FormWright$Form", name := "typeOfField", desc := "(I)I" } : MethodName)) ∈ aw_ztb := aw_zw 722 (by decide +kernel) rfl
theorem tw_723 : (Cond.methodLink "FormWright$Answer" (46 : Nat) ({ cls := "FormWright$Form", name := "isComputed", desc := "(I)Z" } : MethodName)) ∈ aw_ztb := aw_zw 723 (by decide +kernel) rfl
theorem tw_725 : (Cond.methodLink "FormWright" (166 : Nat) ({ cls := "FormWright$Answer", name := "accepts", desc := "(II)Z" } : MethodName)) ∈ aw_ztb := aw_zw 725 (by decide +kernel) rfl
theorem tw_726 : (Cond.instanceMethod ({ cls := "FormWright$Answer", name := "accepts", desc := "(II)Z" } : MethodName)) ∈ aw_ztb := aw_zw 726 (by decide +kernel) rfl
theorem tw_727 : (Cond.selects "FormWright$Answer" ({ cls := "FormWright$Answer", name := "accepts", desc := "(II)Z" } : MethodName) ({ cls := "FormWright$Answer", name := "accepts", desc := "(II)Z" } : MethodName)) ∈ aw_ztb := aw_zw 727 (by decide +kernel) rfl
theorem tw_728 : (Cond.code ({ cls := "FormWright$Answer", name := "accepts", desc := "(II)Z" } : MethodName) prog_2_method_9_code (3 : Nat) (Option.some FieldType.boolean)) ∈ aw_ztb := aw_zw 728 (by decide +kernel) rfl
theorem tw_730 : (Cond.methodLink "FormWright" (172 : Nat) ({ cls := "FormWright$Answer", name := "write", desc := "(II)V" } : MethodName)) ∈ aw_ztb := aw_zw 730 (by decide +kernel) rfl
theorem tw_731 : (Cond.instanceMethod ({ cls := "FormWright$Answer", name := "write", desc := "(II)V" } : MethodName)) ∈ aw_ztb := aw_zw 731 (by decide +kernel) rfl
theorem tw_732 : (Cond.selects "FormWright$Answer" ({ cls := "FormWright$Answer", name := "write", desc := "(II)V" } : MethodName) ({ cls := "FormWright$Answer", name := "write", desc := "(II)V" } : MethodName)) ∈ aw_ztb := aw_zw 732 (by decide +kernel) rfl
theorem tw_733 : (Cond.code ({ cls := "FormWright$Answer", name := "write", desc := "(II)V" } : MethodName) prog_2_method_12_code (3 : Nat) (Option.none : Option FieldType)) ∈ aw_ztb := aw_zw 733 (by decide +kernel) rfl
theorem tw_734 : (Cond.methodLink "FormWright$Answer" (55 : Nat) ({ cls := "FormWright$Values", name := "give", desc := "(II)V" } : MethodName)) ∈ aw_ztb := aw_zw 734 (by decide +kernel) rfl
theorem tw_735 : (Cond.instanceMethod ({ cls := "FormWright$Values", name := "give", desc := "(II)V" } : MethodName)) ∈ aw_ztb := aw_zw 735 (by decide +kernel) rfl
theorem tw_736 : (Cond.selects "FormWright$Values" ({ cls := "FormWright$Values", name := "give", desc := "(II)V" } : MethodName) ({ cls := "FormWright$Values", name := "give", desc := "(II)V" } : MethodName)) ∈ aw_ztb := aw_zw 736 (by decide +kernel) rfl
theorem tw_737 : (Cond.code ({ cls := "FormWright$Values", name := "give", desc := "(II)V" } : MethodName) prog_8_method_4_code (3 : Nat) (Option.none : Option FieldType)) ∈ aw_ztb := aw_zw 737 (by decide +kernel) rfl
theorem tw_738 : (Cond.methodLink "FormWright" (175 : Nat) ({ cls := "FormWright$Answer", name := "countMissing", desc := "()I" } : MethodName)) ∈ aw_ztb := aw_zw 738 (by decide +kernel) rfl
theorem tw_739 : (Cond.instanceMethod ({ cls := "FormWright$Answer", name := "countMissing", desc := "()I" } : MethodName)) ∈ aw_ztb := aw_zw 739 (by decide +kernel) rfl
theorem tw_740 : (Cond.selects "FormWright$Answer" ({ cls := "FormWright$Answer", name := "countMissing", desc := "()I" } : MethodName) ({ cls := "FormWright$Answer", name := "countMissing", desc := "()I" } : MethodName)) ∈ aw_ztb := aw_zw 740 (by decide +kernel) rfl
theorem tw_741 : (Cond.code ({ cls := "FormWright$Answer", name := "countMissing", desc := "()I" } : MethodName) prog_2_method_13_code (3 : Nat) (Option.some FieldType.int)) ∈ aw_ztb := aw_zw 741 (by decide +kernel) rfl
theorem tw_742 : (Cond.methodLink "FormWright$Answer" (59 : Nat) ({ cls := "FormWright$Answer", name := "isPutField", desc := "(I)Z" } : MethodName)) ∈ aw_ztb := aw_zw 742 (by decide +kernel) rfl
theorem tw_743 : (Cond.methodLink "FormWright$Answer" (62 : Nat) ({ cls := "FormWright$Answer", name := "hasValue", desc := "(I)Z" } : MethodName)) ∈ aw_ztb := aw_zw 743 (by decide +kernel) rfl
theorem tw_744 : (Cond.instanceMethod ({ cls := "FormWright$Answer", name := "hasValue", desc := "(I)Z" } : MethodName)) ∈ aw_ztb := aw_zw 744 (by decide +kernel) rfl
theorem tw_745 : (Cond.selects "FormWright$Answer" ({ cls := "FormWright$Answer", name := "hasValue", desc := "(I)Z" } : MethodName) ({ cls := "FormWright$Answer", name := "hasValue", desc := "(I)Z" } : MethodName)) ∈ aw_ztb := aw_zw 745 (by decide +kernel) rfl
theorem tw_746 : (Cond.code ({ cls := "FormWright$Answer", name := "hasValue", desc := "(I)Z" } : MethodName) prog_2_method_10_code (2 : Nat) (Option.some FieldType.boolean)) ∈ aw_ztb := aw_zw 746 (by decide +kernel) rfl
theorem tw_747 : (Cond.methodLink "FormWright$Answer" (49 : Nat) ({ cls := "FormWright$Values", name := "has", desc := "(I)Z" } : MethodName)) ∈ aw_ztb := aw_zw 747 (by decide +kernel) rfl
theorem tw_748 : (Cond.instanceMethod ({ cls := "FormWright$Values", name := "has", desc := "(I)Z" } : MethodName)) ∈ aw_ztb := aw_zw 748 (by decide +kernel) rfl
theorem tw_749 : (Cond.selects "FormWright$Values" ({ cls := "FormWright$Values", name := "has", desc := "(I)Z" } : MethodName) ({ cls := "FormWright$Values", name := "has", desc := "(I)Z" } : MethodName)) ∈ aw_ztb := aw_zw 749 (by decide +kernel) rfl
theorem tw_750 : (Cond.code ({ cls := "FormWright$Values", name := "has", desc := "(I)Z" } : MethodName) prog_8_method_2_code (2 : Nat) (Option.some FieldType.boolean)) ∈ aw_ztb := aw_zw 750 (by decide +kernel) rfl
theorem tw_751 : (Cond.methodLinkNest "FormWright$Values" (19 : Nat) ({ cls := "FormWright", name := "isIn", desc := "(II)Z" } : MethodName) "FormWright") ∈ lw_tbl := List.mem_of_getElem? (i := 751) (by decide +kernel)
theorem tw_753 : (Cond.static ({ cls := "FormWrightLaw", name := "handIn", desc := "(LFormWright;I[J)I" } : MethodName)) ∈ aw_ztb := aw_zw 753 (by decide +kernel) rfl
theorem tw_754 : (Cond.codeWith ({ cls := "FormWrightLaw", name := "handIn", desc := "(LFormWright;I[J)I" } : MethodName) method_15_code (4 : Nat) (Option.some FieldType.int) [((0 : Nat), (9 : Nat), (12 : Nat), (23 : Nat)), ((0 : Nat), (9 : Nat), (15 : Nat), (13 : Nat))]) ∈ aw_ztb := aw_zw 754 (by decide +kernel) rfl
theorem tw_755 : (Cond.methodLink "FormWrightLaw" (57 : Nat) ({ cls := "FormWright", name := "handIn", desc := "(I)I" } : MethodName)) ∈ aw_ztb := aw_zw 755 (by decide +kernel) rfl
theorem tw_756 : (Cond.instanceMethod ({ cls := "FormWright", name := "handIn", desc := "(I)I" } : MethodName)) ∈ aw_ztb := aw_zw 756 (by decide +kernel) rfl
theorem tw_757 : (Cond.selects "FormWright" ({ cls := "FormWright", name := "handIn", desc := "(I)I" } : MethodName) ({ cls := "FormWright", name := "handIn", desc := "(I)I" } : MethodName)) ∈ aw_ztb := aw_zw 757 (by decide +kernel) rfl
theorem tw_758 : (Cond.code ({ cls := "FormWright", name := "handIn", desc := "(I)I" } : MethodName) prog_1_method_17_code (3 : Nat) (Option.some FieldType.int)) ∈ aw_ztb := aw_zw 758 (by decide +kernel) rfl
theorem tw_760 : (Cond.methodLink "FormWright" (180 : Nat) ({ cls := "FormWright$Answer", name := "judge", desc := "()V" } : MethodName)) ∈ aw_ztb := aw_zw 760 (by decide +kernel) rfl
theorem tw_761 : (Cond.instanceMethod ({ cls := "FormWright$Answer", name := "judge", desc := "()V" } : MethodName)) ∈ aw_ztb := aw_zw 761 (by decide +kernel) rfl
theorem tw_762 : (Cond.selects "FormWright$Answer" ({ cls := "FormWright$Answer", name := "judge", desc := "()V" } : MethodName) ({ cls := "FormWright$Answer", name := "judge", desc := "()V" } : MethodName)) ∈ aw_ztb := aw_zw 762 (by decide +kernel) rfl
theorem tw_763 : (Cond.code ({ cls := "FormWright$Answer", name := "judge", desc := "()V" } : MethodName) prog_2_method_14_code (4 : Nat) (Option.none : Option FieldType)) ∈ aw_ztb := aw_zw 763 (by decide +kernel) rfl
theorem tw_764 : (Cond.methodLink "FormWright$Answer" (65 : Nat) ({ cls := "FormWright$Form", name := "toldAt", desc := "(I)I" } : MethodName)) ∈ aw_ztb := aw_zw 764 (by decide +kernel) rfl
theorem tw_765 : (Cond.methodLink "FormWright$Answer" (68 : Nat) ({ cls := "FormWright$Form", name := "formulaAt", desc := "(I)LFormWright$Formula;" } : MethodName)) ∈ aw_ztb := aw_zw 765 (by decide +kernel) rfl
theorem tw_766 : (Cond.methodLink "FormWright$Answer" (72 : Nat) ({ cls := "FormWright$Formula", name := "readFor", desc := "(LFormWright$Reading;)I" } : MethodName)) ∈ aw_ztb := aw_zw 766 (by decide +kernel) rfl
theorem tw_767 : (Cond.methodLink "FormWright$Answer" (78 : Nat) ({ cls := "FormWright$Answer", name := "refusingCheck", desc := "()I" } : MethodName)) ∈ aw_ztb := aw_zw 767 (by decide +kernel) rfl
theorem tw_768 : (Cond.instanceMethod ({ cls := "FormWright$Answer", name := "refusingCheck", desc := "()I" } : MethodName)) ∈ aw_ztb := aw_zw 768 (by decide +kernel) rfl
theorem tw_769 : (Cond.selects "FormWright$Answer" ({ cls := "FormWright$Answer", name := "refusingCheck", desc := "()I" } : MethodName) ({ cls := "FormWright$Answer", name := "refusingCheck", desc := "()I" } : MethodName)) ∈ aw_ztb := aw_zw 769 (by decide +kernel) rfl
theorem tw_770 : (Cond.code ({ cls := "FormWright$Answer", name := "refusingCheck", desc := "()I" } : MethodName) prog_2_method_15_code (3 : Nat) (Option.some FieldType.int)) ∈ aw_ztb := aw_zw 770 (by decide +kernel) rfl
theorem tw_772 : (Cond.static ({ cls := "FormWrightLaw", name := "stateOf", desc := "(LFormWright;I[J)I" } : MethodName)) ∈ aw_ztb := aw_zw 772 (by decide +kernel) rfl
theorem tw_773 : (Cond.codeWith ({ cls := "FormWrightLaw", name := "stateOf", desc := "(LFormWright;I[J)I" } : MethodName) method_16_code (4 : Nat) (Option.some FieldType.int) [((0 : Nat), (9 : Nat), (12 : Nat), (23 : Nat))]) ∈ aw_ztb := aw_zw 773 (by decide +kernel) rfl
theorem tw_774 : (Cond.methodLink "FormWrightLaw" (60 : Nat) ({ cls := "FormWright", name := "stateOf", desc := "(I)I" } : MethodName)) ∈ aw_ztb := aw_zw 774 (by decide +kernel) rfl
theorem tw_775 : (Cond.instanceMethod ({ cls := "FormWright", name := "stateOf", desc := "(I)I" } : MethodName)) ∈ aw_ztb := aw_zw 775 (by decide +kernel) rfl
theorem tw_776 : (Cond.selects "FormWright" ({ cls := "FormWright", name := "stateOf", desc := "(I)I" } : MethodName) ({ cls := "FormWright", name := "stateOf", desc := "(I)I" } : MethodName)) ∈ aw_ztb := aw_zw 776 (by decide +kernel) rfl
theorem tw_777 : (Cond.code ({ cls := "FormWright", name := "stateOf", desc := "(I)I" } : MethodName) prog_1_method_19_code (2 : Nat) (Option.some FieldType.int)) ∈ aw_ztb := aw_zw 777 (by decide +kernel) rfl
theorem tw_779 : (Cond.static ({ cls := "FormWrightLaw", name := "versionOf", desc := "(LFormWright;I[J)I" } : MethodName)) ∈ aw_ztb := aw_zw 779 (by decide +kernel) rfl
theorem tw_780 : (Cond.codeWith ({ cls := "FormWrightLaw", name := "versionOf", desc := "(LFormWright;I[J)I" } : MethodName) method_17_code (4 : Nat) (Option.some FieldType.int) [((0 : Nat), (9 : Nat), (12 : Nat), (23 : Nat))]) ∈ aw_ztb := aw_zw 780 (by decide +kernel) rfl
theorem tw_781 : (Cond.methodLink "FormWrightLaw" (63 : Nat) ({ cls := "FormWright", name := "versionOf", desc := "(I)I" } : MethodName)) ∈ aw_ztb := aw_zw 781 (by decide +kernel) rfl
theorem tw_782 : (Cond.instanceMethod ({ cls := "FormWright", name := "versionOf", desc := "(I)I" } : MethodName)) ∈ aw_ztb := aw_zw 782 (by decide +kernel) rfl
theorem tw_783 : (Cond.selects "FormWright" ({ cls := "FormWright", name := "versionOf", desc := "(I)I" } : MethodName) ({ cls := "FormWright", name := "versionOf", desc := "(I)I" } : MethodName)) ∈ aw_ztb := aw_zw 783 (by decide +kernel) rfl
theorem tw_784 : (Cond.code ({ cls := "FormWright", name := "versionOf", desc := "(I)I" } : MethodName) prog_1_method_20_code (2 : Nat) (Option.some FieldType.int)) ∈ aw_ztb := aw_zw 784 (by decide +kernel) rfl
theorem tw_785 : (Cond.methodLink "FormWright" (183 : Nat) ({ cls := "FormWright$Answer", name := "versionNumber", desc := "()I" } : MethodName)) ∈ aw_ztb := aw_zw 785 (by decide +kernel) rfl
theorem tw_786 : (Cond.instanceMethod ({ cls := "FormWright$Answer", name := "versionNumber", desc := "()I" } : MethodName)) ∈ aw_ztb := aw_zw 786 (by decide +kernel) rfl
theorem tw_787 : (Cond.selects "FormWright$Answer" ({ cls := "FormWright$Answer", name := "versionNumber", desc := "()I" } : MethodName) ({ cls := "FormWright$Answer", name := "versionNumber", desc := "()I" } : MethodName)) ∈ aw_ztb := aw_zw 787 (by decide +kernel) rfl
theorem tw_788 : (Cond.code ({ cls := "FormWright$Answer", name := "versionNumber", desc := "()I" } : MethodName) prog_2_method_2_code (1 : Nat) (Option.some FieldType.int)) ∈ aw_ztb := aw_zw 788 (by decide +kernel) rfl
theorem tw_790 : (Cond.static ({ cls := "FormWrightLaw", name := "value", desc := "(LFormWright;II[J)I" } : MethodName)) ∈ aw_ztb := aw_zw 790 (by decide +kernel) rfl
theorem tw_791 : (Cond.codeWith ({ cls := "FormWrightLaw", name := "value", desc := "(LFormWright;II[J)I" } : MethodName) method_18_code (5 : Nat) (Option.some FieldType.int) [((0 : Nat), (10 : Nat), (13 : Nat), (23 : Nat)), ((0 : Nat), (10 : Nat), (17 : Nat), (13 : Nat))]) ∈ aw_ztb := aw_zw 791 (by decide +kernel) rfl
theorem tw_792 : (Cond.methodLink "FormWrightLaw" (66 : Nat) ({ cls := "FormWright", name := "value", desc := "(II)I" } : MethodName)) ∈ aw_ztb := aw_zw 792 (by decide +kernel) rfl
theorem tw_793 : (Cond.instanceMethod ({ cls := "FormWright", name := "value", desc := "(II)I" } : MethodName)) ∈ aw_ztb := aw_zw 793 (by decide +kernel) rfl
theorem tw_794 : (Cond.selects "FormWright" ({ cls := "FormWright", name := "value", desc := "(II)I" } : MethodName) ({ cls := "FormWright", name := "value", desc := "(II)I" } : MethodName)) ∈ aw_ztb := aw_zw 794 (by decide +kernel) rfl
theorem tw_795 : (Cond.code ({ cls := "FormWright", name := "value", desc := "(II)I" } : MethodName) prog_1_method_21_code (4 : Nat) (Option.some FieldType.int)) ∈ aw_ztb := aw_zw 795 (by decide +kernel) rfl
theorem tw_796 : (Cond.methodLink "FormWright" (186 : Nat) ({ cls := "FormWright$Answer", name := "hasValue", desc := "(I)Z" } : MethodName)) ∈ aw_ztb := aw_zw 796 (by decide +kernel) rfl
theorem tw_798 : (Cond.methodLink "FormWright" (191 : Nat) ({ cls := "FormWright$Answer", name := "valueAt", desc := "(I)I" } : MethodName)) ∈ aw_ztb := aw_zw 798 (by decide +kernel) rfl
theorem tw_799 : (Cond.instanceMethod ({ cls := "FormWright$Answer", name := "valueAt", desc := "(I)I" } : MethodName)) ∈ aw_ztb := aw_zw 799 (by decide +kernel) rfl
theorem tw_800 : (Cond.selects "FormWright$Answer" ({ cls := "FormWright$Answer", name := "valueAt", desc := "(I)I" } : MethodName) ({ cls := "FormWright$Answer", name := "valueAt", desc := "(I)I" } : MethodName)) ∈ aw_ztb := aw_zw 800 (by decide +kernel) rfl
theorem tw_801 : (Cond.code ({ cls := "FormWright$Answer", name := "valueAt", desc := "(I)I" } : MethodName) prog_2_method_11_code (2 : Nat) (Option.some FieldType.int)) ∈ aw_ztb := aw_zw 801 (by decide +kernel) rfl
theorem tw_802 : (Cond.methodLink "FormWright$Answer" (52 : Nat) ({ cls := "FormWright$Values", name := "at", desc := "(I)I" } : MethodName)) ∈ aw_ztb := aw_zw 802 (by decide +kernel) rfl
theorem tw_804 : (Cond.static ({ cls := "FormWrightLaw", name := "refusal", desc := "(LFormWright;I[J)I" } : MethodName)) ∈ aw_ztb := aw_zw 804 (by decide +kernel) rfl
theorem tw_805 : (Cond.codeWith ({ cls := "FormWrightLaw", name := "refusal", desc := "(LFormWright;I[J)I" } : MethodName) method_19_code (4 : Nat) (Option.some FieldType.int) [((0 : Nat), (9 : Nat), (12 : Nat), (23 : Nat)), ((0 : Nat), (9 : Nat), (15 : Nat), (13 : Nat))]) ∈ aw_ztb := aw_zw 805 (by decide +kernel) rfl
theorem tw_806 : (Cond.methodLink "FormWrightLaw" (69 : Nat) ({ cls := "FormWright", name := "refusal", desc := "(I)I" } : MethodName)) ∈ aw_ztb := aw_zw 806 (by decide +kernel) rfl
theorem tw_807 : (Cond.instanceMethod ({ cls := "FormWright", name := "refusal", desc := "(I)I" } : MethodName)) ∈ aw_ztb := aw_zw 807 (by decide +kernel) rfl
theorem tw_808 : (Cond.selects "FormWright" ({ cls := "FormWright", name := "refusal", desc := "(I)I" } : MethodName) ({ cls := "FormWright", name := "refusal", desc := "(I)I" } : MethodName)) ∈ aw_ztb := aw_zw 808 (by decide +kernel) rfl
theorem tw_809 : (Cond.code ({ cls := "FormWright", name := "refusal", desc := "(I)I" } : MethodName) prog_1_method_22_code (3 : Nat) (Option.some FieldType.int)) ∈ aw_ztb := aw_zw 809 (by decide +kernel) rfl
theorem tw_811 : (Cond.methodLink "FormWright" (196 : Nat) ({ cls := "FormWright$Answer", name := "refusingCheck", desc := "()I" } : MethodName)) ∈ aw_ztb := aw_zw 811 (by decide +kernel) rfl
theorem tw_813 : (Cond.static ({ cls := "FormWrightLaw", name := "doubt", desc := "(LFormWright;II[J)I" } : MethodName)) ∈ aw_ztb := aw_zw 813 (by decide +kernel) rfl
theorem tw_814 : (Cond.codeWith ({ cls := "FormWrightLaw", name := "doubt", desc := "(LFormWright;II[J)I" } : MethodName) method_20_code (5 : Nat) (Option.some FieldType.int) [((0 : Nat), (17 : Nat), (20 : Nat), (23 : Nat)), ((0 : Nat), (17 : Nat), (24 : Nat), (13 : Nat))]) ∈ aw_ztb := aw_zw 814 (by decide +kernel) rfl
theorem tw_815 : (Cond.methodLink "FormWrightLaw" (72 : Nat) ({ cls := "FormWright", name := "doubt", desc := "(II)Z" } : MethodName)) ∈ aw_ztb := aw_zw 815 (by decide +kernel) rfl
theorem tw_816 : (Cond.instanceMethod ({ cls := "FormWright", name := "doubt", desc := "(II)Z" } : MethodName)) ∈ aw_ztb := aw_zw 816 (by decide +kernel) rfl
theorem tw_817 : (Cond.selects "FormWright" ({ cls := "FormWright", name := "doubt", desc := "(II)Z" } : MethodName) ({ cls := "FormWright", name := "doubt", desc := "(II)Z" } : MethodName)) ∈ aw_ztb := aw_zw 817 (by decide +kernel) rfl
theorem tw_818 : (Cond.code ({ cls := "FormWright", name := "doubt", desc := "(II)Z" } : MethodName) prog_1_method_24_code (5 : Nat) (Option.some FieldType.boolean)) ∈ aw_ztb := aw_zw 818 (by decide +kernel) rfl
theorem tw_819 : (Cond.methodLink "FormWright" (199 : Nat) ({ cls := "FormWright$Answer", name := "isReviewable", desc := "()Z" } : MethodName)) ∈ aw_ztb := aw_zw 819 (by decide +kernel) rfl
theorem tw_820 : (Cond.methodLink "FormWright" (203 : Nat) ({ cls := "FormWright$Answer", name := "hasField", desc := "(I)Z" } : MethodName)) ∈ aw_ztb := aw_zw 820 (by decide +kernel) rfl
theorem tw_822 : (Cond.methodLink "FormWright" (208 : Nat) ({ cls := "FormWright$Answer", name := "isDoubted", desc := "(I)Z" } : MethodName)) ∈ aw_ztb := aw_zw 822 (by decide +kernel) rfl
theorem tw_823 : (Cond.instanceMethod ({ cls := "FormWright$Answer", name := "isDoubted", desc := "(I)Z" } : MethodName)) ∈ aw_ztb := aw_zw 823 (by decide +kernel) rfl
theorem tw_824 : (Cond.selects "FormWright$Answer" ({ cls := "FormWright$Answer", name := "isDoubted", desc := "(I)Z" } : MethodName) ({ cls := "FormWright$Answer", name := "isDoubted", desc := "(I)Z" } : MethodName)) ∈ aw_ztb := aw_zw 824 (by decide +kernel) rfl
theorem tw_825 : (Cond.code ({ cls := "FormWright$Answer", name := "isDoubted", desc := "(I)Z" } : MethodName) prog_2_method_5_code (2 : Nat) (Option.some FieldType.boolean)) ∈ aw_ztb := aw_zw 825 (by decide +kernel) rfl
theorem tw_826 : (Cond.methodLinkNest "FormWright$Answer" (32 : Nat) ({ cls := "FormWright", name := "isIn", desc := "(II)Z" } : MethodName) "FormWright") ∈ lw_tbl := List.mem_of_getElem? (i := 826) (by decide +kernel)
theorem tw_827 : (Cond.methodLink "FormWright" (211 : Nat) ({ cls := "FormWright$Answer", name := "addDoubts", desc := "(I)V" } : MethodName)) ∈ aw_ztb := aw_zw 827 (by decide +kernel) rfl
theorem tw_829 : (Cond.static ({ cls := "FormWrightLaw", name := "settle", desc := "(LFormWright;IIZ[J)I" } : MethodName)) ∈ aw_ztb := aw_zw 829 (by decide +kernel) rfl
theorem tw_830 : (Cond.codeWith ({ cls := "FormWrightLaw", name := "settle", desc := "(LFormWright;IIZ[J)I" } : MethodName) method_21_code (6 : Nat) (Option.some FieldType.int) [((0 : Nat), (12 : Nat), (15 : Nat), (23 : Nat)), ((0 : Nat), (12 : Nat), (19 : Nat), (13 : Nat))]) ∈ aw_ztb := aw_zw 830 (by decide +kernel) rfl
theorem tw_831 : (Cond.methodLink "FormWrightLaw" (76 : Nat) ({ cls := "FormWright", name := "settle", desc := "(IIZ)I" } : MethodName)) ∈ aw_ztb := aw_zw 831 (by decide +kernel) rfl
theorem tw_832 : (Cond.instanceMethod ({ cls := "FormWright", name := "settle", desc := "(IIZ)I" } : MethodName)) ∈ aw_ztb := aw_zw 832 (by decide +kernel) rfl
theorem tw_833 : (Cond.selects "FormWright" ({ cls := "FormWright", name := "settle", desc := "(IIZ)I" } : MethodName) ({ cls := "FormWright", name := "settle", desc := "(IIZ)I" } : MethodName)) ∈ aw_ztb := aw_zw 833 (by decide +kernel) rfl
theorem tw_834 : (Cond.code ({ cls := "FormWright", name := "settle", desc := "(IIZ)I" } : MethodName) prog_1_method_25_code (5 : Nat) (Option.some FieldType.int)) ∈ aw_ztb := aw_zw 834 (by decide +kernel) rfl
theorem tw_836 : (Cond.methodLink "FormWright" (216 : Nat) ({ cls := "FormWright$Answer", name := "release", desc := "(I)V" } : MethodName)) ∈ aw_ztb := aw_zw 836 (by decide +kernel) rfl
theorem tw_837 : (Cond.instanceMethod ({ cls := "FormWright$Answer", name := "release", desc := "(I)V" } : MethodName)) ∈ aw_ztb := aw_zw 837 (by decide +kernel) rfl
theorem tw_838 : (Cond.selects "FormWright$Answer" ({ cls := "FormWright$Answer", name := "release", desc := "(I)V" } : MethodName) ({ cls := "FormWright$Answer", name := "release", desc := "(I)V" } : MethodName)) ∈ aw_ztb := aw_zw 838 (by decide +kernel) rfl
theorem tw_839 : (Cond.code ({ cls := "FormWright$Answer", name := "release", desc := "(I)V" } : MethodName) prog_2_method_18_code (2 : Nat) (Option.none : Option FieldType)) ∈ aw_ztb := aw_zw 839 (by decide +kernel) rfl
theorem tw_840 : (Cond.methodLink "FormWright" (219 : Nat) ({ cls := "FormWright$Answer", name := "strike", desc := "()V" } : MethodName)) ∈ aw_ztb := aw_zw 840 (by decide +kernel) rfl
theorem tw_841 : (Cond.instanceMethod ({ cls := "FormWright$Answer", name := "strike", desc := "()V" } : MethodName)) ∈ aw_ztb := aw_zw 841 (by decide +kernel) rfl
theorem tw_842 : (Cond.selects "FormWright$Answer" ({ cls := "FormWright$Answer", name := "strike", desc := "()V" } : MethodName) ({ cls := "FormWright$Answer", name := "strike", desc := "()V" } : MethodName)) ∈ aw_ztb := aw_zw 842 (by decide +kernel) rfl
theorem tw_843 : (Cond.code ({ cls := "FormWright$Answer", name := "strike", desc := "()V" } : MethodName) prog_2_method_19_code (1 : Nat) (Option.none : Option FieldType)) ∈ aw_ztb := aw_zw 843 (by decide +kernel) rfl
theorem tw_845 : (Cond.static ({ cls := "FormWrightLaw", name := "amend", desc := "(LFormWright;III[J)I" } : MethodName)) ∈ aw_ztb := aw_zw 845 (by decide +kernel) rfl
theorem tw_846 : (Cond.codeWith ({ cls := "FormWrightLaw", name := "amend", desc := "(LFormWright;III[J)I" } : MethodName) method_22_code (6 : Nat) (Option.some FieldType.int) [((0 : Nat), (12 : Nat), (15 : Nat), (23 : Nat)), ((0 : Nat), (12 : Nat), (19 : Nat), (13 : Nat)), ((0 : Nat), (12 : Nat), (23 : Nat), (25 : Nat))]) ∈ aw_ztb := aw_zw 846 (by decide +kernel) rfl
theorem tw_847 : (Cond.methodLink "FormWrightLaw" (80 : Nat) ({ cls := "FormWright", name := "amend", desc := "(III)I" } : MethodName)) ∈ aw_ztb := aw_zw 847 (by decide +kernel) rfl
theorem tw_848 : (Cond.instanceMethod ({ cls := "FormWright", name := "amend", desc := "(III)I" } : MethodName)) ∈ aw_ztb := aw_zw 848 (by decide +kernel) rfl
theorem tw_849 : (Cond.selects "FormWright" ({ cls := "FormWright", name := "amend", desc := "(III)I" } : MethodName) ({ cls := "FormWright", name := "amend", desc := "(III)I" } : MethodName)) ∈ aw_ztb := aw_zw 849 (by decide +kernel) rfl
theorem tw_850 : (Cond.code ({ cls := "FormWright", name := "amend", desc := "(III)I" } : MethodName) prog_1_method_26_code (5 : Nat) (Option.some FieldType.int)) ∈ aw_ztb := aw_zw 850 (by decide +kernel) rfl
theorem tw_853 : (Cond.static ({ cls := "FormWrightLaw", name := "doubts", desc := "(LFormWright;I[J)I" } : MethodName)) ∈ aw_ztb := aw_zw 853 (by decide +kernel) rfl
theorem tw_854 : (Cond.codeWith ({ cls := "FormWrightLaw", name := "doubts", desc := "(LFormWright;I[J)I" } : MethodName) method_23_code (4 : Nat) (Option.some FieldType.int) [((0 : Nat), (9 : Nat), (12 : Nat), (23 : Nat))]) ∈ aw_ztb := aw_zw 854 (by decide +kernel) rfl
theorem tw_855 : (Cond.methodLink "FormWrightLaw" (83 : Nat) ({ cls := "FormWright", name := "doubts", desc := "(I)I" } : MethodName)) ∈ aw_ztb := aw_zw 855 (by decide +kernel) rfl
theorem tw_856 : (Cond.instanceMethod ({ cls := "FormWright", name := "doubts", desc := "(I)I" } : MethodName)) ∈ aw_ztb := aw_zw 856 (by decide +kernel) rfl
theorem tw_857 : (Cond.selects "FormWright" ({ cls := "FormWright", name := "doubts", desc := "(I)I" } : MethodName) ({ cls := "FormWright", name := "doubts", desc := "(I)I" } : MethodName)) ∈ aw_ztb := aw_zw 857 (by decide +kernel) rfl
theorem tw_858 : (Cond.code ({ cls := "FormWright", name := "doubts", desc := "(I)I" } : MethodName) prog_1_method_27_code (2 : Nat) (Option.some FieldType.int)) ∈ aw_ztb := aw_zw 858 (by decide +kernel) rfl
theorem tw_859 : (Cond.methodLink "FormWright" (224 : Nat) ({ cls := "FormWright$Answer", name := "doubtedFields", desc := "()I" } : MethodName)) ∈ aw_ztb := aw_zw 859 (by decide +kernel) rfl
theorem tw_860 : (Cond.instanceMethod ({ cls := "FormWright$Answer", name := "doubtedFields", desc := "()I" } : MethodName)) ∈ aw_ztb := aw_zw 860 (by decide +kernel) rfl
theorem tw_861 : (Cond.selects "FormWright$Answer" ({ cls := "FormWright$Answer", name := "doubtedFields", desc := "()I" } : MethodName) ({ cls := "FormWright$Answer", name := "doubtedFields", desc := "()I" } : MethodName)) ∈ aw_ztb := aw_zw 861 (by decide +kernel) rfl
theorem tw_862 : (Cond.code ({ cls := "FormWright$Answer", name := "doubtedFields", desc := "()I" } : MethodName) prog_2_method_4_code (1 : Nat) (Option.some FieldType.int)) ∈ aw_ztb := aw_zw 862 (by decide +kernel) rfl
theorem tw_863 : (Cond.classLink "FormWrightLaw" (87 : Nat) "FormWrightModel") ∈ aw_ztb := aw_zw 863 (by decide +kernel) rfl
theorem tw_864 : (Cond.instantiable "FormWrightModel" (26 : Nat)) ∈ aw_ztb := aw_zw 864 (by decide +kernel) rfl
theorem tw_865 : (Cond.methodLink "FormWrightLaw" (89 : Nat) ({ cls := "FormWrightModel", name := "<init>", desc := "()V" } : MethodName)) ∈ aw_ztb := aw_zw 865 (by decide +kernel) rfl
theorem tw_866 : (Cond.instanceMethod ({ cls := "FormWrightModel", name := "<init>", desc := "()V" } : MethodName)) ∈ aw_ztb := aw_zw 866 (by decide +kernel) rfl
theorem tw_867 : (Cond.code ({ cls := "FormWrightModel", name := "<init>", desc := "()V" } : MethodName) prog_10_method_1_code (1 : Nat) (Option.none : Option FieldType)) ∈ aw_ztb := aw_zw 867 (by decide +kernel) rfl
theorem tw_868 : (Cond.methodLink "FormWrightModel" (1 : Nat) ({ cls := "java/lang/Object", name := "<init>", desc := "()V" } : MethodName)) ∈ aw_ztb := aw_zw 868 (by decide +kernel) rfl
theorem tw_869 : (Cond.fieldLink "FormWrightModel" (7 : Nat) "FormWrightModel" "text" "[I") ∈ aw_ztb := aw_zw 869 (by decide +kernel) rfl
theorem tw_870 : (Cond.fieldLink "FormWrightModel" (62 : Nat) "FormWrightModel" "textMany" "I") ∈ aw_ztb := aw_zw 870 (by decide +kernel) rfl
theorem tw_871 : (Cond.fieldLink "FormWrightModel" (13 : Nat) "FormWrightModel" "codes" "[I") ∈ aw_ztb := aw_zw 871 (by decide +kernel) rfl
theorem tw_872 : (Cond.fieldLink "FormWrightModel" (16 : Nat) "FormWrightModel" "lengths" "[I") ∈ aw_ztb := aw_zw 872 (by decide +kernel) rfl
theorem tw_873 : (Cond.fieldLink "FormWrightModel" (19 : Nat) "FormWrightModel" "types" "[I") ∈ aw_ztb := aw_zw 873 (by decide +kernel) rfl
theorem tw_874 : (Cond.fieldLink "FormWrightModel" (162 : Nat) "FormWrightModel" "versionMany" "I") ∈ aw_ztb := aw_zw 874 (by decide +kernel) rfl
theorem tw_875 : (Cond.fieldLink "FormWrightModel" (165 : Nat) "FormWrightModel" "answerMany" "I") ∈ aw_ztb := aw_zw 875 (by decide +kernel) rfl
theorem tw_876 : (Cond.fieldLink "FormWrightModel" (22 : Nat) "FormWrightModel" "states" "[I") ∈ aw_ztb := aw_zw 876 (by decide +kernel) rfl
theorem tw_877 : (Cond.fieldLink "FormWrightModel" (25 : Nat) "FormWrightModel" "versionsOf" "[I") ∈ aw_ztb := aw_zw 877 (by decide +kernel) rfl
theorem tw_878 : (Cond.fieldLink "FormWrightModel" (28 : Nat) "FormWrightModel" "values" "[I") ∈ aw_ztb := aw_zw 878 (by decide +kernel) rfl
theorem tw_879 : (Cond.fieldLink "FormWrightModel" (31 : Nat) "FormWrightModel" "hasValue" "[Z") ∈ aw_ztb := aw_zw 879 (by decide +kernel) rfl
theorem tw_880 : (Cond.fieldLink "FormWrightModel" (35 : Nat) "FormWrightModel" "doubted" "[I") ∈ aw_ztb := aw_zw 880 (by decide +kernel) rfl
theorem tw_881 : (Cond.fieldLink "FormWrightModel" (66 : Nat) "FormWrightModel" "thrown" "I") ∈ aw_ztb := aw_zw 881 (by decide +kernel) rfl
theorem tw_882 : (Cond.fieldLink "FormWrightModel" (38 : Nat) "FormWrightModel" "opened" "[I") ∈ aw_ztb := aw_zw 882 (by decide +kernel) rfl
theorem tw_883 : (Cond.fieldLink "FormWrightModel" (73 : Nat) "FormWrightModel" "openMany" "I") ∈ aw_ztb := aw_zw 883 (by decide +kernel) rfl
theorem tw_884 : (Cond.fieldLink "FormWrightModel" (41 : Nat) "FormWrightModel" "isRelated" "[Z") ∈ aw_ztb := aw_zw 884 (by decide +kernel) rfl
theorem tw_885 : (Cond.fieldLink "FormWrightModel" (76 : Nat) "FormWrightModel" "deep" "I") ∈ aw_ztb := aw_zw 885 (by decide +kernel) rfl
theorem tw_886 : (Cond.fieldLink "FormWrightModel" (44 : Nat) "FormWrightModel" "row" "[I") ∈ aw_ztb := aw_zw 886 (by decide +kernel) rfl
theorem tw_887 : (Cond.fieldLink "FormWrightModel" (99 : Nat) "FormWrightModel" "rowMany" "I") ∈ aw_ztb := aw_zw 887 (by decide +kernel) rfl
theorem tw_888 : (Cond.fieldLink "FormWrightModel" (47 : Nat) "FormWrightModel" "signs" "[I") ∈ aw_ztb := aw_zw 888 (by decide +kernel) rfl
theorem tw_889 : (Cond.fieldLink "FormWrightModel" (102 : Nat) "FormWrightModel" "signMany" "I") ∈ aw_ztb := aw_zw 889 (by decide +kernel) rfl
theorem tw_890 : (Cond.fieldLink "FormWrightModel" (50 : Nat) "FormWrightModel" "stack" "[I") ∈ aw_ztb := aw_zw 890 (by decide +kernel) rfl
theorem tw_891 : (Cond.fieldLink "FormWrightModel" (53 : Nat) "FormWrightModel" "ordered" "[I") ∈ aw_ztb := aw_zw 891 (by decide +kernel) rfl
theorem tw_892 : (Cond.fieldLink "FormWrightModel" (56 : Nat) "FormWrightModel" "plains" "[I") ∈ aw_ztb := aw_zw 892 (by decide +kernel) rfl
theorem tw_893 : (Cond.fieldLink "FormWrightModel" (181 : Nat) "FormWrightModel" "plainMany" "I") ∈ aw_ztb := aw_zw 893 (by decide +kernel) rfl
theorem tw_894 : (Cond.fieldLink "FormWrightModel" (59 : Nat) "FormWrightModel" "work" "[I") ∈ aw_ztb := aw_zw 894 (by decide +kernel) rfl
theorem tw_948 : (Cond.arrayClass FieldType.boolean) ∈ aw_ztb := aw_zw 948 (by decide +kernel) rfl
theorem tw_949 : (Cond.methodLink "FormWrightLaw" (96 : Nat) ({ cls := "FormWrightModel", name := "thrown", desc := "()I" } : MethodName)) ∈ aw_ztb := aw_zw 949 (by decide +kernel) rfl
theorem tw_950 : (Cond.instanceMethod ({ cls := "FormWrightModel", name := "thrown", desc := "()I" } : MethodName)) ∈ aw_ztb := aw_zw 950 (by decide +kernel) rfl
theorem tw_951 : (Cond.selects "FormWrightModel" ({ cls := "FormWrightModel", name := "thrown", desc := "()I" } : MethodName) ({ cls := "FormWrightModel", name := "thrown", desc := "()I" } : MethodName)) ∈ aw_ztb := aw_zw 951 (by decide +kernel) rfl
theorem tw_952 : (Cond.code ({ cls := "FormWrightModel", name := "thrown", desc := "()I" } : MethodName) prog_10_method_2_code (1 : Nat) (Option.some FieldType.int)) ∈ aw_ztb := aw_zw 952 (by decide +kernel) rfl
theorem tw_953 : (Cond.methodLink "FormWrightLaw" (95 : Nat) ({ cls := "FormWrightModel", name := "type", desc := "(C)I" } : MethodName)) ∈ aw_ztb := aw_zw 953 (by decide +kernel) rfl
theorem tw_954 : (Cond.instanceMethod ({ cls := "FormWrightModel", name := "type", desc := "(C)I" } : MethodName)) ∈ aw_ztb := aw_zw 954 (by decide +kernel) rfl
theorem tw_955 : (Cond.selects "FormWrightModel" ({ cls := "FormWrightModel", name := "type", desc := "(C)I" } : MethodName) ({ cls := "FormWrightModel", name := "type", desc := "(C)I" } : MethodName)) ∈ aw_ztb := aw_zw 955 (by decide +kernel) rfl
theorem tw_956 : (Cond.code ({ cls := "FormWrightModel", name := "type", desc := "(C)I" } : MethodName) prog_10_method_12_code (2 : Nat) (Option.some FieldType.int)) ∈ aw_ztb := aw_zw 956 (by decide +kernel) rfl
theorem tw_957 : (Cond.methodLink "FormWrightLaw" (102 : Nat) ({ cls := "FormWrightModel", name := "clear", desc := "()I" } : MethodName)) ∈ aw_ztb := aw_zw 957 (by decide +kernel) rfl
theorem tw_958 : (Cond.instanceMethod ({ cls := "FormWrightModel", name := "clear", desc := "()I" } : MethodName)) ∈ aw_ztb := aw_zw 958 (by decide +kernel) rfl
theorem tw_959 : (Cond.selects "FormWrightModel" ({ cls := "FormWrightModel", name := "clear", desc := "()I" } : MethodName) ({ cls := "FormWrightModel", name := "clear", desc := "()I" } : MethodName)) ∈ aw_ztb := aw_zw 959 (by decide +kernel) rfl
theorem tw_960 : (Cond.code ({ cls := "FormWrightModel", name := "clear", desc := "()I" } : MethodName) prog_10_method_13_code (2 : Nat) (Option.some FieldType.int)) ∈ aw_ztb := aw_zw 960 (by decide +kernel) rfl
theorem tw_961 : (Cond.methodLink "FormWrightLaw" (106 : Nat) ({ cls := "FormWrightModel", name := "error", desc := "()I" } : MethodName)) ∈ aw_ztb := aw_zw 961 (by decide +kernel) rfl
theorem tw_962 : (Cond.instanceMethod ({ cls := "FormWrightModel", name := "error", desc := "()I" } : MethodName)) ∈ aw_ztb := aw_zw 962 (by decide +kernel) rfl
theorem tw_963 : (Cond.selects "FormWrightModel" ({ cls := "FormWrightModel", name := "error", desc := "()I" } : MethodName) ({ cls := "FormWrightModel", name := "error", desc := "()I" } : MethodName)) ∈ aw_ztb := aw_zw 963 (by decide +kernel) rfl
theorem tw_964 : (Cond.code ({ cls := "FormWrightModel", name := "error", desc := "()I" } : MethodName) prog_10_method_14_code (1 : Nat) (Option.some FieldType.int)) ∈ aw_ztb := aw_zw 964 (by decide +kernel) rfl
theorem tw_965 : (Cond.methodLink "FormWrightModel" (95 : Nat) ({ cls := "FormWrightModel", name := "firstError", desc := "()I" } : MethodName)) ∈ aw_ztb := aw_zw 965 (by decide +kernel) rfl
theorem tw_967 : (Cond.instanceMethod ({ cls := "FormWrightModel", name := "firstError", desc := "()I" } : MethodName)) ∈ aw_ztb := aw_zw 967 (by decide +kernel) rfl
theorem tw_968 : (Cond.code ({ cls := "FormWrightModel", name := "firstError", desc := "()I" } : MethodName) prog_10_method_11_code (5 : Nat) (Option.some FieldType.int)) ∈ aw_ztb := aw_zw 968 (by decide +kernel) rfl
theorem tw_969 : (Cond.methodLink "FormWrightModel" (82 : Nat) ({ cls := "FormWrightModel", name := "isDigit", desc := "(I)Z" } : MethodName)) ∈ aw_ztb := aw_zw 969 (by decide +kernel) rfl
theorem tw_970 : (Cond.static ({ cls := "FormWrightModel", name := "isDigit", desc := "(I)Z" } : MethodName)) ∈ aw_ztb := aw_zw 970 (by decide +kernel) rfl
theorem tw_971 : (Cond.code ({ cls := "FormWrightModel", name := "isDigit", desc := "(I)Z" } : MethodName) prog_10_method_7_code (1 : Nat) (Option.some FieldType.boolean)) ∈ aw_ztb := aw_zw 971 (by decide +kernel) rfl
theorem tw_972 : (Cond.methodLink "FormWrightModel" (69 : Nat) ({ cls := "FormWrightModel", name := "in", desc := "(III)Z" } : MethodName)) ∈ aw_ztb := aw_zw 972 (by decide +kernel) rfl
theorem tw_973 : (Cond.static ({ cls := "FormWrightModel", name := "in", desc := "(III)Z" } : MethodName)) ∈ aw_ztb := aw_zw 973 (by decide +kernel) rfl
theorem tw_974 : (Cond.code ({ cls := "FormWrightModel", name := "in", desc := "(III)Z" } : MethodName) prog_10_method_3_code (3 : Nat) (Option.some FieldType.boolean)) ∈ aw_ztb := aw_zw 974 (by decide +kernel) rfl
theorem tw_975 : (Cond.methodLink "FormWrightModel" (86 : Nat) ({ cls := "FormWrightModel", name := "isLetter", desc := "(I)Z" } : MethodName)) ∈ aw_ztb := aw_zw 975 (by decide +kernel) rfl
theorem tw_976 : (Cond.static ({ cls := "FormWrightModel", name := "isLetter", desc := "(I)Z" } : MethodName)) ∈ aw_ztb := aw_zw 976 (by decide +kernel) rfl
theorem tw_977 : (Cond.code ({ cls := "FormWrightModel", name := "isLetter", desc := "(I)Z" } : MethodName) prog_10_method_8_code (1 : Nat) (Option.some FieldType.boolean)) ∈ aw_ztb := aw_zw 977 (by decide +kernel) rfl
theorem tw_978 : (Cond.methodLink "FormWrightModel" (89 : Nat) ({ cls := "FormWrightModel", name := "opens", desc := "(I)Z" } : MethodName)) ∈ aw_ztb := aw_zw 978 (by decide +kernel) rfl
theorem tw_980 : (Cond.instanceMethod ({ cls := "FormWrightModel", name := "opens", desc := "(I)Z" } : MethodName)) ∈ aw_ztb := aw_zw 980 (by decide +kernel) rfl
theorem tw_981 : (Cond.code ({ cls := "FormWrightModel", name := "opens", desc := "(I)Z" } : MethodName) prog_10_method_9_code (2 : Nat) (Option.some FieldType.boolean)) ∈ aw_ztb := aw_zw 981 (by decide +kernel) rfl
theorem tw_982 : (Cond.methodLink "FormWrightModel" (79 : Nat) ({ cls := "FormWrightModel", name := "endFactor", desc := "()V" } : MethodName)) ∈ aw_ztb := aw_zw 982 (by decide +kernel) rfl
theorem tw_984 : (Cond.instanceMethod ({ cls := "FormWrightModel", name := "endFactor", desc := "()V" } : MethodName)) ∈ aw_ztb := aw_zw 984 (by decide +kernel) rfl
theorem tw_985 : (Cond.code ({ cls := "FormWrightModel", name := "endFactor", desc := "()V" } : MethodName) prog_10_method_6_code (1 : Nat) (Option.none : Option FieldType)) ∈ aw_ztb := aw_zw 985 (by decide +kernel) rfl
theorem tw_986 : (Cond.methodLink "FormWrightModel" (92 : Nat) ({ cls := "FormWrightModel", name := "goesOn", desc := "(I)Z" } : MethodName)) ∈ aw_ztb := aw_zw 986 (by decide +kernel) rfl
theorem tw_988 : (Cond.instanceMethod ({ cls := "FormWrightModel", name := "goesOn", desc := "(I)Z" } : MethodName)) ∈ aw_ztb := aw_zw 988 (by decide +kernel) rfl
theorem tw_989 : (Cond.code ({ cls := "FormWrightModel", name := "goesOn", desc := "(I)Z" } : MethodName) prog_10_method_10_code (3 : Nat) (Option.some FieldType.boolean)) ∈ aw_ztb := aw_zw 989 (by decide +kernel) rfl
theorem tw_990 : (Cond.methodLink "FormWrightLaw" (110 : Nat) ({ cls := "FormWrightModel", name := "typeOfText", desc := "()I" } : MethodName)) ∈ aw_ztb := aw_zw 990 (by decide +kernel) rfl
theorem tw_991 : (Cond.instanceMethod ({ cls := "FormWrightModel", name := "typeOfText", desc := "()I" } : MethodName)) ∈ aw_ztb := aw_zw 991 (by decide +kernel) rfl
theorem tw_992 : (Cond.selects "FormWrightModel" ({ cls := "FormWrightModel", name := "typeOfText", desc := "()I" } : MethodName) ({ cls := "FormWrightModel", name := "typeOfText", desc := "()I" } : MethodName)) ∈ aw_ztb := aw_zw 992 (by decide +kernel) rfl
theorem tw_993 : (Cond.code ({ cls := "FormWrightModel", name := "typeOfText", desc := "()I" } : MethodName) prog_10_method_25_code (1 : Nat) (Option.some FieldType.int)) ∈ aw_ztb := aw_zw 993 (by decide +kernel) rfl
theorem tw_994 : (Cond.methodLink "FormWrightModel" (126 : Nat) ({ cls := "FormWrightModel", name := "layRow", desc := "()V" } : MethodName)) ∈ aw_ztb := aw_zw 994 (by decide +kernel) rfl
theorem tw_996 : (Cond.instanceMethod ({ cls := "FormWrightModel", name := "layRow", desc := "()V" } : MethodName)) ∈ aw_ztb := aw_zw 996 (by decide +kernel) rfl
theorem tw_997 : (Cond.code ({ cls := "FormWrightModel", name := "layRow", desc := "()V" } : MethodName) prog_10_method_19_code (4 : Nat) (Option.none : Option FieldType)) ∈ aw_ztb := aw_zw 997 (by decide +kernel) rfl
theorem tw_998 : (Cond.methodLink "FormWrightModel" (105 : Nat) ({ cls := "FormWrightModel", name := "lay", desc := "(I)V" } : MethodName)) ∈ aw_ztb := aw_zw 998 (by decide +kernel) rfl
theorem tw_1000 : (Cond.instanceMethod ({ cls := "FormWrightModel", name := "lay", desc := "(I)V" } : MethodName)) ∈ aw_ztb := aw_zw 1000 (by decide +kernel) rfl
theorem tw_1001 : (Cond.code ({ cls := "FormWrightModel", name := "lay", desc := "(I)V" } : MethodName) prog_10_method_16_code (2 : Nat) (Option.none : Option FieldType)) ∈ aw_ztb := aw_zw 1001 (by decide +kernel) rfl
theorem tw_1002 : (Cond.methodLink "FormWrightModel" (113 : Nat) ({ cls := "FormWrightModel", name := "layBangs", desc := "()V" } : MethodName)) ∈ aw_ztb := aw_zw 1002 (by decide +kernel) rfl
theorem tw_1004 : (Cond.instanceMethod ({ cls := "FormWrightModel", name := "layBangs", desc := "()V" } : MethodName)) ∈ aw_ztb := aw_zw 1004 (by decide +kernel) rfl
theorem tw_1005 : (Cond.code ({ cls := "FormWrightModel", name := "layBangs", desc := "()V" } : MethodName) prog_10_method_17_code (1 : Nat) (Option.none : Option FieldType)) ∈ aw_ztb := aw_zw 1005 (by decide +kernel) rfl
theorem tw_1006 : (Cond.methodLink "FormWrightModel" (116 : Nat) ({ cls := "FormWrightModel", name := "laySigns", desc := "(I)V" } : MethodName)) ∈ aw_ztb := aw_zw 1006 (by decide +kernel) rfl
theorem tw_1008 : (Cond.instanceMethod ({ cls := "FormWrightModel", name := "laySigns", desc := "(I)V" } : MethodName)) ∈ aw_ztb := aw_zw 1008 (by decide +kernel) rfl
theorem tw_1009 : (Cond.code ({ cls := "FormWrightModel", name := "laySigns", desc := "(I)V" } : MethodName) prog_10_method_18_code (2 : Nat) (Option.none : Option FieldType)) ∈ aw_ztb := aw_zw 1009 (by decide +kernel) rfl
theorem tw_1010 : (Cond.methodLink "FormWrightModel" (109 : Nat) ({ cls := "FormWrightModel", name := "rank", desc := "(I)I" } : MethodName)) ∈ aw_ztb := aw_zw 1010 (by decide +kernel) rfl
theorem tw_1011 : (Cond.static ({ cls := "FormWrightModel", name := "rank", desc := "(I)I" } : MethodName)) ∈ aw_ztb := aw_zw 1011 (by decide +kernel) rfl
theorem tw_1012 : (Cond.code ({ cls := "FormWrightModel", name := "rank", desc := "(I)I" } : MethodName) prog_10_method_15_code (1 : Nat) (Option.some FieldType.int)) ∈ aw_ztb := aw_zw 1012 (by decide +kernel) rfl
theorem tw_1013 : (Cond.methodLink "FormWrightModel" (129 : Nat) ({ cls := "FormWrightModel", name := "typeOf", desc := "([III)I" } : MethodName)) ∈ aw_ztb := aw_zw 1013 (by decide +kernel) rfl
theorem tw_1015 : (Cond.instanceMethod ({ cls := "FormWrightModel", name := "typeOf", desc := "([III)I" } : MethodName)) ∈ aw_ztb := aw_zw 1015 (by decide +kernel) rfl
theorem tw_1016 : (Cond.code ({ cls := "FormWrightModel", name := "typeOf", desc := "([III)I" } : MethodName) prog_10_method_21_code (7 : Nat) (Option.some FieldType.int)) ∈ aw_ztb := aw_zw 1016 (by decide +kernel) rfl
theorem tw_1017 : (Cond.methodLink "FormWrightModel" (119 : Nat) ({ cls := "FormWrightModel", name := "typeFor", desc := "(III)I" } : MethodName)) ∈ aw_ztb := aw_zw 1017 (by decide +kernel) rfl
theorem tw_1018 : (Cond.static ({ cls := "FormWrightModel", name := "typeFor", desc := "(III)I" } : MethodName)) ∈ aw_ztb := aw_zw 1018 (by decide +kernel) rfl
theorem tw_1019 : (Cond.code ({ cls := "FormWrightModel", name := "typeFor", desc := "(III)I" } : MethodName) prog_10_method_20_code (6 : Nat) (Option.some FieldType.int)) ∈ aw_ztb := aw_zw 1019 (by decide +kernel) rfl
theorem tw_1020 : (Cond.methodLink "FormWrightLaw" (114 : Nat) ({ cls := "FormWrightModel", name := "setType", desc := "(II)I" } : MethodName)) ∈ aw_ztb := aw_zw 1020 (by decide +kernel) rfl
theorem tw_1021 : (Cond.instanceMethod ({ cls := "FormWrightModel", name := "setType", desc := "(II)I" } : MethodName)) ∈ aw_ztb := aw_zw 1021 (by decide +kernel) rfl
theorem tw_1022 : (Cond.selects "FormWrightModel" ({ cls := "FormWrightModel", name := "setType", desc := "(II)I" } : MethodName) ({ cls := "FormWrightModel", name := "setType", desc := "(II)I" } : MethodName)) ∈ aw_ztb := aw_zw 1022 (by decide +kernel) rfl
theorem tw_1023 : (Cond.code ({ cls := "FormWrightModel", name := "setType", desc := "(II)I" } : MethodName) prog_10_method_29_code (3 : Nat) (Option.some FieldType.int)) ∈ aw_ztb := aw_zw 1023 (by decide +kernel) rfl
theorem tw_1024 : (Cond.methodLink "FormWrightModel" (139 : Nat) ({ cls := "FormWrightModel", name := "isField", desc := "(I)Z" } : MethodName)) ∈ aw_ztb := aw_zw 1024 (by decide +kernel) rfl
theorem tw_1025 : (Cond.static ({ cls := "FormWrightModel", name := "isField", desc := "(I)Z" } : MethodName)) ∈ aw_ztb := aw_zw 1025 (by decide +kernel) rfl
theorem tw_1026 : (Cond.code ({ cls := "FormWrightModel", name := "isField", desc := "(I)Z" } : MethodName) prog_10_method_4_code (1 : Nat) (Option.some FieldType.boolean)) ∈ aw_ztb := aw_zw 1026 (by decide +kernel) rfl
theorem tw_1027 : (Cond.methodLink "FormWrightModel" (142 : Nat) ({ cls := "FormWrightModel", name := "brokenMany", desc := "()I" } : MethodName)) ∈ aw_ztb := aw_zw 1027 (by decide +kernel) rfl
theorem tw_1029 : (Cond.instanceMethod ({ cls := "FormWrightModel", name := "brokenMany", desc := "()I" } : MethodName)) ∈ aw_ztb := aw_zw 1029 (by decide +kernel) rfl
theorem tw_1030 : (Cond.code ({ cls := "FormWrightModel", name := "brokenMany", desc := "()I" } : MethodName) prog_10_method_28_code (3 : Nat) (Option.some FieldType.int)) ∈ aw_ztb := aw_zw 1030 (by decide +kernel) rfl
theorem tw_1031 : (Cond.methodLink "FormWrightModel" (136 : Nat) ({ cls := "FormWrightModel", name := "breaks", desc := "(I)Z" } : MethodName)) ∈ aw_ztb := aw_zw 1031 (by decide +kernel) rfl
theorem tw_1033 : (Cond.instanceMethod ({ cls := "FormWrightModel", name := "breaks", desc := "(I)Z" } : MethodName)) ∈ aw_ztb := aw_zw 1033 (by decide +kernel) rfl
theorem tw_1034 : (Cond.code ({ cls := "FormWrightModel", name := "breaks", desc := "(I)Z" } : MethodName) prog_10_method_27_code (2 : Nat) (Option.some FieldType.boolean)) ∈ aw_ztb := aw_zw 1034 (by decide +kernel) rfl
theorem tw_1035 : (Cond.methodLink "FormWrightModel" (133 : Nat) ({ cls := "FormWrightModel", name := "dueType", desc := "(I)I" } : MethodName)) ∈ aw_ztb := aw_zw 1035 (by decide +kernel) rfl
theorem tw_1037 : (Cond.instanceMethod ({ cls := "FormWrightModel", name := "dueType", desc := "(I)I" } : MethodName)) ∈ aw_ztb := aw_zw 1037 (by decide +kernel) rfl
theorem tw_1038 : (Cond.code ({ cls := "FormWrightModel", name := "dueType", desc := "(I)I" } : MethodName) prog_10_method_26_code (2 : Nat) (Option.some FieldType.int)) ∈ aw_ztb := aw_zw 1038 (by decide +kernel) rfl
theorem tw_1039 : (Cond.methodLink "FormWrightLaw" (118 : Nat) ({ cls := "FormWrightModel", name := "setFormula", desc := "(I)I" } : MethodName)) ∈ aw_ztb := aw_zw 1039 (by decide +kernel) rfl
theorem tw_1040 : (Cond.instanceMethod ({ cls := "FormWrightModel", name := "setFormula", desc := "(I)I" } : MethodName)) ∈ aw_ztb := aw_zw 1040 (by decide +kernel) rfl
theorem tw_1041 : (Cond.selects "FormWrightModel" ({ cls := "FormWrightModel", name := "setFormula", desc := "(I)I" } : MethodName) ({ cls := "FormWrightModel", name := "setFormula", desc := "(I)I" } : MethodName)) ∈ aw_ztb := aw_zw 1041 (by decide +kernel) rfl
theorem tw_1042 : (Cond.code ({ cls := "FormWrightModel", name := "setFormula", desc := "(I)I" } : MethodName) prog_10_method_31_code (4 : Nat) (Option.some FieldType.int)) ∈ aw_ztb := aw_zw 1042 (by decide +kernel) rfl
theorem tw_1043 : (Cond.methodLink "FormWrightModel" (149 : Nat) ({ cls := "FormWrightModel", name := "isFormula", desc := "(I)Z" } : MethodName)) ∈ aw_ztb := aw_zw 1043 (by decide +kernel) rfl
theorem tw_1044 : (Cond.static ({ cls := "FormWrightModel", name := "isFormula", desc := "(I)Z" } : MethodName)) ∈ aw_ztb := aw_zw 1044 (by decide +kernel) rfl
theorem tw_1045 : (Cond.code ({ cls := "FormWrightModel", name := "isFormula", desc := "(I)Z" } : MethodName) prog_10_method_5_code (1 : Nat) (Option.some FieldType.boolean)) ∈ aw_ztb := aw_zw 1045 (by decide +kernel) rfl
theorem tw_1046 : (Cond.methodLink "FormWrightModel" (152 : Nat) ({ cls := "FormWrightModel", name := "isReached", desc := "(I)Z" } : MethodName)) ∈ aw_ztb := aw_zw 1046 (by decide +kernel) rfl
theorem tw_1048 : (Cond.instanceMethod ({ cls := "FormWrightModel", name := "isReached", desc := "(I)Z" } : MethodName)) ∈ aw_ztb := aw_zw 1048 (by decide +kernel) rfl
theorem tw_1049 : (Cond.code ({ cls := "FormWrightModel", name := "isReached", desc := "(I)Z" } : MethodName) prog_10_method_30_code (6 : Nat) (Option.some FieldType.boolean)) ∈ aw_ztb := aw_zw 1049 (by decide +kernel) rfl
theorem tw_1050 : (Cond.methodLink "FormWrightModel" (145 : Nat) ({ cls := "FormWrightModel", name := "hasLetter", desc := "(II)Z" } : MethodName)) ∈ aw_ztb := aw_zw 1050 (by decide +kernel) rfl
theorem tw_1052 : (Cond.instanceMethod ({ cls := "FormWrightModel", name := "hasLetter", desc := "(II)Z" } : MethodName)) ∈ aw_ztb := aw_zw 1052 (by decide +kernel) rfl
theorem tw_1053 : (Cond.code ({ cls := "FormWrightModel", name := "hasLetter", desc := "(II)Z" } : MethodName) prog_10_method_24_code (5 : Nat) (Option.some FieldType.boolean)) ∈ aw_ztb := aw_zw 1053 (by decide +kernel) rfl
theorem tw_1054 : (Cond.methodLink "FormWrightLaw" (121 : Nat) ({ cls := "FormWrightModel", name := "dropFormula", desc := "(I)Z" } : MethodName)) ∈ aw_ztb := aw_zw 1054 (by decide +kernel) rfl
theorem tw_1055 : (Cond.instanceMethod ({ cls := "FormWrightModel", name := "dropFormula", desc := "(I)Z" } : MethodName)) ∈ aw_ztb := aw_zw 1055 (by decide +kernel) rfl
theorem tw_1056 : (Cond.selects "FormWrightModel" ({ cls := "FormWrightModel", name := "dropFormula", desc := "(I)Z" } : MethodName) ({ cls := "FormWrightModel", name := "dropFormula", desc := "(I)Z" } : MethodName)) ∈ aw_ztb := aw_zw 1056 (by decide +kernel) rfl
theorem tw_1057 : (Cond.code ({ cls := "FormWrightModel", name := "dropFormula", desc := "(I)Z" } : MethodName) prog_10_method_32_code (3 : Nat) (Option.some FieldType.boolean)) ∈ aw_ztb := aw_zw 1057 (by decide +kernel) rfl
theorem tw_1058 : (Cond.methodLink "FormWrightLaw" (124 : Nat) ({ cls := "FormWrightModel", name := "isBroken", desc := "(I)Z" } : MethodName)) ∈ aw_ztb := aw_zw 1058 (by decide +kernel) rfl
theorem tw_1059 : (Cond.instanceMethod ({ cls := "FormWrightModel", name := "isBroken", desc := "(I)Z" } : MethodName)) ∈ aw_ztb := aw_zw 1059 (by decide +kernel) rfl
theorem tw_1060 : (Cond.selects "FormWrightModel" ({ cls := "FormWrightModel", name := "isBroken", desc := "(I)Z" } : MethodName) ({ cls := "FormWrightModel", name := "isBroken", desc := "(I)Z" } : MethodName)) ∈ aw_ztb := aw_zw 1060 (by decide +kernel) rfl
theorem tw_1061 : (Cond.code ({ cls := "FormWrightModel", name := "isBroken", desc := "(I)Z" } : MethodName) prog_10_method_33_code (2 : Nat) (Option.some FieldType.boolean)) ∈ aw_ztb := aw_zw 1061 (by decide +kernel) rfl
theorem tw_1062 : (Cond.methodLink "FormWrightLaw" (127 : Nat) ({ cls := "FormWrightModel", name := "publish", desc := "()I" } : MethodName)) ∈ aw_ztb := aw_zw 1062 (by decide +kernel) rfl
theorem tw_1063 : (Cond.instanceMethod ({ cls := "FormWrightModel", name := "publish", desc := "()I" } : MethodName)) ∈ aw_ztb := aw_zw 1063 (by decide +kernel) rfl
theorem tw_1064 : (Cond.selects "FormWrightModel" ({ cls := "FormWrightModel", name := "publish", desc := "()I" } : MethodName) ({ cls := "FormWrightModel", name := "publish", desc := "()I" } : MethodName)) ∈ aw_ztb := aw_zw 1064 (by decide +kernel) rfl
theorem tw_1065 : (Cond.code ({ cls := "FormWrightModel", name := "publish", desc := "()I" } : MethodName) prog_10_method_37_code (6 : Nat) (Option.some FieldType.int)) ∈ aw_ztb := aw_zw 1065 (by decide +kernel) rfl
theorem tw_1066 : (Cond.methodLink "FormWrightModel" (168 : Nat) ({ cls := "FormWrightModel", name := "doubtFor", desc := "(II)V" } : MethodName)) ∈ aw_ztb := aw_zw 1066 (by decide +kernel) rfl
theorem tw_1068 : (Cond.instanceMethod ({ cls := "FormWrightModel", name := "doubtFor", desc := "(II)V" } : MethodName)) ∈ aw_ztb := aw_zw 1068 (by decide +kernel) rfl
theorem tw_1069 : (Cond.code ({ cls := "FormWrightModel", name := "doubtFor", desc := "(II)V" } : MethodName) prog_10_method_36_code (9 : Nat) (Option.none : Option FieldType)) ∈ aw_ztb := aw_zw 1069 (by decide +kernel) rfl
theorem tw_1070 : (Cond.methodLink "FormWrightModel" (155 : Nat) ({ cls := "FormWrightModel", name := "typeAt", desc := "(II)I" } : MethodName)) ∈ aw_ztb := aw_zw 1070 (by decide +kernel) rfl
theorem tw_1072 : (Cond.instanceMethod ({ cls := "FormWrightModel", name := "typeAt", desc := "(II)I" } : MethodName)) ∈ aw_ztb := aw_zw 1072 (by decide +kernel) rfl
theorem tw_1073 : (Cond.code ({ cls := "FormWrightModel", name := "typeAt", desc := "(II)I" } : MethodName) prog_10_method_35_code (3 : Nat) (Option.some FieldType.int)) ∈ aw_ztb := aw_zw 1073 (by decide +kernel) rfl
theorem tw_1074 : (Cond.methodLink "FormWrightModel" (159 : Nat) ({ cls := "FormWrightModel", name := "areAlike", desc := "(II)Z" } : MethodName)) ∈ aw_ztb := aw_zw 1074 (by decide +kernel) rfl
theorem tw_1076 : (Cond.instanceMethod ({ cls := "FormWrightModel", name := "areAlike", desc := "(II)Z" } : MethodName)) ∈ aw_ztb := aw_zw 1076 (by decide +kernel) rfl
theorem tw_1077 : (Cond.code ({ cls := "FormWrightModel", name := "areAlike", desc := "(II)Z" } : MethodName) prog_10_method_34_code (5 : Nat) (Option.some FieldType.boolean)) ∈ aw_ztb := aw_zw 1077 (by decide +kernel) rfl
theorem tw_1078 : (Cond.methodLink "FormWrightLaw" (131 : Nat) ({ cls := "FormWrightModel", name := "versions", desc := "()I" } : MethodName)) ∈ aw_ztb := aw_zw 1078 (by decide +kernel) rfl
theorem tw_1079 : (Cond.instanceMethod ({ cls := "FormWrightModel", name := "versions", desc := "()I" } : MethodName)) ∈ aw_ztb := aw_zw 1079 (by decide +kernel) rfl
theorem tw_1080 : (Cond.selects "FormWrightModel" ({ cls := "FormWrightModel", name := "versions", desc := "()I" } : MethodName) ({ cls := "FormWrightModel", name := "versions", desc := "()I" } : MethodName)) ∈ aw_ztb := aw_zw 1080 (by decide +kernel) rfl
theorem tw_1081 : (Cond.code ({ cls := "FormWrightModel", name := "versions", desc := "()I" } : MethodName) prog_10_method_39_code (1 : Nat) (Option.some FieldType.int)) ∈ aw_ztb := aw_zw 1081 (by decide +kernel) rfl
theorem tw_1082 : (Cond.methodLink "FormWrightLaw" (134 : Nat) ({ cls := "FormWrightModel", name := "typeIn", desc := "(II)I" } : MethodName)) ∈ aw_ztb := aw_zw 1082 (by decide +kernel) rfl
theorem tw_1083 : (Cond.instanceMethod ({ cls := "FormWrightModel", name := "typeIn", desc := "(II)I" } : MethodName)) ∈ aw_ztb := aw_zw 1083 (by decide +kernel) rfl
theorem tw_1084 : (Cond.selects "FormWrightModel" ({ cls := "FormWrightModel", name := "typeIn", desc := "(II)I" } : MethodName) ({ cls := "FormWrightModel", name := "typeIn", desc := "(II)I" } : MethodName)) ∈ aw_ztb := aw_zw 1084 (by decide +kernel) rfl
theorem tw_1085 : (Cond.code ({ cls := "FormWrightModel", name := "typeIn", desc := "(II)I" } : MethodName) prog_10_method_40_code (3 : Nat) (Option.some FieldType.int)) ∈ aw_ztb := aw_zw 1085 (by decide +kernel) rfl
theorem tw_1086 : (Cond.methodLink "FormWrightModel" (172 : Nat) ({ cls := "FormWrightModel", name := "isVersion", desc := "(I)Z" } : MethodName)) ∈ aw_ztb := aw_zw 1086 (by decide +kernel) rfl
theorem tw_1088 : (Cond.instanceMethod ({ cls := "FormWrightModel", name := "isVersion", desc := "(I)Z" } : MethodName)) ∈ aw_ztb := aw_zw 1088 (by decide +kernel) rfl
theorem tw_1089 : (Cond.code ({ cls := "FormWrightModel", name := "isVersion", desc := "(I)Z" } : MethodName) prog_10_method_38_code (2 : Nat) (Option.some FieldType.boolean)) ∈ aw_ztb := aw_zw 1089 (by decide +kernel) rfl
theorem tw_1090 : (Cond.methodLink "FormWrightLaw" (137 : Nat) ({ cls := "FormWrightModel", name := "order", desc := "(II)I" } : MethodName)) ∈ aw_ztb := aw_zw 1090 (by decide +kernel) rfl
theorem tw_1091 : (Cond.instanceMethod ({ cls := "FormWrightModel", name := "order", desc := "(II)I" } : MethodName)) ∈ aw_ztb := aw_zw 1091 (by decide +kernel) rfl
theorem tw_1092 : (Cond.selects "FormWrightModel" ({ cls := "FormWrightModel", name := "order", desc := "(II)I" } : MethodName) ({ cls := "FormWrightModel", name := "order", desc := "(II)I" } : MethodName)) ∈ aw_ztb := aw_zw 1092 (by decide +kernel) rfl
theorem tw_1093 : (Cond.code ({ cls := "FormWrightModel", name := "order", desc := "(II)I" } : MethodName) prog_10_method_43_code (4 : Nat) (Option.some FieldType.int)) ∈ aw_ztb := aw_zw 1093 (by decide +kernel) rfl
theorem tw_1094 : (Cond.methodLink "FormWrightModel" (178 : Nat) ({ cls := "FormWrightModel", name := "layOrder", desc := "(I)I" } : MethodName)) ∈ aw_ztb := aw_zw 1094 (by decide +kernel) rfl
theorem tw_1096 : (Cond.instanceMethod ({ cls := "FormWrightModel", name := "layOrder", desc := "(I)I" } : MethodName)) ∈ aw_ztb := aw_zw 1096 (by decide +kernel) rfl
theorem tw_1097 : (Cond.code ({ cls := "FormWrightModel", name := "layOrder", desc := "(I)I" } : MethodName) prog_10_method_42_code (10 : Nat) (Option.some FieldType.int)) ∈ aw_ztb := aw_zw 1097 (by decide +kernel) rfl
theorem tw_1098 : (Cond.methodLink "FormWrightModel" (175 : Nat) ({ cls := "FormWrightModel", name := "isComputed", desc := "(II)Z" } : MethodName)) ∈ aw_ztb := aw_zw 1098 (by decide +kernel) rfl
theorem tw_1100 : (Cond.instanceMethod ({ cls := "FormWrightModel", name := "isComputed", desc := "(II)Z" } : MethodName)) ∈ aw_ztb := aw_zw 1100 (by decide +kernel) rfl
theorem tw_1101 : (Cond.code ({ cls := "FormWrightModel", name := "isComputed", desc := "(II)Z" } : MethodName) prog_10_method_41_code (3 : Nat) (Option.some FieldType.boolean)) ∈ aw_ztb := aw_zw 1101 (by decide +kernel) rfl
theorem tw_1102 : (Cond.methodLink "FormWrightLaw" (141 : Nat) ({ cls := "FormWrightModel", name := "plain", desc := "(III)I" } : MethodName)) ∈ aw_ztb := aw_zw 1102 (by decide +kernel) rfl
theorem tw_1103 : (Cond.instanceMethod ({ cls := "FormWrightModel", name := "plain", desc := "(III)I" } : MethodName)) ∈ aw_ztb := aw_zw 1103 (by decide +kernel) rfl
theorem tw_1104 : (Cond.selects "FormWrightModel" ({ cls := "FormWrightModel", name := "plain", desc := "(III)I" } : MethodName) ({ cls := "FormWrightModel", name := "plain", desc := "(III)I" } : MethodName)) ∈ aw_ztb := aw_zw 1104 (by decide +kernel) rfl
theorem tw_1105 : (Cond.code ({ cls := "FormWrightModel", name := "plain", desc := "(III)I" } : MethodName) prog_10_method_48_code (5 : Nat) (Option.some FieldType.int)) ∈ aw_ztb := aw_zw 1105 (by decide +kernel) rfl
theorem tw_1106 : (Cond.methodLink "FormWrightModel" (193 : Nat) ({ cls := "FormWrightModel", name := "layPlain", desc := "(I)V" } : MethodName)) ∈ aw_ztb := aw_zw 1106 (by decide +kernel) rfl
theorem tw_1108 : (Cond.instanceMethod ({ cls := "FormWrightModel", name := "layPlain", desc := "(I)V" } : MethodName)) ∈ aw_ztb := aw_zw 1108 (by decide +kernel) rfl
theorem tw_1109 : (Cond.code ({ cls := "FormWrightModel", name := "layPlain", desc := "(I)V" } : MethodName) prog_10_method_47_code (4 : Nat) (Option.none : Option FieldType)) ∈ aw_ztb := aw_zw 1109 (by decide +kernel) rfl
theorem tw_1110 : (Cond.methodLink "FormWrightModel" (184 : Nat) ({ cls := "FormWrightModel", name := "lays", desc := "(I)V" } : MethodName)) ∈ aw_ztb := aw_zw 1110 (by decide +kernel) rfl
theorem tw_1112 : (Cond.instanceMethod ({ cls := "FormWrightModel", name := "lays", desc := "(I)V" } : MethodName)) ∈ aw_ztb := aw_zw 1112 (by decide +kernel) rfl
theorem tw_1113 : (Cond.code ({ cls := "FormWrightModel", name := "lays", desc := "(I)V" } : MethodName) prog_10_method_44_code (2 : Nat) (Option.none : Option FieldType)) ∈ aw_ztb := aw_zw 1113 (by decide +kernel) rfl
theorem tw_1114 : (Cond.methodLink "FormWrightModel" (187 : Nat) ({ cls := "FormWrightModel", name := "putNumber", desc := "(I)V" } : MethodName)) ∈ aw_ztb := aw_zw 1114 (by decide +kernel) rfl
theorem tw_1116 : (Cond.instanceMethod ({ cls := "FormWrightModel", name := "putNumber", desc := "(I)V" } : MethodName)) ∈ aw_ztb := aw_zw 1116 (by decide +kernel) rfl
theorem tw_1117 : (Cond.code ({ cls := "FormWrightModel", name := "putNumber", desc := "(I)V" } : MethodName) prog_10_method_45_code (2 : Nat) (Option.none : Option FieldType)) ∈ aw_ztb := aw_zw 1117 (by decide +kernel) rfl
theorem tw_1118 : (Cond.methodLink "FormWrightModel" (190 : Nat) ({ cls := "FormWrightModel", name := "beginOf", desc := "(I)I" } : MethodName)) ∈ aw_ztb := aw_zw 1118 (by decide +kernel) rfl
theorem tw_1120 : (Cond.instanceMethod ({ cls := "FormWrightModel", name := "beginOf", desc := "(I)I" } : MethodName)) ∈ aw_ztb := aw_zw 1120 (by decide +kernel) rfl
theorem tw_1121 : (Cond.code ({ cls := "FormWrightModel", name := "beginOf", desc := "(I)I" } : MethodName) prog_10_method_46_code (4 : Nat) (Option.some FieldType.int)) ∈ aw_ztb := aw_zw 1121 (by decide +kernel) rfl
theorem tw_1122 : (Cond.methodLink "FormWrightLaw" (144 : Nat) ({ cls := "FormWrightModel", name := "begin", desc := "()I" } : MethodName)) ∈ aw_ztb := aw_zw 1122 (by decide +kernel) rfl
theorem tw_1123 : (Cond.instanceMethod ({ cls := "FormWrightModel", name := "begin", desc := "()I" } : MethodName)) ∈ aw_ztb := aw_zw 1123 (by decide +kernel) rfl
theorem tw_1124 : (Cond.selects "FormWrightModel" ({ cls := "FormWrightModel", name := "begin", desc := "()I" } : MethodName) ({ cls := "FormWrightModel", name := "begin", desc := "()I" } : MethodName)) ∈ aw_ztb := aw_zw 1124 (by decide +kernel) rfl
theorem tw_1125 : (Cond.code ({ cls := "FormWrightModel", name := "begin", desc := "()I" } : MethodName) prog_10_method_50_code (1 : Nat) (Option.some FieldType.int)) ∈ aw_ztb := aw_zw 1125 (by decide +kernel) rfl
theorem tw_1126 : (Cond.methodLink "FormWrightLaw" (147 : Nat) ({ cls := "FormWrightModel", name := "put", desc := "(III)I" } : MethodName)) ∈ aw_ztb := aw_zw 1126 (by decide +kernel) rfl
theorem tw_1127 : (Cond.instanceMethod ({ cls := "FormWrightModel", name := "put", desc := "(III)I" } : MethodName)) ∈ aw_ztb := aw_zw 1127 (by decide +kernel) rfl
theorem tw_1128 : (Cond.selects "FormWrightModel" ({ cls := "FormWrightModel", name := "put", desc := "(III)I" } : MethodName) ({ cls := "FormWrightModel", name := "put", desc := "(III)I" } : MethodName)) ∈ aw_ztb := aw_zw 1128 (by decide +kernel) rfl
theorem tw_1129 : (Cond.code ({ cls := "FormWrightModel", name := "put", desc := "(III)I" } : MethodName) prog_10_method_55_code (4 : Nat) (Option.some FieldType.int)) ∈ aw_ztb := aw_zw 1129 (by decide +kernel) rfl
theorem tw_1130 : (Cond.methodLink "FormWrightModel" (202 : Nat) ({ cls := "FormWrightModel", name := "areOne", desc := "(II)Z" } : MethodName)) ∈ aw_ztb := aw_zw 1130 (by decide +kernel) rfl
theorem tw_1132 : (Cond.instanceMethod ({ cls := "FormWrightModel", name := "areOne", desc := "(II)Z" } : MethodName)) ∈ aw_ztb := aw_zw 1132 (by decide +kernel) rfl
theorem tw_1133 : (Cond.code ({ cls := "FormWrightModel", name := "areOne", desc := "(II)Z" } : MethodName) prog_10_method_54_code (3 : Nat) (Option.some FieldType.boolean)) ∈ aw_ztb := aw_zw 1133 (by decide +kernel) rfl
theorem tw_1134 : (Cond.methodLink "FormWrightModel" (199 : Nat) ({ cls := "FormWrightModel", name := "isAnswer", desc := "(I)Z" } : MethodName)) ∈ aw_ztb := aw_zw 1134 (by decide +kernel) rfl
theorem tw_1136 : (Cond.instanceMethod ({ cls := "FormWrightModel", name := "isAnswer", desc := "(I)Z" } : MethodName)) ∈ aw_ztb := aw_zw 1136 (by decide +kernel) rfl
theorem tw_1137 : (Cond.code ({ cls := "FormWrightModel", name := "isAnswer", desc := "(I)Z" } : MethodName) prog_10_method_49_code (2 : Nat) (Option.some FieldType.boolean)) ∈ aw_ztb := aw_zw 1137 (by decide +kernel) rfl
theorem tw_1138 : (Cond.methodLink "FormWrightModel" (196 : Nat) ({ cls := "FormWrightModel", name := "canPut", desc := "(II)Z" } : MethodName)) ∈ aw_ztb := aw_zw 1138 (by decide +kernel) rfl
theorem tw_1140 : (Cond.instanceMethod ({ cls := "FormWrightModel", name := "canPut", desc := "(II)Z" } : MethodName)) ∈ aw_ztb := aw_zw 1140 (by decide +kernel) rfl
theorem tw_1141 : (Cond.code ({ cls := "FormWrightModel", name := "canPut", desc := "(II)Z" } : MethodName) prog_10_method_51_code (4 : Nat) (Option.some FieldType.boolean)) ∈ aw_ztb := aw_zw 1141 (by decide +kernel) rfl
theorem tw_1142 : (Cond.methodLink "FormWrightModel" (205 : Nat) ({ cls := "FormWrightModel", name := "isRight", desc := "(III)Z" } : MethodName)) ∈ aw_ztb := aw_zw 1142 (by decide +kernel) rfl
theorem tw_1144 : (Cond.instanceMethod ({ cls := "FormWrightModel", name := "isRight", desc := "(III)Z" } : MethodName)) ∈ aw_ztb := aw_zw 1144 (by decide +kernel) rfl
theorem tw_1145 : (Cond.code ({ cls := "FormWrightModel", name := "isRight", desc := "(III)Z" } : MethodName) prog_10_method_52_code (5 : Nat) (Option.some FieldType.boolean)) ∈ aw_ztb := aw_zw 1145 (by decide +kernel) rfl
theorem tw_1146 : (Cond.methodLink "FormWrightModel" (208 : Nat) ({ cls := "FormWrightModel", name := "lacking", desc := "(I)I" } : MethodName)) ∈ aw_ztb := aw_zw 1146 (by decide +kernel) rfl
theorem tw_1148 : (Cond.instanceMethod ({ cls := "FormWrightModel", name := "lacking", desc := "(I)I" } : MethodName)) ∈ aw_ztb := aw_zw 1148 (by decide +kernel) rfl
theorem tw_1149 : (Cond.code ({ cls := "FormWrightModel", name := "lacking", desc := "(I)I" } : MethodName) prog_10_method_53_code (4 : Nat) (Option.some FieldType.int)) ∈ aw_ztb := aw_zw 1149 (by decide +kernel) rfl
theorem tw_1150 : (Cond.methodLink "FormWrightLaw" (150 : Nat) ({ cls := "FormWrightModel", name := "handIn", desc := "(I)I" } : MethodName)) ∈ aw_ztb := aw_zw 1150 (by decide +kernel) rfl
theorem tw_1151 : (Cond.instanceMethod ({ cls := "FormWrightModel", name := "handIn", desc := "(I)I" } : MethodName)) ∈ aw_ztb := aw_zw 1151 (by decide +kernel) rfl
theorem tw_1152 : (Cond.selects "FormWrightModel" ({ cls := "FormWrightModel", name := "handIn", desc := "(I)I" } : MethodName) ({ cls := "FormWrightModel", name := "handIn", desc := "(I)I" } : MethodName)) ∈ aw_ztb := aw_zw 1152 (by decide +kernel) rfl
theorem tw_1153 : (Cond.code ({ cls := "FormWrightModel", name := "handIn", desc := "(I)I" } : MethodName) prog_10_method_59_code (2 : Nat) (Option.some FieldType.int)) ∈ aw_ztb := aw_zw 1153 (by decide +kernel) rfl
theorem tw_1154 : (Cond.methodLink "FormWrightModel" (220 : Nat) ({ cls := "FormWrightModel", name := "judge", desc := "(I)I" } : MethodName)) ∈ aw_ztb := aw_zw 1154 (by decide +kernel) rfl
theorem tw_1156 : (Cond.instanceMethod ({ cls := "FormWrightModel", name := "judge", desc := "(I)I" } : MethodName)) ∈ aw_ztb := aw_zw 1156 (by decide +kernel) rfl
theorem tw_1157 : (Cond.code ({ cls := "FormWrightModel", name := "judge", desc := "(I)I" } : MethodName) prog_10_method_58_code (2 : Nat) (Option.some FieldType.int)) ∈ aw_ztb := aw_zw 1157 (by decide +kernel) rfl
theorem tw_1158 : (Cond.methodLink "FormWrightModel" (214 : Nat) ({ cls := "FormWrightModel", name := "compute", desc := "(I)V" } : MethodName)) ∈ aw_ztb := aw_zw 1158 (by decide +kernel) rfl
theorem tw_1160 : (Cond.instanceMethod ({ cls := "FormWrightModel", name := "compute", desc := "(I)V" } : MethodName)) ∈ aw_ztb := aw_zw 1160 (by decide +kernel) rfl
theorem tw_1161 : (Cond.code ({ cls := "FormWrightModel", name := "compute", desc := "(I)V" } : MethodName) prog_10_method_56_code (4 : Nat) (Option.none : Option FieldType)) ∈ aw_ztb := aw_zw 1161 (by decide +kernel) rfl
theorem tw_1162 : (Cond.methodLink "FormWrightModel" (211 : Nat) ({ cls := "FormWrightModel", name := "valueOf", desc := "(II)I" } : MethodName)) ∈ aw_ztb := aw_zw 1162 (by decide +kernel) rfl
theorem tw_1164 : (Cond.instanceMethod ({ cls := "FormWrightModel", name := "valueOf", desc := "(II)I" } : MethodName)) ∈ aw_ztb := aw_zw 1164 (by decide +kernel) rfl
theorem tw_1165 : (Cond.code ({ cls := "FormWrightModel", name := "valueOf", desc := "(II)I" } : MethodName) prog_10_method_23_code (7 : Nat) (Option.some FieldType.int)) ∈ aw_ztb := aw_zw 1165 (by decide +kernel) rfl
theorem tw_1166 : (Cond.methodLink "FormWrightModel" (123 : Nat) ({ cls := "FormWrightModel", name := "valueFor", desc := "(III)I" } : MethodName)) ∈ aw_ztb := aw_zw 1166 (by decide +kernel) rfl
theorem tw_1167 : (Cond.static ({ cls := "FormWrightModel", name := "valueFor", desc := "(III)I" } : MethodName)) ∈ aw_ztb := aw_zw 1167 (by decide +kernel) rfl
theorem tw_1168 : (Cond.code ({ cls := "FormWrightModel", name := "valueFor", desc := "(III)I" } : MethodName) prog_10_method_22_code (4 : Nat) (Option.some FieldType.int)) ∈ aw_ztb := aw_zw 1168 (by decide +kernel) rfl
theorem tw_1169 : (Cond.methodLink "FormWrightModel" (217 : Nat) ({ cls := "FormWrightModel", name := "refusing", desc := "(I)I" } : MethodName)) ∈ aw_ztb := aw_zw 1169 (by decide +kernel) rfl
theorem tw_1171 : (Cond.instanceMethod ({ cls := "FormWrightModel", name := "refusing", desc := "(I)I" } : MethodName)) ∈ aw_ztb := aw_zw 1171 (by decide +kernel) rfl
theorem tw_1172 : (Cond.code ({ cls := "FormWrightModel", name := "refusing", desc := "(I)I" } : MethodName) prog_10_method_57_code (3 : Nat) (Option.some FieldType.int)) ∈ aw_ztb := aw_zw 1172 (by decide +kernel) rfl
theorem tw_1173 : (Cond.methodLink "FormWrightLaw" (154 : Nat) ({ cls := "FormWrightModel", name := "answers", desc := "()I" } : MethodName)) ∈ aw_ztb := aw_zw 1173 (by decide +kernel) rfl
theorem tw_1174 : (Cond.instanceMethod ({ cls := "FormWrightModel", name := "answers", desc := "()I" } : MethodName)) ∈ aw_ztb := aw_zw 1174 (by decide +kernel) rfl
theorem tw_1175 : (Cond.selects "FormWrightModel" ({ cls := "FormWrightModel", name := "answers", desc := "()I" } : MethodName) ({ cls := "FormWrightModel", name := "answers", desc := "()I" } : MethodName)) ∈ aw_ztb := aw_zw 1175 (by decide +kernel) rfl
theorem tw_1176 : (Cond.code ({ cls := "FormWrightModel", name := "answers", desc := "()I" } : MethodName) prog_10_method_60_code (1 : Nat) (Option.some FieldType.int)) ∈ aw_ztb := aw_zw 1176 (by decide +kernel) rfl
theorem tw_1177 : (Cond.methodLink "FormWrightLaw" (157 : Nat) ({ cls := "FormWrightModel", name := "stateOf", desc := "(I)I" } : MethodName)) ∈ aw_ztb := aw_zw 1177 (by decide +kernel) rfl
theorem tw_1178 : (Cond.instanceMethod ({ cls := "FormWrightModel", name := "stateOf", desc := "(I)I" } : MethodName)) ∈ aw_ztb := aw_zw 1178 (by decide +kernel) rfl
theorem tw_1179 : (Cond.selects "FormWrightModel" ({ cls := "FormWrightModel", name := "stateOf", desc := "(I)I" } : MethodName) ({ cls := "FormWrightModel", name := "stateOf", desc := "(I)I" } : MethodName)) ∈ aw_ztb := aw_zw 1179 (by decide +kernel) rfl
theorem tw_1180 : (Cond.code ({ cls := "FormWrightModel", name := "stateOf", desc := "(I)I" } : MethodName) prog_10_method_62_code (2 : Nat) (Option.some FieldType.int)) ∈ aw_ztb := aw_zw 1180 (by decide +kernel) rfl
theorem tw_1181 : (Cond.methodLink "FormWrightModel" (223 : Nat) ({ cls := "FormWrightModel", name := "asksFor", desc := "(I)Z" } : MethodName)) ∈ aw_ztb := aw_zw 1181 (by decide +kernel) rfl
theorem tw_1183 : (Cond.instanceMethod ({ cls := "FormWrightModel", name := "asksFor", desc := "(I)Z" } : MethodName)) ∈ aw_ztb := aw_zw 1183 (by decide +kernel) rfl
theorem tw_1184 : (Cond.code ({ cls := "FormWrightModel", name := "asksFor", desc := "(I)Z" } : MethodName) prog_10_method_61_code (2 : Nat) (Option.some FieldType.boolean)) ∈ aw_ztb := aw_zw 1184 (by decide +kernel) rfl
theorem tw_1185 : (Cond.methodLink "FormWrightLaw" (160 : Nat) ({ cls := "FormWrightModel", name := "versionOf", desc := "(I)I" } : MethodName)) ∈ aw_ztb := aw_zw 1185 (by decide +kernel) rfl
theorem tw_1186 : (Cond.instanceMethod ({ cls := "FormWrightModel", name := "versionOf", desc := "(I)I" } : MethodName)) ∈ aw_ztb := aw_zw 1186 (by decide +kernel) rfl
theorem tw_1187 : (Cond.selects "FormWrightModel" ({ cls := "FormWrightModel", name := "versionOf", desc := "(I)I" } : MethodName) ({ cls := "FormWrightModel", name := "versionOf", desc := "(I)I" } : MethodName)) ∈ aw_ztb := aw_zw 1187 (by decide +kernel) rfl
theorem tw_1188 : (Cond.code ({ cls := "FormWrightModel", name := "versionOf", desc := "(I)I" } : MethodName) prog_10_method_63_code (2 : Nat) (Option.some FieldType.int)) ∈ aw_ztb := aw_zw 1188 (by decide +kernel) rfl
theorem tw_1189 : (Cond.methodLink "FormWrightLaw" (163 : Nat) ({ cls := "FormWrightModel", name := "value", desc := "(II)I" } : MethodName)) ∈ aw_ztb := aw_zw 1189 (by decide +kernel) rfl
theorem tw_1190 : (Cond.instanceMethod ({ cls := "FormWrightModel", name := "value", desc := "(II)I" } : MethodName)) ∈ aw_ztb := aw_zw 1190 (by decide +kernel) rfl
theorem tw_1191 : (Cond.selects "FormWrightModel" ({ cls := "FormWrightModel", name := "value", desc := "(II)I" } : MethodName) ({ cls := "FormWrightModel", name := "value", desc := "(II)I" } : MethodName)) ∈ aw_ztb := aw_zw 1191 (by decide +kernel) rfl
theorem tw_1192 : (Cond.code ({ cls := "FormWrightModel", name := "value", desc := "(II)I" } : MethodName) prog_10_method_64_code (3 : Nat) (Option.some FieldType.int)) ∈ aw_ztb := aw_zw 1192 (by decide +kernel) rfl
theorem tw_1193 : (Cond.methodLink "FormWrightLaw" (166 : Nat) ({ cls := "FormWrightModel", name := "refusal", desc := "(I)I" } : MethodName)) ∈ aw_ztb := aw_zw 1193 (by decide +kernel) rfl
theorem tw_1194 : (Cond.instanceMethod ({ cls := "FormWrightModel", name := "refusal", desc := "(I)I" } : MethodName)) ∈ aw_ztb := aw_zw 1194 (by decide +kernel) rfl
theorem tw_1195 : (Cond.selects "FormWrightModel" ({ cls := "FormWrightModel", name := "refusal", desc := "(I)I" } : MethodName) ({ cls := "FormWrightModel", name := "refusal", desc := "(I)I" } : MethodName)) ∈ aw_ztb := aw_zw 1195 (by decide +kernel) rfl
theorem tw_1196 : (Cond.code ({ cls := "FormWrightModel", name := "refusal", desc := "(I)I" } : MethodName) prog_10_method_65_code (2 : Nat) (Option.some FieldType.int)) ∈ aw_ztb := aw_zw 1196 (by decide +kernel) rfl
theorem tw_1197 : (Cond.methodLink "FormWrightLaw" (170 : Nat) ({ cls := "FormWrightModel", name := "counted", desc := "()I" } : MethodName)) ∈ aw_ztb := aw_zw 1197 (by decide +kernel) rfl
theorem tw_1198 : (Cond.instanceMethod ({ cls := "FormWrightModel", name := "counted", desc := "()I" } : MethodName)) ∈ aw_ztb := aw_zw 1198 (by decide +kernel) rfl
theorem tw_1199 : (Cond.selects "FormWrightModel" ({ cls := "FormWrightModel", name := "counted", desc := "()I" } : MethodName) ({ cls := "FormWrightModel", name := "counted", desc := "()I" } : MethodName)) ∈ aw_ztb := aw_zw 1199 (by decide +kernel) rfl
theorem tw_1200 : (Cond.code ({ cls := "FormWrightModel", name := "counted", desc := "()I" } : MethodName) prog_10_method_66_code (3 : Nat) (Option.some FieldType.int)) ∈ aw_ztb := aw_zw 1200 (by decide +kernel) rfl
theorem tw_1201 : (Cond.methodLink "FormWrightLaw" (173 : Nat) ({ cls := "FormWrightModel", name := "doubt", desc := "(II)Z" } : MethodName)) ∈ aw_ztb := aw_zw 1201 (by decide +kernel) rfl
theorem tw_1202 : (Cond.instanceMethod ({ cls := "FormWrightModel", name := "doubt", desc := "(II)Z" } : MethodName)) ∈ aw_ztb := aw_zw 1202 (by decide +kernel) rfl
theorem tw_1203 : (Cond.selects "FormWrightModel" ({ cls := "FormWrightModel", name := "doubt", desc := "(II)Z" } : MethodName) ({ cls := "FormWrightModel", name := "doubt", desc := "(II)Z" } : MethodName)) ∈ aw_ztb := aw_zw 1203 (by decide +kernel) rfl
theorem tw_1204 : (Cond.code ({ cls := "FormWrightModel", name := "doubt", desc := "(II)Z" } : MethodName) prog_10_method_67_code (4 : Nat) (Option.some FieldType.boolean)) ∈ aw_ztb := aw_zw 1204 (by decide +kernel) rfl
theorem tw_1205 : (Cond.methodLink "FormWrightLaw" (177 : Nat) ({ cls := "FormWrightModel", name := "settle", desc := "(IIZ)I" } : MethodName)) ∈ aw_ztb := aw_zw 1205 (by decide +kernel) rfl
theorem tw_1206 : (Cond.instanceMethod ({ cls := "FormWrightModel", name := "settle", desc := "(IIZ)I" } : MethodName)) ∈ aw_ztb := aw_zw 1206 (by decide +kernel) rfl
theorem tw_1207 : (Cond.selects "FormWrightModel" ({ cls := "FormWrightModel", name := "settle", desc := "(IIZ)I" } : MethodName) ({ cls := "FormWrightModel", name := "settle", desc := "(IIZ)I" } : MethodName)) ∈ aw_ztb := aw_zw 1207 (by decide +kernel) rfl
theorem tw_1208 : (Cond.code ({ cls := "FormWrightModel", name := "settle", desc := "(IIZ)I" } : MethodName) prog_10_method_68_code (4 : Nat) (Option.some FieldType.int)) ∈ aw_ztb := aw_zw 1208 (by decide +kernel) rfl
theorem tw_1209 : (Cond.methodLink "FormWrightLaw" (180 : Nat) ({ cls := "FormWrightModel", name := "amend", desc := "(III)I" } : MethodName)) ∈ aw_ztb := aw_zw 1209 (by decide +kernel) rfl
theorem tw_1210 : (Cond.instanceMethod ({ cls := "FormWrightModel", name := "amend", desc := "(III)I" } : MethodName)) ∈ aw_ztb := aw_zw 1210 (by decide +kernel) rfl
theorem tw_1211 : (Cond.selects "FormWrightModel" ({ cls := "FormWrightModel", name := "amend", desc := "(III)I" } : MethodName) ({ cls := "FormWrightModel", name := "amend", desc := "(III)I" } : MethodName)) ∈ aw_ztb := aw_zw 1211 (by decide +kernel) rfl
theorem tw_1212 : (Cond.code ({ cls := "FormWrightModel", name := "amend", desc := "(III)I" } : MethodName) prog_10_method_69_code (4 : Nat) (Option.some FieldType.int)) ∈ aw_ztb := aw_zw 1212 (by decide +kernel) rfl
theorem tw_1213 : (Cond.methodLink "FormWrightLaw" (183 : Nat) ({ cls := "FormWrightModel", name := "doubts", desc := "(I)I" } : MethodName)) ∈ aw_ztb := aw_zw 1213 (by decide +kernel) rfl
theorem tw_1214 : (Cond.instanceMethod ({ cls := "FormWrightModel", name := "doubts", desc := "(I)I" } : MethodName)) ∈ aw_ztb := aw_zw 1214 (by decide +kernel) rfl
theorem tw_1215 : (Cond.selects "FormWrightModel" ({ cls := "FormWrightModel", name := "doubts", desc := "(I)I" } : MethodName) ({ cls := "FormWrightModel", name := "doubts", desc := "(I)I" } : MethodName)) ∈ aw_ztb := aw_zw 1215 (by decide +kernel) rfl
theorem tw_1216 : (Cond.code ({ cls := "FormWrightModel", name := "doubts", desc := "(I)I" } : MethodName) prog_10_method_70_code (2 : Nat) (Option.some FieldType.int)) ∈ aw_ztb := aw_zw 1216 (by decide +kernel) rfl
theorem tw_1217 : (Cond.arrayClass FieldType.long) ∈ aw_ztb := aw_zw 1217 (by decide +kernel) rfl
theorem tw_1218 : (Cond.sameMethod "java/lang/Throwable" "java/lang/Throwable" "fillInStackTrace" "(I)Ljava/lang/Throwable;") ∈ aw_ztb := aw_zw 1218 (by decide +kernel) rfl
