def xW : List Cond := lw_tbl.filter goodWord
theorem wZ_L : Cond.initialized "TermSpreadLaw" ∈ xW := List.mem_filter.mpr ⟨List.mem_append_right _ (List.mem_of_getElem? (i := 0) rfl), rfl⟩
theorem wZ_X1 : Cond.initialized "TermSpread" ∈ xW := List.mem_filter.mpr ⟨List.mem_append_right _ (List.mem_of_getElem? (i := 1) rfl), rfl⟩
theorem wZ_X2 : Cond.initialized "TermSpreadModel" ∈ xW := List.mem_filter.mpr ⟨List.mem_append_right _ (List.mem_of_getElem? (i := 2) rfl), rfl⟩
theorem wZ_X0 : Cond.initialized "TermSpread$Term" ∈ xW := List.mem_filter.mpr ⟨List.mem_append_right _ (List.mem_of_getElem? (i := 3) rfl), rfl⟩
theorem wZ_J : Cond.initialized "java/lang/Math" ∈ xW := List.mem_filter.mpr ⟨List.mem_append_right _ (List.mem_of_getElem? (i := 4) rfl), rfl⟩
theorem wKL_7 : Cond.classLink "TermSpreadLaw" 7 "TermSpread" ∈ xW := List.mem_filter.mpr ⟨List.mem_append_right _ (List.mem_of_getElem? (i := 5) rfl), rfl⟩
theorem wN_X1 : Cond.instantiable "TermSpread" 5 ∈ xW := List.mem_filter.mpr ⟨List.mem_append_right _ (List.mem_of_getElem? (i := 6) rfl), rfl⟩
theorem wML_9 : Cond.methodLink "TermSpreadLaw" 9 yX1_init ∈ xW := List.mem_filter.mpr ⟨List.mem_append_right _ (List.mem_of_getElem? (i := 7) rfl), rfl⟩
theorem wI_yX1_init : Cond.instanceMethod yX1_init ∈ xW := List.mem_filter.mpr ⟨List.mem_append_right _ (List.mem_of_getElem? (i := 8) rfl), rfl⟩
theorem wC_yX1_init : Cond.code yX1_init cX1_init 1 none ∈ xW := List.mem_filter.mpr ⟨List.mem_append_right _ (List.mem_of_getElem? (i := 9) rfl), rfl⟩
theorem wMX1_1 : Cond.methodLink "TermSpread" 1 ⟨"java/lang/Object", "<init>", "()V"⟩ ∈ xW := List.mem_filter.mpr ⟨List.mem_append_right _ (List.mem_of_getElem? (i := 10) rfl), rfl⟩
theorem wI_yO : Cond.instanceMethod ⟨"java/lang/Object", "<init>", "()V"⟩ ∈ xW := List.mem_filter.mpr ⟨List.mem_append_right _ (List.mem_of_getElem? (i := 11) rfl), rfl⟩
theorem wC_yO : Cond.code ⟨"java/lang/Object", "<init>", "()V"⟩ object_method_1_code 1 none ∈ xW := List.mem_filter.mpr ⟨List.mem_append_right _ (List.mem_of_getElem? (i := 12) rfl), rfl⟩
theorem wKX1_9 : Cond.classLink "TermSpread" 9 "TermSpread$Term" ∈ xW := List.mem_filter.mpr ⟨List.mem_append_right _ (List.mem_of_getElem? (i := 13) rfl), rfl⟩
theorem wFX1_11 : Cond.fieldLink "TermSpread" 11 "TermSpread" "registers" "[LTermSpread$Term;" ∈ xW := List.mem_filter.mpr ⟨List.mem_append_right _ (List.mem_of_getElem? (i := 15) rfl), rfl⟩
theorem wFX1_15 : Cond.fieldLink "TermSpread" 15 "TermSpread" "made" "[LTermSpread$Term;" ∈ xW := List.mem_filter.mpr ⟨List.mem_append_right _ (List.mem_of_getElem? (i := 16) rfl), rfl⟩
theorem wFX1_18 : Cond.fieldLink "TermSpread" 18 "TermSpread" "madeCount" "I" ∈ xW := List.mem_filter.mpr ⟨List.mem_append_right _ (List.mem_of_getElem? (i := 17) rfl), rfl⟩
theorem wFX1_22 : Cond.fieldLink "TermSpread" 22 "TermSpread" "derivedCount" "I" ∈ xW := List.mem_filter.mpr ⟨List.mem_append_right _ (List.mem_of_getElem? (i := 18) rfl), rfl⟩
theorem wFX1_25 : Cond.fieldLink "TermSpread" 25 "TermSpread" "zeros" "[I" ∈ xW := List.mem_filter.mpr ⟨List.mem_append_right _ (List.mem_of_getElem? (i := 19) rfl), rfl⟩
theorem wA_int : Cond.arrayClass .int ∈ xW := List.mem_filter.mpr ⟨List.mem_append_right _ (List.mem_of_getElem? (i := 31) rfl), rfl⟩
theorem wML_13 : Cond.methodLink "TermSpreadLaw" 13 yX1_secret ∈ xW := List.mem_filter.mpr ⟨List.mem_append_right _ (List.mem_of_getElem? (i := 32) rfl), rfl⟩
theorem wI_yX1_secret : Cond.instanceMethod yX1_secret ∈ xW := List.mem_filter.mpr ⟨List.mem_append_right _ (List.mem_of_getElem? (i := 33) rfl), rfl⟩
theorem wT_yX1_secret : Cond.selects yX1_secret.cls yX1_secret yX1_secret ∈ xW := List.mem_filter.mpr ⟨List.mem_append_right _ (List.mem_of_getElem? (i := 34) rfl), rfl⟩
theorem wC_yX1_secret : Cond.code yX1_secret cX1_secret 2 (some FieldType.int) ∈ xW := List.mem_filter.mpr ⟨List.mem_append_right _ (List.mem_of_getElem? (i := 35) rfl), rfl⟩
theorem wMX1_29 : Cond.methodLink "TermSpread" 29 yX1_plainTerm ∈ xW := List.mem_filter.mpr ⟨List.mem_append_right _ (List.mem_of_getElem? (i := 36) rfl), rfl⟩
theorem wI_yX1_plainTerm : Cond.instanceMethod yX1_plainTerm ∈ xW := List.mem_filter.mpr ⟨List.mem_append_right _ (List.mem_of_getElem? (i := 38) rfl), rfl⟩
theorem wC_yX1_plainTerm : Cond.code yX1_plainTerm cX1_plainTerm 7 (some (FieldType.object "TermSpread$Term")) ∈ xW := List.mem_filter.mpr ⟨List.mem_append_right _ (List.mem_of_getElem? (i := 39) rfl), rfl⟩
theorem wN_X0 : Cond.instantiable "TermSpread$Term" 7 ∈ xW := List.mem_filter.mpr ⟨List.mem_append_right _ (List.mem_of_getElem? (i := 40) rfl), rfl⟩
theorem wMX1_112 : Cond.methodLink "TermSpread" 112 yX0_init ∈ xW := List.mem_filter.mpr ⟨List.mem_append_right _ (List.mem_of_getElem? (i := 41) rfl), rfl⟩
theorem wI_yX0_init : Cond.instanceMethod yX0_init ∈ xW := List.mem_filter.mpr ⟨List.mem_append_right _ (List.mem_of_getElem? (i := 42) rfl), rfl⟩
theorem wC_yX0_init : Cond.code yX0_init cX0_init 5 none ∈ xW := List.mem_filter.mpr ⟨List.mem_append_right _ (List.mem_of_getElem? (i := 43) rfl), rfl⟩
theorem wMX0_3 : Cond.methodLink "TermSpread$Term" 3 ⟨"java/lang/Object", "<init>", "()V"⟩ ∈ xW := List.mem_filter.mpr ⟨List.mem_append_right _ (List.mem_of_getElem? (i := 44) rfl), rfl⟩
theorem wFX0_9 : Cond.fieldLink "TermSpread$Term" 9 "TermSpread$Term" "sort" "I" ∈ xW := List.mem_filter.mpr ⟨List.mem_append_right _ (List.mem_of_getElem? (i := 45) rfl), rfl⟩
theorem wFX1_78 : Cond.fieldLink "TermSpread" 78 "TermSpread$Term" "sort" "I" ∈ xW := List.mem_filter.mpr ⟨List.mem_append_right _ (List.mem_of_getElem? (i := 46) rfl), rfl⟩
theorem wFX0_15 : Cond.fieldLink "TermSpread$Term" 15 "TermSpread$Term" "label" "I" ∈ xW := List.mem_filter.mpr ⟨List.mem_append_right _ (List.mem_of_getElem? (i := 47) rfl), rfl⟩
theorem wFX1_102 : Cond.fieldLink "TermSpread" 102 "TermSpread$Term" "label" "I" ∈ xW := List.mem_filter.mpr ⟨List.mem_append_right _ (List.mem_of_getElem? (i := 48) rfl), rfl⟩
theorem wFX0_18 : Cond.fieldLink "TermSpread$Term" 18 "TermSpread$Term" "numbers" "[I" ∈ xW := List.mem_filter.mpr ⟨List.mem_append_right _ (List.mem_of_getElem? (i := 49) rfl), rfl⟩
theorem wFX0_22 : Cond.fieldLink "TermSpread$Term" 22 "TermSpread$Term" "parts" "[LTermSpread$Term;" ∈ xW := List.mem_filter.mpr ⟨List.mem_append_right _ (List.mem_of_getElem? (i := 50) rfl), rfl⟩
theorem wFX0_26 : Cond.fieldLink "TermSpread$Term" 26 "TermSpread$Term" "place" "I" ∈ xW := List.mem_filter.mpr ⟨List.mem_append_right _ (List.mem_of_getElem? (i := 51) rfl), rfl⟩
theorem wFX1_115 : Cond.fieldLink "TermSpread" 115 "TermSpread$Term" "place" "I" ∈ xW := List.mem_filter.mpr ⟨List.mem_append_right _ (List.mem_of_getElem? (i := 52) rfl), rfl⟩
theorem wFX0_29 : Cond.fieldLink "TermSpread$Term" 29 "TermSpread$Term" "isDerived" "Z" ∈ xW := List.mem_filter.mpr ⟨List.mem_append_right _ (List.mem_of_getElem? (i := 53) rfl), rfl⟩
theorem wFX1_84 : Cond.fieldLink "TermSpread" 84 "TermSpread$Term" "isDerived" "Z" ∈ xW := List.mem_filter.mpr ⟨List.mem_append_right _ (List.mem_of_getElem? (i := 54) rfl), rfl⟩
theorem wFX0_33 : Cond.fieldLink "TermSpread$Term" 33 "TermSpread$Term" "isFaceDerived" "Z" ∈ xW := List.mem_filter.mpr ⟨List.mem_append_right _ (List.mem_of_getElem? (i := 55) rfl), rfl⟩
theorem wFX1_132 : Cond.fieldLink "TermSpread" 132 "TermSpread$Term" "isFaceDerived" "Z" ∈ xW := List.mem_filter.mpr ⟨List.mem_append_right _ (List.mem_of_getElem? (i := 56) rfl), rfl⟩
theorem wMX1_33 : Cond.methodLink "TermSpread" 33 yX1_makeInto ∈ xW := List.mem_filter.mpr ⟨List.mem_append_right _ (List.mem_of_getElem? (i := 72) rfl), rfl⟩
theorem wI_yX1_makeInto : Cond.instanceMethod yX1_makeInto ∈ xW := List.mem_filter.mpr ⟨List.mem_append_right _ (List.mem_of_getElem? (i := 74) rfl), rfl⟩
theorem wC_yX1_makeInto : Cond.code yX1_makeInto cX1_makeInto 4 (some FieldType.int) ∈ xW := List.mem_filter.mpr ⟨List.mem_append_right _ (List.mem_of_getElem? (i := 75) rfl), rfl⟩
theorem wMX1_109 : Cond.methodLink "TermSpread" 109 yX1_isRegister ∈ xW := List.mem_filter.mpr ⟨List.mem_append_right _ (List.mem_of_getElem? (i := 76) rfl), rfl⟩
theorem wS_yX1_isRegister : Cond.static yX1_isRegister ∈ xW := List.mem_filter.mpr ⟨List.mem_append_right _ (List.mem_of_getElem? (i := 77) rfl), rfl⟩
theorem wC_yX1_isRegister : Cond.code yX1_isRegister cX1_isRegister 1 (some FieldType.boolean) ∈ xW := List.mem_filter.mpr ⟨List.mem_append_right _ (List.mem_of_getElem? (i := 78) rfl), rfl⟩
theorem wMX1_118 : Cond.methodLink "TermSpread" 118 yX1_findLike ∈ xW := List.mem_filter.mpr ⟨List.mem_append_right _ (List.mem_of_getElem? (i := 79) rfl), rfl⟩
theorem wI_yX1_findLike : Cond.instanceMethod yX1_findLike ∈ xW := List.mem_filter.mpr ⟨List.mem_append_right _ (List.mem_of_getElem? (i := 81) rfl), rfl⟩
theorem wC_yX1_findLike : Cond.code yX1_findLike cX1_findLike 4 (some (FieldType.object "TermSpread$Term")) ∈ xW := List.mem_filter.mpr ⟨List.mem_append_right _ (List.mem_of_getElem? (i := 82) rfl), rfl⟩
theorem wMX1_125 : Cond.methodLink "TermSpread" 125 yX0_isMadeLike ∈ xW := List.mem_filter.mpr ⟨List.mem_append_right _ (List.mem_of_getElem? (i := 83) rfl), rfl⟩
theorem wI_yX0_isMadeLike : Cond.instanceMethod yX0_isMadeLike ∈ xW := List.mem_filter.mpr ⟨List.mem_append_right _ (List.mem_of_getElem? (i := 84) rfl), rfl⟩
theorem wT_yX0_isMadeLike : Cond.selects yX0_isMadeLike.cls yX0_isMadeLike yX0_isMadeLike ∈ xW := List.mem_filter.mpr ⟨List.mem_append_right _ (List.mem_of_getElem? (i := 85) rfl), rfl⟩
theorem wC_yX0_isMadeLike : Cond.code yX0_isMadeLike cX0_isMadeLike 3 (some FieldType.boolean) ∈ xW := List.mem_filter.mpr ⟨List.mem_append_right _ (List.mem_of_getElem? (i := 86) rfl), rfl⟩
theorem wMX0_43 : Cond.methodLink "TermSpread$Term" 43 yX0_partAt ∈ xW := List.mem_filter.mpr ⟨List.mem_append_right _ (List.mem_of_getElem? (i := 87) rfl), rfl⟩
theorem wI_yX0_partAt : Cond.instanceMethod yX0_partAt ∈ xW := List.mem_filter.mpr ⟨List.mem_append_right _ (List.mem_of_getElem? (i := 88) rfl), rfl⟩
theorem wT_yX0_partAt : Cond.selects yX0_partAt.cls yX0_partAt yX0_partAt ∈ xW := List.mem_filter.mpr ⟨List.mem_append_right _ (List.mem_of_getElem? (i := 89) rfl), rfl⟩
theorem wC_yX0_partAt : Cond.code yX0_partAt cX0_partAt 2 (some (FieldType.object "TermSpread$Term")) ∈ xW := List.mem_filter.mpr ⟨List.mem_append_right _ (List.mem_of_getElem? (i := 90) rfl), rfl⟩
theorem wMX0_39 : Cond.methodLink "TermSpread$Term" 39 yX0_numberAt ∈ xW := List.mem_filter.mpr ⟨List.mem_append_right _ (List.mem_of_getElem? (i := 91) rfl), rfl⟩
theorem wI_yX0_numberAt : Cond.instanceMethod yX0_numberAt ∈ xW := List.mem_filter.mpr ⟨List.mem_append_right _ (List.mem_of_getElem? (i := 92) rfl), rfl⟩
theorem wT_yX0_numberAt : Cond.selects yX0_numberAt.cls yX0_numberAt yX0_numberAt ∈ xW := List.mem_filter.mpr ⟨List.mem_append_right _ (List.mem_of_getElem? (i := 93) rfl), rfl⟩
theorem wC_yX0_numberAt : Cond.code yX0_numberAt cX0_numberAt 2 (some FieldType.int) ∈ xW := List.mem_filter.mpr ⟨List.mem_append_right _ (List.mem_of_getElem? (i := 94) rfl), rfl⟩
theorem wMX1_122 : Cond.methodLink "TermSpread" 122 yX1_keep ∈ xW := List.mem_filter.mpr ⟨List.mem_append_right _ (List.mem_of_getElem? (i := 95) rfl), rfl⟩
theorem wI_yX1_keep : Cond.instanceMethod yX1_keep ∈ xW := List.mem_filter.mpr ⟨List.mem_append_right _ (List.mem_of_getElem? (i := 97) rfl), rfl⟩
theorem wC_yX1_keep : Cond.code yX1_keep cX1_keep 2 (some (FieldType.object "TermSpread$Term")) ∈ xW := List.mem_filter.mpr ⟨List.mem_append_right _ (List.mem_of_getElem? (i := 98) rfl), rfl⟩
theorem wMX1_128 : Cond.methodLink "TermSpread" 128 yX0_canBeMadeByAttacker ∈ xW := List.mem_filter.mpr ⟨List.mem_append_right _ (List.mem_of_getElem? (i := 99) rfl), rfl⟩
theorem wI_yX0_canBeMadeByAttacker : Cond.instanceMethod yX0_canBeMadeByAttacker ∈ xW := List.mem_filter.mpr ⟨List.mem_append_right _ (List.mem_of_getElem? (i := 100) rfl), rfl⟩
theorem wT_yX0_canBeMadeByAttacker : Cond.selects yX0_canBeMadeByAttacker.cls yX0_canBeMadeByAttacker yX0_canBeMadeByAttacker ∈ xW := List.mem_filter.mpr ⟨List.mem_append_right _ (List.mem_of_getElem? (i := 101) rfl), rfl⟩
theorem wC_yX0_canBeMadeByAttacker : Cond.code yX0_canBeMadeByAttacker cX0_canBeMadeByAttacker 2 (some FieldType.boolean) ∈ xW := List.mem_filter.mpr ⟨List.mem_append_right _ (List.mem_of_getElem? (i := 102) rfl), rfl⟩
theorem wMX0_47 : Cond.methodLink "TermSpread$Term" 47 yX0_canAgree ∈ xW := List.mem_filter.mpr ⟨List.mem_append_right _ (List.mem_of_getElem? (i := 103) rfl), rfl⟩
theorem wS_yX0_canAgree : Cond.static yX0_canAgree ∈ xW := List.mem_filter.mpr ⟨List.mem_append_right _ (List.mem_of_getElem? (i := 104) rfl), rfl⟩
theorem wC_yX0_canAgree : Cond.code yX0_canAgree cX0_canAgree 2 (some FieldType.boolean) ∈ xW := List.mem_filter.mpr ⟨List.mem_append_right _ (List.mem_of_getElem? (i := 105) rfl), rfl⟩
theorem wMX0_51 : Cond.methodLink "TermSpread$Term" 51 yX0_isPartIn ∈ xW := List.mem_filter.mpr ⟨List.mem_append_right _ (List.mem_of_getElem? (i := 106) rfl), rfl⟩
theorem wI_yX0_isPartIn : Cond.instanceMethod yX0_isPartIn ∈ xW := List.mem_filter.mpr ⟨List.mem_append_right _ (List.mem_of_getElem? (i := 107) rfl), rfl⟩
theorem wT_yX0_isPartIn : Cond.selects yX0_isPartIn.cls yX0_isPartIn yX0_isPartIn ∈ xW := List.mem_filter.mpr ⟨List.mem_append_right _ (List.mem_of_getElem? (i := 108) rfl), rfl⟩
theorem wC_yX0_isPartIn : Cond.code yX0_isPartIn cX0_isPartIn 3 (some FieldType.boolean) ∈ xW := List.mem_filter.mpr ⟨List.mem_append_right _ (List.mem_of_getElem? (i := 109) rfl), rfl⟩
theorem wMX1_88 : Cond.methodLink "TermSpread" 88 yX1_derive ∈ xW := List.mem_filter.mpr ⟨List.mem_append_right _ (List.mem_of_getElem? (i := 110) rfl), rfl⟩
theorem wI_yX1_derive : Cond.instanceMethod yX1_derive ∈ xW := List.mem_filter.mpr ⟨List.mem_append_right _ (List.mem_of_getElem? (i := 112) rfl), rfl⟩
theorem wC_yX1_derive : Cond.code yX1_derive cX1_derive 3 none ∈ xW := List.mem_filter.mpr ⟨List.mem_append_right _ (List.mem_of_getElem? (i := 113) rfl), rfl⟩
theorem wMX1_45 : Cond.methodLink "TermSpread" 45 yX0_partAt ∈ xW := List.mem_filter.mpr ⟨List.mem_append_right _ (List.mem_of_getElem? (i := 114) rfl), rfl⟩
theorem wMX1_81 : Cond.methodLink "TermSpread" 81 yX1_putInto ∈ xW := List.mem_filter.mpr ⟨List.mem_append_right _ (List.mem_of_getElem? (i := 115) rfl), rfl⟩
theorem wI_yX1_putInto : Cond.instanceMethod yX1_putInto ∈ xW := List.mem_filter.mpr ⟨List.mem_append_right _ (List.mem_of_getElem? (i := 117) rfl), rfl⟩
theorem wC_yX1_putInto : Cond.code yX1_putInto cX1_putInto 3 (some FieldType.int) ∈ xW := List.mem_filter.mpr ⟨List.mem_append_right _ (List.mem_of_getElem? (i := 118) rfl), rfl⟩
theorem wML_18 : Cond.methodLink "TermSpreadLaw" 18 yX1_face ∈ xW := List.mem_filter.mpr ⟨List.mem_append_right _ (List.mem_of_getElem? (i := 119) rfl), rfl⟩
theorem wI_yX1_face : Cond.instanceMethod yX1_face ∈ xW := List.mem_filter.mpr ⟨List.mem_append_right _ (List.mem_of_getElem? (i := 120) rfl), rfl⟩
theorem wT_yX1_face : Cond.selects yX1_face.cls yX1_face yX1_face ∈ xW := List.mem_filter.mpr ⟨List.mem_append_right _ (List.mem_of_getElem? (i := 121) rfl), rfl⟩
theorem wC_yX1_face : Cond.code yX1_face cX1_face 4 (some FieldType.int) ∈ xW := List.mem_filter.mpr ⟨List.mem_append_right _ (List.mem_of_getElem? (i := 122) rfl), rfl⟩
theorem wMX1_37 : Cond.methodLink "TermSpread" 37 yX1_termOfSort ∈ xW := List.mem_filter.mpr ⟨List.mem_append_right _ (List.mem_of_getElem? (i := 123) rfl), rfl⟩
theorem wI_yX1_termOfSort : Cond.instanceMethod yX1_termOfSort ∈ xW := List.mem_filter.mpr ⟨List.mem_append_right _ (List.mem_of_getElem? (i := 125) rfl), rfl⟩
theorem wC_yX1_termOfSort : Cond.code yX1_termOfSort cX1_termOfSort 4 (some (FieldType.object "TermSpread$Term")) ∈ xW := List.mem_filter.mpr ⟨List.mem_append_right _ (List.mem_of_getElem? (i := 126) rfl), rfl⟩
theorem wMX1_49 : Cond.methodLink "TermSpread" 49 yX1_termIn ∈ xW := List.mem_filter.mpr ⟨List.mem_append_right _ (List.mem_of_getElem? (i := 127) rfl), rfl⟩
theorem wI_yX1_termIn : Cond.instanceMethod yX1_termIn ∈ xW := List.mem_filter.mpr ⟨List.mem_append_right _ (List.mem_of_getElem? (i := 129) rfl), rfl⟩
theorem wC_yX1_termIn : Cond.code yX1_termIn cX1_termIn 2 (some (FieldType.object "TermSpread$Term")) ∈ xW := List.mem_filter.mpr ⟨List.mem_append_right _ (List.mem_of_getElem? (i := 130) rfl), rfl⟩
theorem wML_23 : Cond.methodLink "TermSpreadLaw" 23 yX1_shared ∈ xW := List.mem_filter.mpr ⟨List.mem_append_right _ (List.mem_of_getElem? (i := 131) rfl), rfl⟩
theorem wI_yX1_shared : Cond.instanceMethod yX1_shared ∈ xW := List.mem_filter.mpr ⟨List.mem_append_right _ (List.mem_of_getElem? (i := 132) rfl), rfl⟩
theorem wT_yX1_shared : Cond.selects yX1_shared.cls yX1_shared yX1_shared ∈ xW := List.mem_filter.mpr ⟨List.mem_append_right _ (List.mem_of_getElem? (i := 133) rfl), rfl⟩
theorem wC_yX1_shared : Cond.code yX1_shared cX1_shared 4 (some FieldType.int) ∈ xW := List.mem_filter.mpr ⟨List.mem_append_right _ (List.mem_of_getElem? (i := 134) rfl), rfl⟩
theorem wMX1_41 : Cond.methodLink "TermSpread" 41 yX1_makeSharedInto ∈ xW := List.mem_filter.mpr ⟨List.mem_append_right _ (List.mem_of_getElem? (i := 135) rfl), rfl⟩
theorem wI_yX1_makeSharedInto : Cond.instanceMethod yX1_makeSharedInto ∈ xW := List.mem_filter.mpr ⟨List.mem_append_right _ (List.mem_of_getElem? (i := 137) rfl), rfl⟩
theorem wC_yX1_makeSharedInto : Cond.code yX1_makeSharedInto cX1_makeSharedInto 5 (some FieldType.int) ∈ xW := List.mem_filter.mpr ⟨List.mem_append_right _ (List.mem_of_getElem? (i := 138) rfl), rfl⟩
theorem wML_28 : Cond.methodLink "TermSpreadLaw" 28 yX1_agreed ∈ xW := List.mem_filter.mpr ⟨List.mem_append_right _ (List.mem_of_getElem? (i := 139) rfl), rfl⟩
theorem wI_yX1_agreed : Cond.instanceMethod yX1_agreed ∈ xW := List.mem_filter.mpr ⟨List.mem_append_right _ (List.mem_of_getElem? (i := 140) rfl), rfl⟩
theorem wT_yX1_agreed : Cond.selects yX1_agreed.cls yX1_agreed yX1_agreed ∈ xW := List.mem_filter.mpr ⟨List.mem_append_right _ (List.mem_of_getElem? (i := 141) rfl), rfl⟩
theorem wC_yX1_agreed : Cond.code yX1_agreed cX1_agreed 5 (some FieldType.int) ∈ xW := List.mem_filter.mpr ⟨List.mem_append_right _ (List.mem_of_getElem? (i := 142) rfl), rfl⟩
theorem wML_32 : Cond.methodLink "TermSpreadLaw" 32 yX1_mix ∈ xW := List.mem_filter.mpr ⟨List.mem_append_right _ (List.mem_of_getElem? (i := 143) rfl), rfl⟩
theorem wI_yX1_mix : Cond.instanceMethod yX1_mix ∈ xW := List.mem_filter.mpr ⟨List.mem_append_right _ (List.mem_of_getElem? (i := 144) rfl), rfl⟩
theorem wT_yX1_mix : Cond.selects yX1_mix.cls yX1_mix yX1_mix ∈ xW := List.mem_filter.mpr ⟨List.mem_append_right _ (List.mem_of_getElem? (i := 145) rfl), rfl⟩
theorem wC_yX1_mix : Cond.code yX1_mix cX1_mix 6 (some FieldType.int) ∈ xW := List.mem_filter.mpr ⟨List.mem_append_right _ (List.mem_of_getElem? (i := 146) rfl), rfl⟩
theorem wMX1_52 : Cond.methodLink "TermSpread" 52 yX1_isTermOrNothing ∈ xW := List.mem_filter.mpr ⟨List.mem_append_right _ (List.mem_of_getElem? (i := 147) rfl), rfl⟩
theorem wI_yX1_isTermOrNothing : Cond.instanceMethod yX1_isTermOrNothing ∈ xW := List.mem_filter.mpr ⟨List.mem_append_right _ (List.mem_of_getElem? (i := 149) rfl), rfl⟩
theorem wC_yX1_isTermOrNothing : Cond.code yX1_isTermOrNothing cX1_isTermOrNothing 2 (some FieldType.boolean) ∈ xW := List.mem_filter.mpr ⟨List.mem_append_right _ (List.mem_of_getElem? (i := 150) rfl), rfl⟩
theorem wML_37 : Cond.methodLink "TermSpreadLaw" 37 yX1_sealed ∈ xW := List.mem_filter.mpr ⟨List.mem_append_right _ (List.mem_of_getElem? (i := 151) rfl), rfl⟩
theorem wI_yX1_sealed : Cond.instanceMethod yX1_sealed ∈ xW := List.mem_filter.mpr ⟨List.mem_append_right _ (List.mem_of_getElem? (i := 152) rfl), rfl⟩
theorem wT_yX1_sealed : Cond.selects yX1_sealed.cls yX1_sealed yX1_sealed ∈ xW := List.mem_filter.mpr ⟨List.mem_append_right _ (List.mem_of_getElem? (i := 153) rfl), rfl⟩
theorem wC_yX1_sealed : Cond.code yX1_sealed cX1_sealed 8 (some FieldType.int) ∈ xW := List.mem_filter.mpr ⟨List.mem_append_right _ (List.mem_of_getElem? (i := 154) rfl), rfl⟩
theorem wML_41 : Cond.methodLink "TermSpreadLaw" 41 yX1_signed ∈ xW := List.mem_filter.mpr ⟨List.mem_append_right _ (List.mem_of_getElem? (i := 155) rfl), rfl⟩
theorem wI_yX1_signed : Cond.instanceMethod yX1_signed ∈ xW := List.mem_filter.mpr ⟨List.mem_append_right _ (List.mem_of_getElem? (i := 156) rfl), rfl⟩
theorem wT_yX1_signed : Cond.selects yX1_signed.cls yX1_signed yX1_signed ∈ xW := List.mem_filter.mpr ⟨List.mem_append_right _ (List.mem_of_getElem? (i := 157) rfl), rfl⟩
theorem wC_yX1_signed : Cond.code yX1_signed cX1_signed 6 (some FieldType.int) ∈ xW := List.mem_filter.mpr ⟨List.mem_append_right _ (List.mem_of_getElem? (i := 158) rfl), rfl⟩
theorem wML_45 : Cond.methodLink "TermSpreadLaw" 45 yX1_row ∈ xW := List.mem_filter.mpr ⟨List.mem_append_right _ (List.mem_of_getElem? (i := 159) rfl), rfl⟩
theorem wI_yX1_row : Cond.instanceMethod yX1_row ∈ xW := List.mem_filter.mpr ⟨List.mem_append_right _ (List.mem_of_getElem? (i := 160) rfl), rfl⟩
theorem wT_yX1_row : Cond.selects yX1_row.cls yX1_row yX1_row ∈ xW := List.mem_filter.mpr ⟨List.mem_append_right _ (List.mem_of_getElem? (i := 161) rfl), rfl⟩
theorem wC_yX1_row : Cond.code yX1_row cX1_row 3 (some FieldType.int) ∈ xW := List.mem_filter.mpr ⟨List.mem_append_right _ (List.mem_of_getElem? (i := 162) rfl), rfl⟩
theorem wMX1_56 : Cond.methodLink "TermSpread" 56 yX1_isKind ∈ xW := List.mem_filter.mpr ⟨List.mem_append_right _ (List.mem_of_getElem? (i := 163) rfl), rfl⟩
theorem wS_yX1_isKind : Cond.static yX1_isKind ∈ xW := List.mem_filter.mpr ⟨List.mem_append_right _ (List.mem_of_getElem? (i := 164) rfl), rfl⟩
theorem wC_yX1_isKind : Cond.code yX1_isKind cX1_isKind 1 (some FieldType.boolean) ∈ xW := List.mem_filter.mpr ⟨List.mem_append_right _ (List.mem_of_getElem? (i := 165) rfl), rfl⟩
theorem wML_49 : Cond.methodLink "TermSpreadLaw" 49 yX1_alter ∈ xW := List.mem_filter.mpr ⟨List.mem_append_right _ (List.mem_of_getElem? (i := 166) rfl), rfl⟩
theorem wI_yX1_alter : Cond.instanceMethod yX1_alter ∈ xW := List.mem_filter.mpr ⟨List.mem_append_right _ (List.mem_of_getElem? (i := 167) rfl), rfl⟩
theorem wT_yX1_alter : Cond.selects yX1_alter.cls yX1_alter yX1_alter ∈ xW := List.mem_filter.mpr ⟨List.mem_append_right _ (List.mem_of_getElem? (i := 168) rfl), rfl⟩
theorem wC_yX1_alter : Cond.code yX1_alter cX1_alter 6 (some FieldType.int) ∈ xW := List.mem_filter.mpr ⟨List.mem_append_right _ (List.mem_of_getElem? (i := 169) rfl), rfl⟩
theorem wMX1_59 : Cond.methodLink "TermSpread" 59 yX1_isSlot ∈ xW := List.mem_filter.mpr ⟨List.mem_append_right _ (List.mem_of_getElem? (i := 170) rfl), rfl⟩
theorem wS_yX1_isSlot : Cond.static yX1_isSlot ∈ xW := List.mem_filter.mpr ⟨List.mem_append_right _ (List.mem_of_getElem? (i := 171) rfl), rfl⟩
theorem wC_yX1_isSlot : Cond.code yX1_isSlot cX1_isSlot 1 (some FieldType.boolean) ∈ xW := List.mem_filter.mpr ⟨List.mem_append_right _ (List.mem_of_getElem? (i := 172) rfl), rfl⟩
theorem wMX1_62 : Cond.methodLink "TermSpread" 62 yX0_withNumber ∈ xW := List.mem_filter.mpr ⟨List.mem_append_right _ (List.mem_of_getElem? (i := 173) rfl), rfl⟩
theorem wI_yX0_withNumber : Cond.instanceMethod yX0_withNumber ∈ xW := List.mem_filter.mpr ⟨List.mem_append_right _ (List.mem_of_getElem? (i := 174) rfl), rfl⟩
theorem wT_yX0_withNumber : Cond.selects yX0_withNumber.cls yX0_withNumber yX0_withNumber ∈ xW := List.mem_filter.mpr ⟨List.mem_append_right _ (List.mem_of_getElem? (i := 175) rfl), rfl⟩
theorem wC_yX0_withNumber : Cond.code yX0_withNumber cX0_withNumber 5 (some (FieldType.object "TermSpread$Term")) ∈ xW := List.mem_filter.mpr ⟨List.mem_append_right _ (List.mem_of_getElem? (i := 176) rfl), rfl⟩
theorem wKX0_10 : Cond.classLink "TermSpread$Term" 10 "TermSpread$Term" ∈ xW := List.mem_filter.mpr ⟨List.mem_append_right _ (List.mem_of_getElem? (i := 177) rfl), rfl⟩
theorem wMX0_36 : Cond.methodLink "TermSpread$Term" 36 yX0_init ∈ xW := List.mem_filter.mpr ⟨List.mem_append_right _ (List.mem_of_getElem? (i := 178) rfl), rfl⟩
theorem wMX1_65 : Cond.methodLink "TermSpread" 65 yX0_withLabel ∈ xW := List.mem_filter.mpr ⟨List.mem_append_right _ (List.mem_of_getElem? (i := 179) rfl), rfl⟩
theorem wI_yX0_withLabel : Cond.instanceMethod yX0_withLabel ∈ xW := List.mem_filter.mpr ⟨List.mem_append_right _ (List.mem_of_getElem? (i := 180) rfl), rfl⟩
theorem wT_yX0_withLabel : Cond.selects yX0_withLabel.cls yX0_withLabel yX0_withLabel ∈ xW := List.mem_filter.mpr ⟨List.mem_append_right _ (List.mem_of_getElem? (i := 181) rfl), rfl⟩
theorem wC_yX0_withLabel : Cond.code yX0_withLabel cX0_withLabel 2 (some (FieldType.object "TermSpread$Term")) ∈ xW := List.mem_filter.mpr ⟨List.mem_append_right _ (List.mem_of_getElem? (i := 182) rfl), rfl⟩
theorem wML_53 : Cond.methodLink "TermSpreadLaw" 53 yX1_swap ∈ xW := List.mem_filter.mpr ⟨List.mem_append_right _ (List.mem_of_getElem? (i := 183) rfl), rfl⟩
theorem wI_yX1_swap : Cond.instanceMethod yX1_swap ∈ xW := List.mem_filter.mpr ⟨List.mem_append_right _ (List.mem_of_getElem? (i := 184) rfl), rfl⟩
theorem wT_yX1_swap : Cond.selects yX1_swap.cls yX1_swap yX1_swap ∈ xW := List.mem_filter.mpr ⟨List.mem_append_right _ (List.mem_of_getElem? (i := 185) rfl), rfl⟩
theorem wC_yX1_swap : Cond.code yX1_swap cX1_swap 6 (some FieldType.int) ∈ xW := List.mem_filter.mpr ⟨List.mem_append_right _ (List.mem_of_getElem? (i := 186) rfl), rfl⟩
theorem wMX1_68 : Cond.methodLink "TermSpread" 68 yX0_withPart ∈ xW := List.mem_filter.mpr ⟨List.mem_append_right _ (List.mem_of_getElem? (i := 187) rfl), rfl⟩
theorem wI_yX0_withPart : Cond.instanceMethod yX0_withPart ∈ xW := List.mem_filter.mpr ⟨List.mem_append_right _ (List.mem_of_getElem? (i := 188) rfl), rfl⟩
theorem wT_yX0_withPart : Cond.selects yX0_withPart.cls yX0_withPart yX0_withPart ∈ xW := List.mem_filter.mpr ⟨List.mem_append_right _ (List.mem_of_getElem? (i := 189) rfl), rfl⟩
theorem wC_yX0_withPart : Cond.code yX0_withPart cX0_withPart 5 (some (FieldType.object "TermSpread$Term")) ∈ xW := List.mem_filter.mpr ⟨List.mem_append_right _ (List.mem_of_getElem? (i := 190) rfl), rfl⟩
theorem wML_57 : Cond.methodLink "TermSpreadLaw" 57 yX1_part ∈ xW := List.mem_filter.mpr ⟨List.mem_append_right _ (List.mem_of_getElem? (i := 191) rfl), rfl⟩
theorem wI_yX1_part : Cond.instanceMethod yX1_part ∈ xW := List.mem_filter.mpr ⟨List.mem_append_right _ (List.mem_of_getElem? (i := 192) rfl), rfl⟩
theorem wT_yX1_part : Cond.selects yX1_part.cls yX1_part yX1_part ∈ xW := List.mem_filter.mpr ⟨List.mem_append_right _ (List.mem_of_getElem? (i := 193) rfl), rfl⟩
theorem wC_yX1_part : Cond.code yX1_part cX1_part 5 (some FieldType.int) ∈ xW := List.mem_filter.mpr ⟨List.mem_append_right _ (List.mem_of_getElem? (i := 194) rfl), rfl⟩
theorem wFX1_72 : Cond.fieldLink "TermSpread" 72 "TermSpread" "PART_SORTS" "[I" ∈ xW := List.mem_filter.mpr ⟨List.mem_append_right _ (List.mem_of_getElem? (i := 195) rfl), rfl⟩
theorem wFX1_75 : Cond.fieldLink "TermSpread" 75 "TermSpread" "PART_SLOTS" "[I" ∈ xW := List.mem_filter.mpr ⟨List.mem_append_right _ (List.mem_of_getElem? (i := 197) rfl), rfl⟩
theorem wML_61 : Cond.methodLink "TermSpreadLaw" 61 yX1_give ∈ xW := List.mem_filter.mpr ⟨List.mem_append_right _ (List.mem_of_getElem? (i := 199) rfl), rfl⟩
theorem wI_yX1_give : Cond.instanceMethod yX1_give ∈ xW := List.mem_filter.mpr ⟨List.mem_append_right _ (List.mem_of_getElem? (i := 200) rfl), rfl⟩
theorem wT_yX1_give : Cond.selects yX1_give.cls yX1_give yX1_give ∈ xW := List.mem_filter.mpr ⟨List.mem_append_right _ (List.mem_of_getElem? (i := 201) rfl), rfl⟩
theorem wC_yX1_give : Cond.code yX1_give cX1_give 4 (some FieldType.int) ∈ xW := List.mem_filter.mpr ⟨List.mem_append_right _ (List.mem_of_getElem? (i := 202) rfl), rfl⟩
theorem wMX1_92 : Cond.methodLink "TermSpread" 92 yX1_spread ∈ xW := List.mem_filter.mpr ⟨List.mem_append_right _ (List.mem_of_getElem? (i := 203) rfl), rfl⟩
theorem wI_yX1_spread : Cond.instanceMethod yX1_spread ∈ xW := List.mem_filter.mpr ⟨List.mem_append_right _ (List.mem_of_getElem? (i := 205) rfl), rfl⟩
theorem wC_yX1_spread : Cond.code yX1_spread cX1_spread 4 none ∈ xW := List.mem_filter.mpr ⟨List.mem_append_right _ (List.mem_of_getElem? (i := 206) rfl), rfl⟩
theorem wMX1_135 : Cond.methodLink "TermSpread" 135 yX1_takeAllApart ∈ xW := List.mem_filter.mpr ⟨List.mem_append_right _ (List.mem_of_getElem? (i := 207) rfl), rfl⟩
theorem wI_yX1_takeAllApart : Cond.instanceMethod yX1_takeAllApart ∈ xW := List.mem_filter.mpr ⟨List.mem_append_right _ (List.mem_of_getElem? (i := 209) rfl), rfl⟩
theorem wC_yX1_takeAllApart : Cond.code yX1_takeAllApart cX1_takeAllApart 3 none ∈ xW := List.mem_filter.mpr ⟨List.mem_append_right _ (List.mem_of_getElem? (i := 210) rfl), rfl⟩
theorem wMX1_141 : Cond.methodLink "TermSpread" 141 ⟨"java/lang/Math", "min", "(II)I"⟩ ∈ xW := List.mem_filter.mpr ⟨List.mem_append_right _ (List.mem_of_getElem? (i := 211) rfl), rfl⟩
theorem wS_yJ : Cond.static ⟨"java/lang/Math", "min", "(II)I"⟩ ∈ xW := List.mem_filter.mpr ⟨List.mem_append_right _ (List.mem_of_getElem? (i := 212) rfl), rfl⟩
theorem wC_yJ : Cond.code ⟨"java/lang/Math", "min", "(II)I"⟩ prog_5_method_69_code 2 (some FieldType.int) ∈ xW := List.mem_filter.mpr ⟨List.mem_append_right _ (List.mem_of_getElem? (i := 213) rfl), rfl⟩
theorem wMX1_147 : Cond.methodLink "TermSpread" 147 yX1_takeApart ∈ xW := List.mem_filter.mpr ⟨List.mem_append_right _ (List.mem_of_getElem? (i := 214) rfl), rfl⟩
theorem wI_yX1_takeApart : Cond.instanceMethod yX1_takeApart ∈ xW := List.mem_filter.mpr ⟨List.mem_append_right _ (List.mem_of_getElem? (i := 216) rfl), rfl⟩
theorem wC_yX1_takeApart : Cond.code yX1_takeApart cX1_takeApart 3 none ∈ xW := List.mem_filter.mpr ⟨List.mem_append_right _ (List.mem_of_getElem? (i := 217) rfl), rfl⟩
theorem wMX1_150 : Cond.methodLink "TermSpread" 150 yX0_isPartIn ∈ xW := List.mem_filter.mpr ⟨List.mem_append_right _ (List.mem_of_getElem? (i := 218) rfl), rfl⟩
theorem wMX1_138 : Cond.methodLink "TermSpread" 138 yX1_putAllTogether ∈ xW := List.mem_filter.mpr ⟨List.mem_append_right _ (List.mem_of_getElem? (i := 219) rfl), rfl⟩
theorem wI_yX1_putAllTogether : Cond.instanceMethod yX1_putAllTogether ∈ xW := List.mem_filter.mpr ⟨List.mem_append_right _ (List.mem_of_getElem? (i := 221) rfl), rfl⟩
theorem wC_yX1_putAllTogether : Cond.code yX1_putAllTogether cX1_putAllTogether 3 none ∈ xW := List.mem_filter.mpr ⟨List.mem_append_right _ (List.mem_of_getElem? (i := 222) rfl), rfl⟩
theorem wML_65 : Cond.methodLink "TermSpreadLaw" 65 yX1_derived ∈ xW := List.mem_filter.mpr ⟨List.mem_append_right _ (List.mem_of_getElem? (i := 223) rfl), rfl⟩
theorem wI_yX1_derived : Cond.instanceMethod yX1_derived ∈ xW := List.mem_filter.mpr ⟨List.mem_append_right _ (List.mem_of_getElem? (i := 224) rfl), rfl⟩
theorem wT_yX1_derived : Cond.selects yX1_derived.cls yX1_derived yX1_derived ∈ xW := List.mem_filter.mpr ⟨List.mem_append_right _ (List.mem_of_getElem? (i := 225) rfl), rfl⟩
theorem wC_yX1_derived : Cond.code yX1_derived cX1_derived 3 (some FieldType.int) ∈ xW := List.mem_filter.mpr ⟨List.mem_append_right _ (List.mem_of_getElem? (i := 226) rfl), rfl⟩
theorem wML_69 : Cond.methodLink "TermSpreadLaw" 69 yX1_same ∈ xW := List.mem_filter.mpr ⟨List.mem_append_right _ (List.mem_of_getElem? (i := 227) rfl), rfl⟩
theorem wI_yX1_same : Cond.instanceMethod yX1_same ∈ xW := List.mem_filter.mpr ⟨List.mem_append_right _ (List.mem_of_getElem? (i := 228) rfl), rfl⟩
theorem wT_yX1_same : Cond.selects yX1_same.cls yX1_same yX1_same ∈ xW := List.mem_filter.mpr ⟨List.mem_append_right _ (List.mem_of_getElem? (i := 229) rfl), rfl⟩
theorem wC_yX1_same : Cond.code yX1_same cX1_same 5 (some FieldType.int) ∈ xW := List.mem_filter.mpr ⟨List.mem_append_right _ (List.mem_of_getElem? (i := 230) rfl), rfl⟩
theorem wML_73 : Cond.methodLink "TermSpreadLaw" 73 yX1_good ∈ xW := List.mem_filter.mpr ⟨List.mem_append_right _ (List.mem_of_getElem? (i := 231) rfl), rfl⟩
theorem wI_yX1_good : Cond.instanceMethod yX1_good ∈ xW := List.mem_filter.mpr ⟨List.mem_append_right _ (List.mem_of_getElem? (i := 232) rfl), rfl⟩
theorem wT_yX1_good : Cond.selects yX1_good.cls yX1_good yX1_good ∈ xW := List.mem_filter.mpr ⟨List.mem_append_right _ (List.mem_of_getElem? (i := 233) rfl), rfl⟩
theorem wC_yX1_good : Cond.code yX1_good cX1_good 3 (some FieldType.int) ∈ xW := List.mem_filter.mpr ⟨List.mem_append_right _ (List.mem_of_getElem? (i := 234) rfl), rfl⟩
theorem wMX1_95 : Cond.methodLink "TermSpread" 95 yX1_hasGoodNumbers ∈ xW := List.mem_filter.mpr ⟨List.mem_append_right _ (List.mem_of_getElem? (i := 235) rfl), rfl⟩
theorem wS_yX1_hasGoodNumbers : Cond.static yX1_hasGoodNumbers ∈ xW := List.mem_filter.mpr ⟨List.mem_append_right _ (List.mem_of_getElem? (i := 236) rfl), rfl⟩
theorem wC_yX1_hasGoodNumbers : Cond.code yX1_hasGoodNumbers cX1_hasGoodNumbers 4 (some FieldType.boolean) ∈ xW := List.mem_filter.mpr ⟨List.mem_append_right _ (List.mem_of_getElem? (i := 237) rfl), rfl⟩
theorem wMX1_153 : Cond.methodLink "TermSpread" 153 yX1_placeInTable ∈ xW := List.mem_filter.mpr ⟨List.mem_append_right _ (List.mem_of_getElem? (i := 238) rfl), rfl⟩
theorem wS_yX1_placeInTable : Cond.static yX1_placeInTable ∈ xW := List.mem_filter.mpr ⟨List.mem_append_right _ (List.mem_of_getElem? (i := 239) rfl), rfl⟩
theorem wC_yX1_placeInTable : Cond.code yX1_placeInTable cX1_placeInTable 2 (some FieldType.int) ∈ xW := List.mem_filter.mpr ⟨List.mem_append_right _ (List.mem_of_getElem? (i := 240) rfl), rfl⟩
theorem wFX1_156 : Cond.fieldLink "TermSpread" 156 "TermSpread" "LEAST_NUMBERS" "[I" ∈ xW := List.mem_filter.mpr ⟨List.mem_append_right _ (List.mem_of_getElem? (i := 241) rfl), rfl⟩
theorem wFX1_159 : Cond.fieldLink "TermSpread" 159 "TermSpread" "MOST_NUMBERS" "[I" ∈ xW := List.mem_filter.mpr ⟨List.mem_append_right _ (List.mem_of_getElem? (i := 243) rfl), rfl⟩
theorem wMX1_105 : Cond.methodLink "TermSpread" 105 yX0_numberAt ∈ xW := List.mem_filter.mpr ⟨List.mem_append_right _ (List.mem_of_getElem? (i := 245) rfl), rfl⟩
theorem wMX1_99 : Cond.methodLink "TermSpread" 99 yX1_hasGoodTerms ∈ xW := List.mem_filter.mpr ⟨List.mem_append_right _ (List.mem_of_getElem? (i := 246) rfl), rfl⟩
theorem wS_yX1_hasGoodTerms : Cond.static yX1_hasGoodTerms ∈ xW := List.mem_filter.mpr ⟨List.mem_append_right _ (List.mem_of_getElem? (i := 247) rfl), rfl⟩
theorem wC_yX1_hasGoodTerms : Cond.code yX1_hasGoodTerms cX1_hasGoodTerms 5 (some FieldType.boolean) ∈ xW := List.mem_filter.mpr ⟨List.mem_append_right _ (List.mem_of_getElem? (i := 248) rfl), rfl⟩
theorem wFX1_162 : Cond.fieldLink "TermSpread" 162 "TermSpread" "WANTED_TERMS" "[I" ∈ xW := List.mem_filter.mpr ⟨List.mem_append_right _ (List.mem_of_getElem? (i := 249) rfl), rfl⟩
theorem wMX1_165 : Cond.methodLink "TermSpread" 165 yX1_fits ∈ xW := List.mem_filter.mpr ⟨List.mem_append_right _ (List.mem_of_getElem? (i := 251) rfl), rfl⟩
theorem wS_yX1_fits : Cond.static yX1_fits ∈ xW := List.mem_filter.mpr ⟨List.mem_append_right _ (List.mem_of_getElem? (i := 252) rfl), rfl⟩
theorem wC_yX1_fits : Cond.code yX1_fits cX1_fits 2 (some FieldType.boolean) ∈ xW := List.mem_filter.mpr ⟨List.mem_append_right _ (List.mem_of_getElem? (i := 253) rfl), rfl⟩
theorem wML_77 : Cond.methodLink "TermSpreadLaw" 77 yX1_about ∈ xW := List.mem_filter.mpr ⟨List.mem_append_right _ (List.mem_of_getElem? (i := 254) rfl), rfl⟩
theorem wI_yX1_about : Cond.instanceMethod yX1_about ∈ xW := List.mem_filter.mpr ⟨List.mem_append_right _ (List.mem_of_getElem? (i := 255) rfl), rfl⟩
theorem wT_yX1_about : Cond.selects yX1_about.cls yX1_about yX1_about ∈ xW := List.mem_filter.mpr ⟨List.mem_append_right _ (List.mem_of_getElem? (i := 256) rfl), rfl⟩
theorem wC_yX1_about : Cond.code yX1_about cX1_about 4 (some FieldType.int) ∈ xW := List.mem_filter.mpr ⟨List.mem_append_right _ (List.mem_of_getElem? (i := 257) rfl), rfl⟩
theorem wML_81 : Cond.methodLink "TermSpreadLaw" 81 yX1_count ∈ xW := List.mem_filter.mpr ⟨List.mem_append_right _ (List.mem_of_getElem? (i := 258) rfl), rfl⟩
theorem wI_yX1_count : Cond.instanceMethod yX1_count ∈ xW := List.mem_filter.mpr ⟨List.mem_append_right _ (List.mem_of_getElem? (i := 259) rfl), rfl⟩
theorem wT_yX1_count : Cond.selects yX1_count.cls yX1_count yX1_count ∈ xW := List.mem_filter.mpr ⟨List.mem_append_right _ (List.mem_of_getElem? (i := 260) rfl), rfl⟩
theorem wC_yX1_count : Cond.code yX1_count cX1_count 2 (some FieldType.int) ∈ xW := List.mem_filter.mpr ⟨List.mem_append_right _ (List.mem_of_getElem? (i := 261) rfl), rfl⟩
theorem wKL_10 : Cond.classLink "TermSpreadLaw" 10 "TermSpreadModel" ∈ xW := List.mem_filter.mpr ⟨List.mem_append_right _ (List.mem_of_getElem? (i := 262) rfl), rfl⟩
theorem wN_X2 : Cond.instantiable "TermSpreadModel" 11 ∈ xW := List.mem_filter.mpr ⟨List.mem_append_right _ (List.mem_of_getElem? (i := 263) rfl), rfl⟩
theorem wML_12 : Cond.methodLink "TermSpreadLaw" 12 yX2_init ∈ xW := List.mem_filter.mpr ⟨List.mem_append_right _ (List.mem_of_getElem? (i := 264) rfl), rfl⟩
theorem wI_yX2_init : Cond.instanceMethod yX2_init ∈ xW := List.mem_filter.mpr ⟨List.mem_append_right _ (List.mem_of_getElem? (i := 265) rfl), rfl⟩
theorem wC_yX2_init : Cond.code yX2_init cX2_init 1 none ∈ xW := List.mem_filter.mpr ⟨List.mem_append_right _ (List.mem_of_getElem? (i := 266) rfl), rfl⟩
theorem wMX2_1 : Cond.methodLink "TermSpreadModel" 1 ⟨"java/lang/Object", "<init>", "()V"⟩ ∈ xW := List.mem_filter.mpr ⟨List.mem_append_right _ (List.mem_of_getElem? (i := 267) rfl), rfl⟩
theorem wFX2_38 : Cond.fieldLink "TermSpreadModel" 38 "TermSpreadModel" "terms" "I" ∈ xW := List.mem_filter.mpr ⟨List.mem_append_right _ (List.mem_of_getElem? (i := 268) rfl), rfl⟩
theorem wFX2_9 : Cond.fieldLink "TermSpreadModel" 9 "TermSpreadModel" "sort" "[I" ∈ xW := List.mem_filter.mpr ⟨List.mem_append_right _ (List.mem_of_getElem? (i := 269) rfl), rfl⟩
theorem wFX2_13 : Cond.fieldLink "TermSpreadModel" 13 "TermSpreadModel" "one" "[I" ∈ xW := List.mem_filter.mpr ⟨List.mem_append_right _ (List.mem_of_getElem? (i := 270) rfl), rfl⟩
theorem wFX2_16 : Cond.fieldLink "TermSpreadModel" 16 "TermSpreadModel" "two" "[I" ∈ xW := List.mem_filter.mpr ⟨List.mem_append_right _ (List.mem_of_getElem? (i := 271) rfl), rfl⟩
theorem wFX2_19 : Cond.fieldLink "TermSpreadModel" 19 "TermSpreadModel" "three" "[I" ∈ xW := List.mem_filter.mpr ⟨List.mem_append_right _ (List.mem_of_getElem? (i := 272) rfl), rfl⟩
theorem wFX2_22 : Cond.fieldLink "TermSpreadModel" 22 "TermSpreadModel" "cells" "[I" ∈ xW := List.mem_filter.mpr ⟨List.mem_append_right _ (List.mem_of_getElem? (i := 273) rfl), rfl⟩
theorem wFX2_25 : Cond.fieldLink "TermSpreadModel" 25 "TermSpreadModel" "given" "[Z" ∈ xW := List.mem_filter.mpr ⟨List.mem_append_right _ (List.mem_of_getElem? (i := 274) rfl), rfl⟩
theorem wFX2_29 : Cond.fieldLink "TermSpreadModel" 29 "TermSpreadModel" "known" "[Z" ∈ xW := List.mem_filter.mpr ⟨List.mem_append_right _ (List.mem_of_getElem? (i := 275) rfl), rfl⟩
theorem wFX2_32 : Cond.fieldLink "TermSpreadModel" 32 "TermSpreadModel" "line" "[I" ∈ xW := List.mem_filter.mpr ⟨List.mem_append_right _ (List.mem_of_getElem? (i := 276) rfl), rfl⟩
theorem wFX2_35 : Cond.fieldLink "TermSpreadModel" 35 "TermSpreadModel" "register" "[I" ∈ xW := List.mem_filter.mpr ⟨List.mem_append_right _ (List.mem_of_getElem? (i := 277) rfl), rfl⟩
theorem wFX2_53 : Cond.fieldLink "TermSpreadModel" 53 "TermSpreadModel" "secrets" "I" ∈ xW := List.mem_filter.mpr ⟨List.mem_append_right _ (List.mem_of_getElem? (i := 278) rfl), rfl⟩
theorem wA_boolean : Cond.arrayClass .boolean ∈ xW := List.mem_filter.mpr ⟨List.mem_append_right _ (List.mem_of_getElem? (i := 302) rfl), rfl⟩
theorem wML_17 : Cond.methodLink "TermSpreadLaw" 17 yX2_secret ∈ xW := List.mem_filter.mpr ⟨List.mem_append_right _ (List.mem_of_getElem? (i := 303) rfl), rfl⟩
theorem wI_yX2_secret : Cond.instanceMethod yX2_secret ∈ xW := List.mem_filter.mpr ⟨List.mem_append_right _ (List.mem_of_getElem? (i := 304) rfl), rfl⟩
theorem wT_yX2_secret : Cond.selects yX2_secret.cls yX2_secret yX2_secret ∈ xW := List.mem_filter.mpr ⟨List.mem_append_right _ (List.mem_of_getElem? (i := 305) rfl), rfl⟩
theorem wC_yX2_secret : Cond.code yX2_secret cX2_secret 2 (some FieldType.int) ∈ xW := List.mem_filter.mpr ⟨List.mem_append_right _ (List.mem_of_getElem? (i := 306) rfl), rfl⟩
theorem wMX2_46 : Cond.methodLink "TermSpreadModel" 46 yX2_isRegister ∈ xW := List.mem_filter.mpr ⟨List.mem_append_right _ (List.mem_of_getElem? (i := 307) rfl), rfl⟩
theorem wS_yX2_isRegister : Cond.static yX2_isRegister ∈ xW := List.mem_filter.mpr ⟨List.mem_append_right _ (List.mem_of_getElem? (i := 308) rfl), rfl⟩
theorem wC_yX2_isRegister : Cond.code yX2_isRegister cX2_isRegister 1 (some FieldType.boolean) ∈ xW := List.mem_filter.mpr ⟨List.mem_append_right _ (List.mem_of_getElem? (i := 309) rfl), rfl⟩
theorem wMX2_56 : Cond.methodLink "TermSpreadModel" 56 yX2_put ∈ xW := List.mem_filter.mpr ⟨List.mem_append_right _ (List.mem_of_getElem? (i := 310) rfl), rfl⟩
theorem wI_yX2_put : Cond.instanceMethod yX2_put ∈ xW := List.mem_filter.mpr ⟨List.mem_append_right _ (List.mem_of_getElem? (i := 312) rfl), rfl⟩
theorem wC_yX2_put : Cond.code yX2_put cX2_put 8 (some FieldType.int) ∈ xW := List.mem_filter.mpr ⟨List.mem_append_right _ (List.mem_of_getElem? (i := 313) rfl), rfl⟩
theorem wMX2_42 : Cond.methodLink "TermSpreadModel" 42 yX2_isLike ∈ xW := List.mem_filter.mpr ⟨List.mem_append_right _ (List.mem_of_getElem? (i := 314) rfl), rfl⟩
theorem wI_yX2_isLike : Cond.instanceMethod yX2_isLike ∈ xW := List.mem_filter.mpr ⟨List.mem_append_right _ (List.mem_of_getElem? (i := 316) rfl), rfl⟩
theorem wC_yX2_isLike : Cond.code yX2_isLike cX2_isLike 8 (some FieldType.boolean) ∈ xW := List.mem_filter.mpr ⟨List.mem_append_right _ (List.mem_of_getElem? (i := 317) rfl), rfl⟩
theorem wML_22 : Cond.methodLink "TermSpreadLaw" 22 yX2_face ∈ xW := List.mem_filter.mpr ⟨List.mem_append_right _ (List.mem_of_getElem? (i := 318) rfl), rfl⟩
theorem wI_yX2_face : Cond.instanceMethod yX2_face ∈ xW := List.mem_filter.mpr ⟨List.mem_append_right _ (List.mem_of_getElem? (i := 319) rfl), rfl⟩
theorem wT_yX2_face : Cond.selects yX2_face.cls yX2_face yX2_face ∈ xW := List.mem_filter.mpr ⟨List.mem_append_right _ (List.mem_of_getElem? (i := 320) rfl), rfl⟩
theorem wC_yX2_face : Cond.code yX2_face cX2_face 3 (some FieldType.int) ∈ xW := List.mem_filter.mpr ⟨List.mem_append_right _ (List.mem_of_getElem? (i := 321) rfl), rfl⟩
theorem wMX2_60 : Cond.methodLink "TermSpreadModel" 60 yX2_has ∈ xW := List.mem_filter.mpr ⟨List.mem_append_right _ (List.mem_of_getElem? (i := 322) rfl), rfl⟩
theorem wI_yX2_has : Cond.instanceMethod yX2_has ∈ xW := List.mem_filter.mpr ⟨List.mem_append_right _ (List.mem_of_getElem? (i := 324) rfl), rfl⟩
theorem wC_yX2_has : Cond.code yX2_has cX2_has 3 (some FieldType.boolean) ∈ xW := List.mem_filter.mpr ⟨List.mem_append_right _ (List.mem_of_getElem? (i := 325) rfl), rfl⟩
theorem wMX2_50 : Cond.methodLink "TermSpreadModel" 50 yX2_holds ∈ xW := List.mem_filter.mpr ⟨List.mem_append_right _ (List.mem_of_getElem? (i := 326) rfl), rfl⟩
theorem wI_yX2_holds : Cond.instanceMethod yX2_holds ∈ xW := List.mem_filter.mpr ⟨List.mem_append_right _ (List.mem_of_getElem? (i := 328) rfl), rfl⟩
theorem wC_yX2_holds : Cond.code yX2_holds cX2_holds 2 (some FieldType.boolean) ∈ xW := List.mem_filter.mpr ⟨List.mem_append_right _ (List.mem_of_getElem? (i := 329) rfl), rfl⟩
theorem wML_27 : Cond.methodLink "TermSpreadLaw" 27 yX2_shared ∈ xW := List.mem_filter.mpr ⟨List.mem_append_right _ (List.mem_of_getElem? (i := 330) rfl), rfl⟩
theorem wI_yX2_shared : Cond.instanceMethod yX2_shared ∈ xW := List.mem_filter.mpr ⟨List.mem_append_right _ (List.mem_of_getElem? (i := 331) rfl), rfl⟩
theorem wT_yX2_shared : Cond.selects yX2_shared.cls yX2_shared yX2_shared ∈ xW := List.mem_filter.mpr ⟨List.mem_append_right _ (List.mem_of_getElem? (i := 332) rfl), rfl⟩
theorem wC_yX2_shared : Cond.code yX2_shared cX2_shared 4 (some FieldType.int) ∈ xW := List.mem_filter.mpr ⟨List.mem_append_right _ (List.mem_of_getElem? (i := 333) rfl), rfl⟩
theorem wMX2_64 : Cond.methodLink "TermSpreadModel" 64 yX2_share ∈ xW := List.mem_filter.mpr ⟨List.mem_append_right _ (List.mem_of_getElem? (i := 334) rfl), rfl⟩
theorem wI_yX2_share : Cond.instanceMethod yX2_share ∈ xW := List.mem_filter.mpr ⟨List.mem_append_right _ (List.mem_of_getElem? (i := 336) rfl), rfl⟩
theorem wC_yX2_share : Cond.code yX2_share cX2_share 4 (some FieldType.int) ∈ xW := List.mem_filter.mpr ⟨List.mem_append_right _ (List.mem_of_getElem? (i := 337) rfl), rfl⟩
theorem wML_31 : Cond.methodLink "TermSpreadLaw" 31 yX2_agreed ∈ xW := List.mem_filter.mpr ⟨List.mem_append_right _ (List.mem_of_getElem? (i := 338) rfl), rfl⟩
theorem wI_yX2_agreed : Cond.instanceMethod yX2_agreed ∈ xW := List.mem_filter.mpr ⟨List.mem_append_right _ (List.mem_of_getElem? (i := 339) rfl), rfl⟩
theorem wT_yX2_agreed : Cond.selects yX2_agreed.cls yX2_agreed yX2_agreed ∈ xW := List.mem_filter.mpr ⟨List.mem_append_right _ (List.mem_of_getElem? (i := 340) rfl), rfl⟩
theorem wC_yX2_agreed : Cond.code yX2_agreed cX2_agreed 4 (some FieldType.int) ∈ xW := List.mem_filter.mpr ⟨List.mem_append_right _ (List.mem_of_getElem? (i := 341) rfl), rfl⟩
theorem wML_36 : Cond.methodLink "TermSpreadLaw" 36 yX2_mix ∈ xW := List.mem_filter.mpr ⟨List.mem_append_right _ (List.mem_of_getElem? (i := 342) rfl), rfl⟩
theorem wI_yX2_mix : Cond.instanceMethod yX2_mix ∈ xW := List.mem_filter.mpr ⟨List.mem_append_right _ (List.mem_of_getElem? (i := 343) rfl), rfl⟩
theorem wT_yX2_mix : Cond.selects yX2_mix.cls yX2_mix yX2_mix ∈ xW := List.mem_filter.mpr ⟨List.mem_append_right _ (List.mem_of_getElem? (i := 344) rfl), rfl⟩
theorem wC_yX2_mix : Cond.code yX2_mix cX2_mix 5 (some FieldType.int) ∈ xW := List.mem_filter.mpr ⟨List.mem_append_right _ (List.mem_of_getElem? (i := 345) rfl), rfl⟩
theorem wML_40 : Cond.methodLink "TermSpreadLaw" 40 yX2_sealed ∈ xW := List.mem_filter.mpr ⟨List.mem_append_right _ (List.mem_of_getElem? (i := 346) rfl), rfl⟩
theorem wI_yX2_sealed : Cond.instanceMethod yX2_sealed ∈ xW := List.mem_filter.mpr ⟨List.mem_append_right _ (List.mem_of_getElem? (i := 347) rfl), rfl⟩
theorem wT_yX2_sealed : Cond.selects yX2_sealed.cls yX2_sealed yX2_sealed ∈ xW := List.mem_filter.mpr ⟨List.mem_append_right _ (List.mem_of_getElem? (i := 348) rfl), rfl⟩
theorem wC_yX2_sealed : Cond.code yX2_sealed cX2_sealed 5 (some FieldType.int) ∈ xW := List.mem_filter.mpr ⟨List.mem_append_right _ (List.mem_of_getElem? (i := 349) rfl), rfl⟩
theorem wML_44 : Cond.methodLink "TermSpreadLaw" 44 yX2_signed ∈ xW := List.mem_filter.mpr ⟨List.mem_append_right _ (List.mem_of_getElem? (i := 350) rfl), rfl⟩
theorem wI_yX2_signed : Cond.instanceMethod yX2_signed ∈ xW := List.mem_filter.mpr ⟨List.mem_append_right _ (List.mem_of_getElem? (i := 351) rfl), rfl⟩
theorem wT_yX2_signed : Cond.selects yX2_signed.cls yX2_signed yX2_signed ∈ xW := List.mem_filter.mpr ⟨List.mem_append_right _ (List.mem_of_getElem? (i := 352) rfl), rfl⟩
theorem wC_yX2_signed : Cond.code yX2_signed cX2_signed 4 (some FieldType.int) ∈ xW := List.mem_filter.mpr ⟨List.mem_append_right _ (List.mem_of_getElem? (i := 353) rfl), rfl⟩
theorem wML_48 : Cond.methodLink "TermSpreadLaw" 48 yX2_row ∈ xW := List.mem_filter.mpr ⟨List.mem_append_right _ (List.mem_of_getElem? (i := 354) rfl), rfl⟩
theorem wI_yX2_row : Cond.instanceMethod yX2_row ∈ xW := List.mem_filter.mpr ⟨List.mem_append_right _ (List.mem_of_getElem? (i := 355) rfl), rfl⟩
theorem wT_yX2_row : Cond.selects yX2_row.cls yX2_row yX2_row ∈ xW := List.mem_filter.mpr ⟨List.mem_append_right _ (List.mem_of_getElem? (i := 356) rfl), rfl⟩
theorem wC_yX2_row : Cond.code yX2_row cX2_row 4 (some FieldType.int) ∈ xW := List.mem_filter.mpr ⟨List.mem_append_right _ (List.mem_of_getElem? (i := 357) rfl), rfl⟩
theorem wML_52 : Cond.methodLink "TermSpreadLaw" 52 yX2_alter ∈ xW := List.mem_filter.mpr ⟨List.mem_append_right _ (List.mem_of_getElem? (i := 358) rfl), rfl⟩
theorem wI_yX2_alter : Cond.instanceMethod yX2_alter ∈ xW := List.mem_filter.mpr ⟨List.mem_append_right _ (List.mem_of_getElem? (i := 359) rfl), rfl⟩
theorem wT_yX2_alter : Cond.selects yX2_alter.cls yX2_alter yX2_alter ∈ xW := List.mem_filter.mpr ⟨List.mem_append_right _ (List.mem_of_getElem? (i := 360) rfl), rfl⟩
theorem wC_yX2_alter : Cond.code yX2_alter cX2_alter 5 (some FieldType.int) ∈ xW := List.mem_filter.mpr ⟨List.mem_append_right _ (List.mem_of_getElem? (i := 361) rfl), rfl⟩
theorem wMX2_68 : Cond.methodLink "TermSpreadModel" 68 yX2_copy ∈ xW := List.mem_filter.mpr ⟨List.mem_append_right _ (List.mem_of_getElem? (i := 362) rfl), rfl⟩
theorem wI_yX2_copy : Cond.instanceMethod yX2_copy ∈ xW := List.mem_filter.mpr ⟨List.mem_append_right _ (List.mem_of_getElem? (i := 364) rfl), rfl⟩
theorem wC_yX2_copy : Cond.code yX2_copy cX2_copy 3 none ∈ xW := List.mem_filter.mpr ⟨List.mem_append_right _ (List.mem_of_getElem? (i := 365) rfl), rfl⟩
theorem wML_56 : Cond.methodLink "TermSpreadLaw" 56 yX2_swap ∈ xW := List.mem_filter.mpr ⟨List.mem_append_right _ (List.mem_of_getElem? (i := 366) rfl), rfl⟩
theorem wI_yX2_swap : Cond.instanceMethod yX2_swap ∈ xW := List.mem_filter.mpr ⟨List.mem_append_right _ (List.mem_of_getElem? (i := 367) rfl), rfl⟩
theorem wT_yX2_swap : Cond.selects yX2_swap.cls yX2_swap yX2_swap ∈ xW := List.mem_filter.mpr ⟨List.mem_append_right _ (List.mem_of_getElem? (i := 368) rfl), rfl⟩
theorem wC_yX2_swap : Cond.code yX2_swap cX2_swap 5 (some FieldType.int) ∈ xW := List.mem_filter.mpr ⟨List.mem_append_right _ (List.mem_of_getElem? (i := 369) rfl), rfl⟩
theorem wML_60 : Cond.methodLink "TermSpreadLaw" 60 yX2_part ∈ xW := List.mem_filter.mpr ⟨List.mem_append_right _ (List.mem_of_getElem? (i := 370) rfl), rfl⟩
theorem wI_yX2_part : Cond.instanceMethod yX2_part ∈ xW := List.mem_filter.mpr ⟨List.mem_append_right _ (List.mem_of_getElem? (i := 371) rfl), rfl⟩
theorem wT_yX2_part : Cond.selects yX2_part.cls yX2_part yX2_part ∈ xW := List.mem_filter.mpr ⟨List.mem_append_right _ (List.mem_of_getElem? (i := 372) rfl), rfl⟩
theorem wC_yX2_part : Cond.code yX2_part cX2_part 5 (some FieldType.int) ∈ xW := List.mem_filter.mpr ⟨List.mem_append_right _ (List.mem_of_getElem? (i := 373) rfl), rfl⟩
theorem wMX2_72 : Cond.methodLink "TermSpreadModel" 72 yX2_partOf ∈ xW := List.mem_filter.mpr ⟨List.mem_append_right _ (List.mem_of_getElem? (i := 374) rfl), rfl⟩
theorem wI_yX2_partOf : Cond.instanceMethod yX2_partOf ∈ xW := List.mem_filter.mpr ⟨List.mem_append_right _ (List.mem_of_getElem? (i := 376) rfl), rfl⟩
theorem wC_yX2_partOf : Cond.code yX2_partOf cX2_partOf 3 (some FieldType.int) ∈ xW := List.mem_filter.mpr ⟨List.mem_append_right _ (List.mem_of_getElem? (i := 377) rfl), rfl⟩
theorem wML_64 : Cond.methodLink "TermSpreadLaw" 64 yX2_give ∈ xW := List.mem_filter.mpr ⟨List.mem_append_right _ (List.mem_of_getElem? (i := 378) rfl), rfl⟩
theorem wI_yX2_give : Cond.instanceMethod yX2_give ∈ xW := List.mem_filter.mpr ⟨List.mem_append_right _ (List.mem_of_getElem? (i := 379) rfl), rfl⟩
theorem wT_yX2_give : Cond.selects yX2_give.cls yX2_give yX2_give ∈ xW := List.mem_filter.mpr ⟨List.mem_append_right _ (List.mem_of_getElem? (i := 380) rfl), rfl⟩
theorem wC_yX2_give : Cond.code yX2_give cX2_give 3 (some FieldType.int) ∈ xW := List.mem_filter.mpr ⟨List.mem_append_right _ (List.mem_of_getElem? (i := 381) rfl), rfl⟩
theorem wMX2_94 : Cond.methodLink "TermSpreadModel" 94 yX2_derivedNow ∈ xW := List.mem_filter.mpr ⟨List.mem_append_right _ (List.mem_of_getElem? (i := 382) rfl), rfl⟩
theorem wI_yX2_derivedNow : Cond.instanceMethod yX2_derivedNow ∈ xW := List.mem_filter.mpr ⟨List.mem_append_right _ (List.mem_of_getElem? (i := 384) rfl), rfl⟩
theorem wC_yX2_derivedNow : Cond.code yX2_derivedNow cX2_derivedNow 3 (some FieldType.int) ∈ xW := List.mem_filter.mpr ⟨List.mem_append_right _ (List.mem_of_getElem? (i := 385) rfl), rfl⟩
theorem wMX2_91 : Cond.methodLink "TermSpreadModel" 91 yX2_derive ∈ xW := List.mem_filter.mpr ⟨List.mem_append_right _ (List.mem_of_getElem? (i := 386) rfl), rfl⟩
theorem wI_yX2_derive : Cond.instanceMethod yX2_derive ∈ xW := List.mem_filter.mpr ⟨List.mem_append_right _ (List.mem_of_getElem? (i := 388) rfl), rfl⟩
theorem wC_yX2_derive : Cond.code yX2_derive cX2_derive 3 none ∈ xW := List.mem_filter.mpr ⟨List.mem_append_right _ (List.mem_of_getElem? (i := 389) rfl), rfl⟩
theorem wMX2_85 : Cond.methodLink "TermSpreadModel" 85 yX2_canMake ∈ xW := List.mem_filter.mpr ⟨List.mem_append_right _ (List.mem_of_getElem? (i := 390) rfl), rfl⟩
theorem wI_yX2_canMake : Cond.instanceMethod yX2_canMake ∈ xW := List.mem_filter.mpr ⟨List.mem_append_right _ (List.mem_of_getElem? (i := 392) rfl), rfl⟩
theorem wC_yX2_canMake : Cond.code yX2_canMake cX2_canMake 4 (some FieldType.boolean) ∈ xW := List.mem_filter.mpr ⟨List.mem_append_right _ (List.mem_of_getElem? (i := 393) rfl), rfl⟩
theorem wMX2_76 : Cond.methodLink "TermSpreadModel" 76 yX2_is ∈ xW := List.mem_filter.mpr ⟨List.mem_append_right _ (List.mem_of_getElem? (i := 394) rfl), rfl⟩
theorem wI_yX2_is : Cond.instanceMethod yX2_is ∈ xW := List.mem_filter.mpr ⟨List.mem_append_right _ (List.mem_of_getElem? (i := 396) rfl), rfl⟩
theorem wC_yX2_is : Cond.code yX2_is cX2_is 2 (some FieldType.boolean) ∈ xW := List.mem_filter.mpr ⟨List.mem_append_right _ (List.mem_of_getElem? (i := 397) rfl), rfl⟩
theorem wMX2_79 : Cond.methodLink "TermSpreadModel" 79 yX2_shows ∈ xW := List.mem_filter.mpr ⟨List.mem_append_right _ (List.mem_of_getElem? (i := 398) rfl), rfl⟩
theorem wI_yX2_shows : Cond.instanceMethod yX2_shows ∈ xW := List.mem_filter.mpr ⟨List.mem_append_right _ (List.mem_of_getElem? (i := 400) rfl), rfl⟩
theorem wC_yX2_shows : Cond.code yX2_shows cX2_shows 4 (some FieldType.boolean) ∈ xW := List.mem_filter.mpr ⟨List.mem_append_right _ (List.mem_of_getElem? (i := 401) rfl), rfl⟩
theorem wMX2_82 : Cond.methodLink "TermSpreadModel" 82 yX2_learn ∈ xW := List.mem_filter.mpr ⟨List.mem_append_right _ (List.mem_of_getElem? (i := 402) rfl), rfl⟩
theorem wI_yX2_learn : Cond.instanceMethod yX2_learn ∈ xW := List.mem_filter.mpr ⟨List.mem_append_right _ (List.mem_of_getElem? (i := 404) rfl), rfl⟩
theorem wC_yX2_learn : Cond.code yX2_learn cX2_learn 2 (some FieldType.boolean) ∈ xW := List.mem_filter.mpr ⟨List.mem_append_right _ (List.mem_of_getElem? (i := 405) rfl), rfl⟩
theorem wMX2_88 : Cond.methodLink "TermSpreadModel" 88 yX2_open ∈ xW := List.mem_filter.mpr ⟨List.mem_append_right _ (List.mem_of_getElem? (i := 406) rfl), rfl⟩
theorem wI_yX2_open : Cond.instanceMethod yX2_open ∈ xW := List.mem_filter.mpr ⟨List.mem_append_right _ (List.mem_of_getElem? (i := 408) rfl), rfl⟩
theorem wC_yX2_open : Cond.code yX2_open cX2_open 4 (some FieldType.boolean) ∈ xW := List.mem_filter.mpr ⟨List.mem_append_right _ (List.mem_of_getElem? (i := 409) rfl), rfl⟩
theorem wML_68 : Cond.methodLink "TermSpreadLaw" 68 yX2_derived ∈ xW := List.mem_filter.mpr ⟨List.mem_append_right _ (List.mem_of_getElem? (i := 410) rfl), rfl⟩
theorem wI_yX2_derived : Cond.instanceMethod yX2_derived ∈ xW := List.mem_filter.mpr ⟨List.mem_append_right _ (List.mem_of_getElem? (i := 411) rfl), rfl⟩
theorem wT_yX2_derived : Cond.selects yX2_derived.cls yX2_derived yX2_derived ∈ xW := List.mem_filter.mpr ⟨List.mem_append_right _ (List.mem_of_getElem? (i := 412) rfl), rfl⟩
theorem wC_yX2_derived : Cond.code yX2_derived cX2_derived 2 (some FieldType.int) ∈ xW := List.mem_filter.mpr ⟨List.mem_append_right _ (List.mem_of_getElem? (i := 413) rfl), rfl⟩
theorem wML_72 : Cond.methodLink "TermSpreadLaw" 72 yX2_same ∈ xW := List.mem_filter.mpr ⟨List.mem_append_right _ (List.mem_of_getElem? (i := 414) rfl), rfl⟩
theorem wI_yX2_same : Cond.instanceMethod yX2_same ∈ xW := List.mem_filter.mpr ⟨List.mem_append_right _ (List.mem_of_getElem? (i := 415) rfl), rfl⟩
theorem wT_yX2_same : Cond.selects yX2_same.cls yX2_same yX2_same ∈ xW := List.mem_filter.mpr ⟨List.mem_append_right _ (List.mem_of_getElem? (i := 416) rfl), rfl⟩
theorem wC_yX2_same : Cond.code yX2_same cX2_same 3 (some FieldType.int) ∈ xW := List.mem_filter.mpr ⟨List.mem_append_right _ (List.mem_of_getElem? (i := 417) rfl), rfl⟩
theorem wML_76 : Cond.methodLink "TermSpreadLaw" 76 yX2_good ∈ xW := List.mem_filter.mpr ⟨List.mem_append_right _ (List.mem_of_getElem? (i := 418) rfl), rfl⟩
theorem wI_yX2_good : Cond.instanceMethod yX2_good ∈ xW := List.mem_filter.mpr ⟨List.mem_append_right _ (List.mem_of_getElem? (i := 419) rfl), rfl⟩
theorem wT_yX2_good : Cond.selects yX2_good.cls yX2_good yX2_good ∈ xW := List.mem_filter.mpr ⟨List.mem_append_right _ (List.mem_of_getElem? (i := 420) rfl), rfl⟩
theorem wC_yX2_good : Cond.code yX2_good cX2_good 2 (some FieldType.int) ∈ xW := List.mem_filter.mpr ⟨List.mem_append_right _ (List.mem_of_getElem? (i := 421) rfl), rfl⟩
theorem wMX2_108 : Cond.methodLink "TermSpreadModel" 108 yX2_isGood ∈ xW := List.mem_filter.mpr ⟨List.mem_append_right _ (List.mem_of_getElem? (i := 422) rfl), rfl⟩
theorem wI_yX2_isGood : Cond.instanceMethod yX2_isGood ∈ xW := List.mem_filter.mpr ⟨List.mem_append_right _ (List.mem_of_getElem? (i := 424) rfl), rfl⟩
theorem wC_yX2_isGood : Cond.code yX2_isGood cX2_isGood 7 (some FieldType.boolean) ∈ xW := List.mem_filter.mpr ⟨List.mem_append_right _ (List.mem_of_getElem? (i := 425) rfl), rfl⟩
theorem wMX2_98 : Cond.methodLink "TermSpreadModel" 98 yX2_in ∈ xW := List.mem_filter.mpr ⟨List.mem_append_right _ (List.mem_of_getElem? (i := 426) rfl), rfl⟩
theorem wS_yX2_in : Cond.static yX2_in ∈ xW := List.mem_filter.mpr ⟨List.mem_append_right _ (List.mem_of_getElem? (i := 427) rfl), rfl⟩
theorem wC_yX2_in : Cond.code yX2_in cX2_in 3 (some FieldType.boolean) ∈ xW := List.mem_filter.mpr ⟨List.mem_append_right _ (List.mem_of_getElem? (i := 428) rfl), rfl⟩
theorem wMX2_102 : Cond.methodLink "TermSpreadModel" 102 yX2_isBare ∈ xW := List.mem_filter.mpr ⟨List.mem_append_right _ (List.mem_of_getElem? (i := 429) rfl), rfl⟩
theorem wI_yX2_isBare : Cond.instanceMethod yX2_isBare ∈ xW := List.mem_filter.mpr ⟨List.mem_append_right _ (List.mem_of_getElem? (i := 431) rfl), rfl⟩
theorem wC_yX2_isBare : Cond.code yX2_isBare cX2_isBare 6 (some FieldType.boolean) ∈ xW := List.mem_filter.mpr ⟨List.mem_append_right _ (List.mem_of_getElem? (i := 432) rfl), rfl⟩
theorem wMX2_105 : Cond.methodLink "TermSpreadModel" 105 yX2_isFace ∈ xW := List.mem_filter.mpr ⟨List.mem_append_right _ (List.mem_of_getElem? (i := 433) rfl), rfl⟩
theorem wI_yX2_isFace : Cond.instanceMethod yX2_isFace ∈ xW := List.mem_filter.mpr ⟨List.mem_append_right _ (List.mem_of_getElem? (i := 435) rfl), rfl⟩
theorem wC_yX2_isFace : Cond.code yX2_isFace cX2_isFace 2 (some FieldType.boolean) ∈ xW := List.mem_filter.mpr ⟨List.mem_append_right _ (List.mem_of_getElem? (i := 436) rfl), rfl⟩
theorem wML_80 : Cond.methodLink "TermSpreadLaw" 80 yX2_about ∈ xW := List.mem_filter.mpr ⟨List.mem_append_right _ (List.mem_of_getElem? (i := 437) rfl), rfl⟩
theorem wI_yX2_about : Cond.instanceMethod yX2_about ∈ xW := List.mem_filter.mpr ⟨List.mem_append_right _ (List.mem_of_getElem? (i := 438) rfl), rfl⟩
theorem wT_yX2_about : Cond.selects yX2_about.cls yX2_about yX2_about ∈ xW := List.mem_filter.mpr ⟨List.mem_append_right _ (List.mem_of_getElem? (i := 439) rfl), rfl⟩
theorem wC_yX2_about : Cond.code yX2_about cX2_about 4 (some FieldType.int) ∈ xW := List.mem_filter.mpr ⟨List.mem_append_right _ (List.mem_of_getElem? (i := 440) rfl), rfl⟩
theorem wML_84 : Cond.methodLink "TermSpreadLaw" 84 yX2_count ∈ xW := List.mem_filter.mpr ⟨List.mem_append_right _ (List.mem_of_getElem? (i := 441) rfl), rfl⟩
theorem wI_yX2_count : Cond.instanceMethod yX2_count ∈ xW := List.mem_filter.mpr ⟨List.mem_append_right _ (List.mem_of_getElem? (i := 442) rfl), rfl⟩
theorem wT_yX2_count : Cond.selects yX2_count.cls yX2_count yX2_count ∈ xW := List.mem_filter.mpr ⟨List.mem_append_right _ (List.mem_of_getElem? (i := 443) rfl), rfl⟩
theorem wC_yX2_count : Cond.code yX2_count cX2_count 2 (some FieldType.int) ∈ xW := List.mem_filter.mpr ⟨List.mem_append_right _ (List.mem_of_getElem? (i := 444) rfl), rfl⟩
theorem wT_yX1_plainTerm : Cond.selects yX1_plainTerm.cls yX1_plainTerm yX1_plainTerm ∈ xW := List.mem_filter.mpr ⟨List.mem_append_left _ (List.mem_of_getElem? (i := 0) rfl), rfl⟩
theorem wT_yX1_makeInto : Cond.selects yX1_makeInto.cls yX1_makeInto yX1_makeInto ∈ xW := List.mem_filter.mpr ⟨List.mem_append_left _ (List.mem_of_getElem? (i := 1) rfl), rfl⟩
theorem wT_yX1_findLike : Cond.selects yX1_findLike.cls yX1_findLike yX1_findLike ∈ xW := List.mem_filter.mpr ⟨List.mem_append_left _ (List.mem_of_getElem? (i := 2) rfl), rfl⟩
theorem wT_yX1_keep : Cond.selects yX1_keep.cls yX1_keep yX1_keep ∈ xW := List.mem_filter.mpr ⟨List.mem_append_left _ (List.mem_of_getElem? (i := 3) rfl), rfl⟩
theorem wT_yX1_derive : Cond.selects yX1_derive.cls yX1_derive yX1_derive ∈ xW := List.mem_filter.mpr ⟨List.mem_append_left _ (List.mem_of_getElem? (i := 4) rfl), rfl⟩
theorem wT_yX1_putInto : Cond.selects yX1_putInto.cls yX1_putInto yX1_putInto ∈ xW := List.mem_filter.mpr ⟨List.mem_append_left _ (List.mem_of_getElem? (i := 5) rfl), rfl⟩
theorem wT_yX1_termOfSort : Cond.selects yX1_termOfSort.cls yX1_termOfSort yX1_termOfSort ∈ xW := List.mem_filter.mpr ⟨List.mem_append_left _ (List.mem_of_getElem? (i := 6) rfl), rfl⟩
theorem wT_yX1_termIn : Cond.selects yX1_termIn.cls yX1_termIn yX1_termIn ∈ xW := List.mem_filter.mpr ⟨List.mem_append_left _ (List.mem_of_getElem? (i := 7) rfl), rfl⟩
theorem wT_yX1_makeSharedInto : Cond.selects yX1_makeSharedInto.cls yX1_makeSharedInto yX1_makeSharedInto ∈ xW := List.mem_filter.mpr ⟨List.mem_append_left _ (List.mem_of_getElem? (i := 8) rfl), rfl⟩
theorem wT_yX1_isTermOrNothing : Cond.selects yX1_isTermOrNothing.cls yX1_isTermOrNothing yX1_isTermOrNothing ∈ xW := List.mem_filter.mpr ⟨List.mem_append_left _ (List.mem_of_getElem? (i := 9) rfl), rfl⟩
theorem wT_yX1_spread : Cond.selects yX1_spread.cls yX1_spread yX1_spread ∈ xW := List.mem_filter.mpr ⟨List.mem_append_left _ (List.mem_of_getElem? (i := 10) rfl), rfl⟩
theorem wT_yX1_takeAllApart : Cond.selects yX1_takeAllApart.cls yX1_takeAllApart yX1_takeAllApart ∈ xW := List.mem_filter.mpr ⟨List.mem_append_left _ (List.mem_of_getElem? (i := 11) rfl), rfl⟩
theorem wT_yX1_takeApart : Cond.selects yX1_takeApart.cls yX1_takeApart yX1_takeApart ∈ xW := List.mem_filter.mpr ⟨List.mem_append_left _ (List.mem_of_getElem? (i := 12) rfl), rfl⟩
theorem wT_yX1_putAllTogether : Cond.selects yX1_putAllTogether.cls yX1_putAllTogether yX1_putAllTogether ∈ xW := List.mem_filter.mpr ⟨List.mem_append_left _ (List.mem_of_getElem? (i := 13) rfl), rfl⟩
theorem wT_yX2_put : Cond.selects yX2_put.cls yX2_put yX2_put ∈ xW := List.mem_filter.mpr ⟨List.mem_append_left _ (List.mem_of_getElem? (i := 14) rfl), rfl⟩
theorem wT_yX2_isLike : Cond.selects yX2_isLike.cls yX2_isLike yX2_isLike ∈ xW := List.mem_filter.mpr ⟨List.mem_append_left _ (List.mem_of_getElem? (i := 15) rfl), rfl⟩
theorem wT_yX2_has : Cond.selects yX2_has.cls yX2_has yX2_has ∈ xW := List.mem_filter.mpr ⟨List.mem_append_left _ (List.mem_of_getElem? (i := 16) rfl), rfl⟩
theorem wT_yX2_holds : Cond.selects yX2_holds.cls yX2_holds yX2_holds ∈ xW := List.mem_filter.mpr ⟨List.mem_append_left _ (List.mem_of_getElem? (i := 17) rfl), rfl⟩
theorem wT_yX2_share : Cond.selects yX2_share.cls yX2_share yX2_share ∈ xW := List.mem_filter.mpr ⟨List.mem_append_left _ (List.mem_of_getElem? (i := 18) rfl), rfl⟩
theorem wT_yX2_copy : Cond.selects yX2_copy.cls yX2_copy yX2_copy ∈ xW := List.mem_filter.mpr ⟨List.mem_append_left _ (List.mem_of_getElem? (i := 19) rfl), rfl⟩
theorem wT_yX2_partOf : Cond.selects yX2_partOf.cls yX2_partOf yX2_partOf ∈ xW := List.mem_filter.mpr ⟨List.mem_append_left _ (List.mem_of_getElem? (i := 20) rfl), rfl⟩
theorem wT_yX2_derivedNow : Cond.selects yX2_derivedNow.cls yX2_derivedNow yX2_derivedNow ∈ xW := List.mem_filter.mpr ⟨List.mem_append_left _ (List.mem_of_getElem? (i := 21) rfl), rfl⟩
theorem wT_yX2_derive : Cond.selects yX2_derive.cls yX2_derive yX2_derive ∈ xW := List.mem_filter.mpr ⟨List.mem_append_left _ (List.mem_of_getElem? (i := 22) rfl), rfl⟩
theorem wT_yX2_canMake : Cond.selects yX2_canMake.cls yX2_canMake yX2_canMake ∈ xW := List.mem_filter.mpr ⟨List.mem_append_left _ (List.mem_of_getElem? (i := 23) rfl), rfl⟩
theorem wT_yX2_is : Cond.selects yX2_is.cls yX2_is yX2_is ∈ xW := List.mem_filter.mpr ⟨List.mem_append_left _ (List.mem_of_getElem? (i := 24) rfl), rfl⟩
theorem wT_yX2_shows : Cond.selects yX2_shows.cls yX2_shows yX2_shows ∈ xW := List.mem_filter.mpr ⟨List.mem_append_left _ (List.mem_of_getElem? (i := 25) rfl), rfl⟩
theorem wT_yX2_learn : Cond.selects yX2_learn.cls yX2_learn yX2_learn ∈ xW := List.mem_filter.mpr ⟨List.mem_append_left _ (List.mem_of_getElem? (i := 26) rfl), rfl⟩
theorem wT_yX2_open : Cond.selects yX2_open.cls yX2_open yX2_open ∈ xW := List.mem_filter.mpr ⟨List.mem_append_left _ (List.mem_of_getElem? (i := 27) rfl), rfl⟩
theorem wT_yX2_isGood : Cond.selects yX2_isGood.cls yX2_isGood yX2_isGood ∈ xW := List.mem_filter.mpr ⟨List.mem_append_left _ (List.mem_of_getElem? (i := 28) rfl), rfl⟩
theorem wT_yX2_isBare : Cond.selects yX2_isBare.cls yX2_isBare yX2_isBare ∈ xW := List.mem_filter.mpr ⟨List.mem_append_left _ (List.mem_of_getElem? (i := 29) rfl), rfl⟩
theorem wT_yX2_isFace : Cond.selects yX2_isFace.cls yX2_isFace yX2_isFace ∈ xW := List.mem_filter.mpr ⟨List.mem_append_left _ (List.mem_of_getElem? (i := 30) rfl), rfl⟩
theorem wiX0 : ∀ w ∈ wsX00, w ∈ xW := by decide +kernel
theorem wiX1 : ∀ w ∈ wsX10, w ∈ xW := by decide +kernel
theorem wiX2 : ∀ w ∈ wsX20, w ∈ xW := by decide +kernel
