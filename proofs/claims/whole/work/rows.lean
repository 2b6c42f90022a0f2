section
-- ===== PART A: goes FIRST, ahead of the names: the tables' words, and 'selects' of the private methods out of them =====
/-- a private method of a class that the tables say can be made, by its rows of tables_1 -/
def lw_okq (q : MethodName × Nat) : Prop := (q.1.cls ≠ "java/lang/invoke/MethodHandle" ∧ q.1.cls ≠ "java/lang/invoke/VarHandle") ∧ Cond.instantiable q.1.cls q.2 ∈ tables_1 ∧ Cond.privateMethod q.1 ∈ tables_1 ∧ Cond.instanceMethod q.1 ∈ tables_1
theorem lw_p0 : lw_okq (⟨"TermSpread", "plainTerm", "(IILTermSpread$Term;LTermSpread$Term;LTermSpread$Term;)LTermSpread$Term;"⟩, 5) := ⟨⟨by decide +kernel, by decide +kernel⟩, List.mem_of_getElem? (i := 6) (by decide +kernel), List.mem_of_getElem? (i := 37) (by decide +kernel), List.mem_of_getElem? (i := 38) (by decide +kernel)⟩
theorem lw_p1 : lw_okq (⟨"TermSpread", "makeInto", "(ILTermSpread$Term;)I"⟩, 5) := ⟨⟨by decide +kernel, by decide +kernel⟩, List.mem_of_getElem? (i := 6) (by decide +kernel), List.mem_of_getElem? (i := 73) (by decide +kernel), List.mem_of_getElem? (i := 74) (by decide +kernel)⟩
theorem lw_p2 : lw_okq (⟨"TermSpread", "findLike", "(LTermSpread$Term;)LTermSpread$Term;"⟩, 5) := ⟨⟨by decide +kernel, by decide +kernel⟩, List.mem_of_getElem? (i := 6) (by decide +kernel), List.mem_of_getElem? (i := 80) (by decide +kernel), List.mem_of_getElem? (i := 81) (by decide +kernel)⟩
theorem lw_p3 : lw_okq (⟨"TermSpread", "keep", "(LTermSpread$Term;)LTermSpread$Term;"⟩, 5) := ⟨⟨by decide +kernel, by decide +kernel⟩, List.mem_of_getElem? (i := 6) (by decide +kernel), List.mem_of_getElem? (i := 96) (by decide +kernel), List.mem_of_getElem? (i := 97) (by decide +kernel)⟩
theorem lw_p4 : lw_okq (⟨"TermSpread", "derive", "(LTermSpread$Term;)V"⟩, 5) := ⟨⟨by decide +kernel, by decide +kernel⟩, List.mem_of_getElem? (i := 6) (by decide +kernel), List.mem_of_getElem? (i := 111) (by decide +kernel), List.mem_of_getElem? (i := 112) (by decide +kernel)⟩
theorem lw_p5 : lw_okq (⟨"TermSpread", "putInto", "(ILTermSpread$Term;)I"⟩, 5) := ⟨⟨by decide +kernel, by decide +kernel⟩, List.mem_of_getElem? (i := 6) (by decide +kernel), List.mem_of_getElem? (i := 116) (by decide +kernel), List.mem_of_getElem? (i := 117) (by decide +kernel)⟩
theorem lw_p6 : lw_okq (⟨"TermSpread", "termOfSort", "(II)LTermSpread$Term;"⟩, 5) := ⟨⟨by decide +kernel, by decide +kernel⟩, List.mem_of_getElem? (i := 6) (by decide +kernel), List.mem_of_getElem? (i := 124) (by decide +kernel), List.mem_of_getElem? (i := 125) (by decide +kernel)⟩
theorem lw_p7 : lw_okq (⟨"TermSpread", "termIn", "(I)LTermSpread$Term;"⟩, 5) := ⟨⟨by decide +kernel, by decide +kernel⟩, List.mem_of_getElem? (i := 6) (by decide +kernel), List.mem_of_getElem? (i := 128) (by decide +kernel), List.mem_of_getElem? (i := 129) (by decide +kernel)⟩
theorem lw_p8 : lw_okq (⟨"TermSpread", "makeSharedInto", "(ILTermSpread$Term;LTermSpread$Term;)I"⟩, 5) := ⟨⟨by decide +kernel, by decide +kernel⟩, List.mem_of_getElem? (i := 6) (by decide +kernel), List.mem_of_getElem? (i := 136) (by decide +kernel), List.mem_of_getElem? (i := 137) (by decide +kernel)⟩
theorem lw_p9 : lw_okq (⟨"TermSpread", "isTermOrNothing", "(I)Z"⟩, 5) := ⟨⟨by decide +kernel, by decide +kernel⟩, List.mem_of_getElem? (i := 6) (by decide +kernel), List.mem_of_getElem? (i := 148) (by decide +kernel), List.mem_of_getElem? (i := 149) (by decide +kernel)⟩
theorem lw_p10 : lw_okq (⟨"TermSpread", "spread", "()V"⟩, 5) := ⟨⟨by decide +kernel, by decide +kernel⟩, List.mem_of_getElem? (i := 6) (by decide +kernel), List.mem_of_getElem? (i := 204) (by decide +kernel), List.mem_of_getElem? (i := 205) (by decide +kernel)⟩
theorem lw_p11 : lw_okq (⟨"TermSpread", "takeAllApart", "()V"⟩, 5) := ⟨⟨by decide +kernel, by decide +kernel⟩, List.mem_of_getElem? (i := 6) (by decide +kernel), List.mem_of_getElem? (i := 208) (by decide +kernel), List.mem_of_getElem? (i := 209) (by decide +kernel)⟩
theorem lw_p12 : lw_okq (⟨"TermSpread", "takeApart", "(LTermSpread$Term;)V"⟩, 5) := ⟨⟨by decide +kernel, by decide +kernel⟩, List.mem_of_getElem? (i := 6) (by decide +kernel), List.mem_of_getElem? (i := 215) (by decide +kernel), List.mem_of_getElem? (i := 216) (by decide +kernel)⟩
theorem lw_p13 : lw_okq (⟨"TermSpread", "putAllTogether", "()V"⟩, 5) := ⟨⟨by decide +kernel, by decide +kernel⟩, List.mem_of_getElem? (i := 6) (by decide +kernel), List.mem_of_getElem? (i := 220) (by decide +kernel), List.mem_of_getElem? (i := 221) (by decide +kernel)⟩
theorem lw_p14 : lw_okq (⟨"TermSpreadModel", "put", "(IIIII)I"⟩, 11) := ⟨⟨by decide +kernel, by decide +kernel⟩, List.mem_of_getElem? (i := 263) (by decide +kernel), List.mem_of_getElem? (i := 311) (by decide +kernel), List.mem_of_getElem? (i := 312) (by decide +kernel)⟩
theorem lw_p15 : lw_okq (⟨"TermSpreadModel", "isLike", "(IIIII)Z"⟩, 11) := ⟨⟨by decide +kernel, by decide +kernel⟩, List.mem_of_getElem? (i := 263) (by decide +kernel), List.mem_of_getElem? (i := 315) (by decide +kernel), List.mem_of_getElem? (i := 316) (by decide +kernel)⟩
def lw_privs_1 : List (MethodName × Nat) := [(⟨"TermSpread", "plainTerm", "(IILTermSpread$Term;LTermSpread$Term;LTermSpread$Term;)LTermSpread$Term;"⟩, 5), (⟨"TermSpread", "makeInto", "(ILTermSpread$Term;)I"⟩, 5), (⟨"TermSpread", "findLike", "(LTermSpread$Term;)LTermSpread$Term;"⟩, 5), (⟨"TermSpread", "keep", "(LTermSpread$Term;)LTermSpread$Term;"⟩, 5), (⟨"TermSpread", "derive", "(LTermSpread$Term;)V"⟩, 5), (⟨"TermSpread", "putInto", "(ILTermSpread$Term;)I"⟩, 5), (⟨"TermSpread", "termOfSort", "(II)LTermSpread$Term;"⟩, 5), (⟨"TermSpread", "termIn", "(I)LTermSpread$Term;"⟩, 5), (⟨"TermSpread", "makeSharedInto", "(ILTermSpread$Term;LTermSpread$Term;)I"⟩, 5), (⟨"TermSpread", "isTermOrNothing", "(I)Z"⟩, 5), (⟨"TermSpread", "spread", "()V"⟩, 5), (⟨"TermSpread", "takeAllApart", "()V"⟩, 5), (⟨"TermSpread", "takeApart", "(LTermSpread$Term;)V"⟩, 5), (⟨"TermSpread", "putAllTogether", "()V"⟩, 5), (⟨"TermSpreadModel", "put", "(IIIII)I"⟩, 11), (⟨"TermSpreadModel", "isLike", "(IIIII)Z"⟩, 11)]
theorem lw_r1 : ∀ q ∈ lw_privs_1, lw_okq q := List.forall_mem_cons.mpr ⟨lw_p0, List.forall_mem_cons.mpr ⟨lw_p1, List.forall_mem_cons.mpr ⟨lw_p2, List.forall_mem_cons.mpr ⟨lw_p3, List.forall_mem_cons.mpr ⟨lw_p4, List.forall_mem_cons.mpr ⟨lw_p5, List.forall_mem_cons.mpr ⟨lw_p6, List.forall_mem_cons.mpr ⟨lw_p7, List.forall_mem_cons.mpr ⟨lw_p8, List.forall_mem_cons.mpr ⟨lw_p9, List.forall_mem_cons.mpr ⟨lw_p10, List.forall_mem_cons.mpr ⟨lw_p11, List.forall_mem_cons.mpr ⟨lw_p12, List.forall_mem_cons.mpr ⟨lw_p13, List.forall_mem_cons.mpr ⟨lw_p14, List.forall_mem_cons.mpr ⟨lw_p15, fun _ h => absurd h List.not_mem_nil⟩⟩⟩⟩⟩⟩⟩⟩⟩⟩⟩⟩⟩⟩⟩⟩
theorem lw_p16 : lw_okq (⟨"TermSpreadModel", "has", "(II)Z"⟩, 11) := ⟨⟨by decide +kernel, by decide +kernel⟩, List.mem_of_getElem? (i := 263) (by decide +kernel), List.mem_of_getElem? (i := 323) (by decide +kernel), List.mem_of_getElem? (i := 324) (by decide +kernel)⟩
theorem lw_p17 : lw_okq (⟨"TermSpreadModel", "holds", "(I)Z"⟩, 11) := ⟨⟨by decide +kernel, by decide +kernel⟩, List.mem_of_getElem? (i := 263) (by decide +kernel), List.mem_of_getElem? (i := 327) (by decide +kernel), List.mem_of_getElem? (i := 328) (by decide +kernel)⟩
theorem lw_p18 : lw_okq (⟨"TermSpreadModel", "share", "(III)I"⟩, 11) := ⟨⟨by decide +kernel, by decide +kernel⟩, List.mem_of_getElem? (i := 263) (by decide +kernel), List.mem_of_getElem? (i := 335) (by decide +kernel), List.mem_of_getElem? (i := 336) (by decide +kernel)⟩
theorem lw_p19 : lw_okq (⟨"TermSpreadModel", "copy", "(I)V"⟩, 11) := ⟨⟨by decide +kernel, by decide +kernel⟩, List.mem_of_getElem? (i := 263) (by decide +kernel), List.mem_of_getElem? (i := 363) (by decide +kernel), List.mem_of_getElem? (i := 364) (by decide +kernel)⟩
theorem lw_p20 : lw_okq (⟨"TermSpreadModel", "partOf", "(II)I"⟩, 11) := ⟨⟨by decide +kernel, by decide +kernel⟩, List.mem_of_getElem? (i := 263) (by decide +kernel), List.mem_of_getElem? (i := 375) (by decide +kernel), List.mem_of_getElem? (i := 376) (by decide +kernel)⟩
theorem lw_p21 : lw_okq (⟨"TermSpreadModel", "derivedNow", "()I"⟩, 11) := ⟨⟨by decide +kernel, by decide +kernel⟩, List.mem_of_getElem? (i := 263) (by decide +kernel), List.mem_of_getElem? (i := 383) (by decide +kernel), List.mem_of_getElem? (i := 384) (by decide +kernel)⟩
theorem lw_p22 : lw_okq (⟨"TermSpreadModel", "derive", "()V"⟩, 11) := ⟨⟨by decide +kernel, by decide +kernel⟩, List.mem_of_getElem? (i := 263) (by decide +kernel), List.mem_of_getElem? (i := 387) (by decide +kernel), List.mem_of_getElem? (i := 388) (by decide +kernel)⟩
theorem lw_p23 : lw_okq (⟨"TermSpreadModel", "canMake", "(I)Z"⟩, 11) := ⟨⟨by decide +kernel, by decide +kernel⟩, List.mem_of_getElem? (i := 263) (by decide +kernel), List.mem_of_getElem? (i := 391) (by decide +kernel), List.mem_of_getElem? (i := 392) (by decide +kernel)⟩
theorem lw_p24 : lw_okq (⟨"TermSpreadModel", "is", "(I)Z"⟩, 11) := ⟨⟨by decide +kernel, by decide +kernel⟩, List.mem_of_getElem? (i := 263) (by decide +kernel), List.mem_of_getElem? (i := 395) (by decide +kernel), List.mem_of_getElem? (i := 396) (by decide +kernel)⟩
theorem lw_p25 : lw_okq (⟨"TermSpreadModel", "shows", "(I)Z"⟩, 11) := ⟨⟨by decide +kernel, by decide +kernel⟩, List.mem_of_getElem? (i := 263) (by decide +kernel), List.mem_of_getElem? (i := 399) (by decide +kernel), List.mem_of_getElem? (i := 400) (by decide +kernel)⟩
theorem lw_p26 : lw_okq (⟨"TermSpreadModel", "learn", "(I)Z"⟩, 11) := ⟨⟨by decide +kernel, by decide +kernel⟩, List.mem_of_getElem? (i := 263) (by decide +kernel), List.mem_of_getElem? (i := 403) (by decide +kernel), List.mem_of_getElem? (i := 404) (by decide +kernel)⟩
theorem lw_p27 : lw_okq (⟨"TermSpreadModel", "open", "(I)Z"⟩, 11) := ⟨⟨by decide +kernel, by decide +kernel⟩, List.mem_of_getElem? (i := 263) (by decide +kernel), List.mem_of_getElem? (i := 407) (by decide +kernel), List.mem_of_getElem? (i := 408) (by decide +kernel)⟩
theorem lw_p28 : lw_okq (⟨"TermSpreadModel", "isGood", "(I)Z"⟩, 11) := ⟨⟨by decide +kernel, by decide +kernel⟩, List.mem_of_getElem? (i := 263) (by decide +kernel), List.mem_of_getElem? (i := 423) (by decide +kernel), List.mem_of_getElem? (i := 424) (by decide +kernel)⟩
theorem lw_p29 : lw_okq (⟨"TermSpreadModel", "isBare", "(III)Z"⟩, 11) := ⟨⟨by decide +kernel, by decide +kernel⟩, List.mem_of_getElem? (i := 263) (by decide +kernel), List.mem_of_getElem? (i := 430) (by decide +kernel), List.mem_of_getElem? (i := 431) (by decide +kernel)⟩
theorem lw_p30 : lw_okq (⟨"TermSpreadModel", "isFace", "(I)Z"⟩, 11) := ⟨⟨by decide +kernel, by decide +kernel⟩, List.mem_of_getElem? (i := 263) (by decide +kernel), List.mem_of_getElem? (i := 434) (by decide +kernel), List.mem_of_getElem? (i := 435) (by decide +kernel)⟩
def lw_privs_2 : List (MethodName × Nat) := [(⟨"TermSpreadModel", "has", "(II)Z"⟩, 11), (⟨"TermSpreadModel", "holds", "(I)Z"⟩, 11), (⟨"TermSpreadModel", "share", "(III)I"⟩, 11), (⟨"TermSpreadModel", "copy", "(I)V"⟩, 11), (⟨"TermSpreadModel", "partOf", "(II)I"⟩, 11), (⟨"TermSpreadModel", "derivedNow", "()I"⟩, 11), (⟨"TermSpreadModel", "derive", "()V"⟩, 11), (⟨"TermSpreadModel", "canMake", "(I)Z"⟩, 11), (⟨"TermSpreadModel", "is", "(I)Z"⟩, 11), (⟨"TermSpreadModel", "shows", "(I)Z"⟩, 11), (⟨"TermSpreadModel", "learn", "(I)Z"⟩, 11), (⟨"TermSpreadModel", "open", "(I)Z"⟩, 11), (⟨"TermSpreadModel", "isGood", "(I)Z"⟩, 11), (⟨"TermSpreadModel", "isBare", "(III)Z"⟩, 11), (⟨"TermSpreadModel", "isFace", "(I)Z"⟩, 11)]
theorem lw_r2 : ∀ q ∈ lw_privs_2, lw_okq q := List.forall_mem_cons.mpr ⟨lw_p16, List.forall_mem_cons.mpr ⟨lw_p17, List.forall_mem_cons.mpr ⟨lw_p18, List.forall_mem_cons.mpr ⟨lw_p19, List.forall_mem_cons.mpr ⟨lw_p20, List.forall_mem_cons.mpr ⟨lw_p21, List.forall_mem_cons.mpr ⟨lw_p22, List.forall_mem_cons.mpr ⟨lw_p23, List.forall_mem_cons.mpr ⟨lw_p24, List.forall_mem_cons.mpr ⟨lw_p25, List.forall_mem_cons.mpr ⟨lw_p26, List.forall_mem_cons.mpr ⟨lw_p27, List.forall_mem_cons.mpr ⟨lw_p28, List.forall_mem_cons.mpr ⟨lw_p29, List.forall_mem_cons.mpr ⟨lw_p30, fun _ h => absurd h List.not_mem_nil⟩⟩⟩⟩⟩⟩⟩⟩⟩⟩⟩⟩⟩⟩⟩
def lw_privs : List (MethodName × Nat) := lw_privs_1 ++ (lw_privs_2)
def lw_tbl : List Cond := k2_sels lw_privs ++ tables_1
theorem lw_privs_ok : ∀ q ∈ lw_privs, lw_okq q := by
  show ∀ q ∈ lw_privs_1 ++ (lw_privs_2), lw_okq q
  exact List.forall_mem_append.mpr ⟨lw_r1, lw_r2⟩
end
section
def RX0 : String := "TermSpread$Term"
def TX0 : u_T := fun k => match k with
  | 0 => ("TermSpread$Term", "sort", "I", true)
  | 1 => ("TermSpread$Term", "label", "I", true)
  | 2 => ("TermSpread$Term", "numbers", "[I", true)
  | 3 => ("TermSpread$Term", "parts", "[LTermSpread$Term;", true)
  | 4 => ("TermSpread$Term", "place", "I", false)
  | 5 => ("TermSpread$Term", "isDerived", "Z", false)
  | _ => ("TermSpread$Term", "isFaceDerived", "Z", false)
def tyX0 : Nat → FieldType := fun k => match k with
  | 0 => .int
  | 1 => .int
  | 2 => .array .int
  | 3 => .array (.object "TermSpread$Term")
  | 4 => .int
  | 5 => .boolean
  | _ => .boolean
abbrev wsX00 : List Cond := u_ws RX0 TX0 7
theorem nmX0 : ∀ a, a < 7 → ∀ b, b < 7 → a ≠ b → (TX0 a).2.1 ≠ (TX0 b).2.1 := by decide +kernel
theorem tyX0_ok : ∀ k, k < 7 → parseFieldDescriptor (TX0 k).2.2.1 = some (tyX0 k) := by decide +kernel
abbrev cX0_init : ByteArray := prog_2_method_1_code
def yX0_init : MethodName := ⟨RX0, "<init>", "(II[I[LTermSpread$Term;)V"⟩
abbrev cX0_numberAt : ByteArray := prog_2_method_2_code
def yX0_numberAt : MethodName := ⟨RX0, "numberAt", "(I)I"⟩
abbrev cX0_partAt : ByteArray := prog_2_method_3_code
def yX0_partAt : MethodName := ⟨RX0, "partAt", "(I)LTermSpread$Term;"⟩
abbrev cX0_withLabel : ByteArray := prog_2_method_4_code
def yX0_withLabel : MethodName := ⟨RX0, "withLabel", "(I)LTermSpread$Term;"⟩
abbrev cX0_withNumber : ByteArray := prog_2_method_5_code
def yX0_withNumber : MethodName := ⟨RX0, "withNumber", "(II)LTermSpread$Term;"⟩
abbrev cX0_withPart : ByteArray := prog_2_method_6_code
def yX0_withPart : MethodName := ⟨RX0, "withPart", "(ILTermSpread$Term;)LTermSpread$Term;"⟩
abbrev cX0_isMadeLike : ByteArray := prog_2_method_7_code
def yX0_isMadeLike : MethodName := ⟨RX0, "isMadeLike", "(LTermSpread$Term;)Z"⟩
abbrev cX0_isPartIn : ByteArray := prog_2_method_8_code
def yX0_isPartIn : MethodName := ⟨RX0, "isPartIn", "(I)Z"⟩
abbrev cX0_canBeMadeByAttacker : ByteArray := prog_2_method_9_code
def yX0_canBeMadeByAttacker : MethodName := ⟨RX0, "canBeMadeByAttacker", "()Z"⟩
abbrev cX0_canAgree : ByteArray := prog_2_method_10_code
def yX0_canAgree : MethodName := ⟨RX0, "canAgree", "(LTermSpread$Term;LTermSpread$Term;)Z"⟩
def RX1 : String := "TermSpread"
def TX1 : u_T := fun k => match k with
  | 0 => ("TermSpread", "registers", "[LTermSpread$Term;", true)
  | 1 => ("TermSpread", "made", "[LTermSpread$Term;", true)
  | 2 => ("TermSpread", "madeCount", "I", false)
  | 3 => ("TermSpread", "derivedCount", "I", false)
  | _ => ("TermSpread", "zeros", "[I", true)
def tyX1 : Nat → FieldType := fun k => match k with
  | 0 => .array (.object "TermSpread$Term")
  | 1 => .array (.object "TermSpread$Term")
  | 2 => .int
  | 3 => .int
  | _ => .array .int
abbrev wsX10 : List Cond := u_ws RX1 TX1 5
theorem nmX1 : ∀ a, a < 5 → ∀ b, b < 5 → a ≠ b → (TX1 a).2.1 ≠ (TX1 b).2.1 := by decide +kernel
theorem tyX1_ok : ∀ k, k < 5 → parseFieldDescriptor (TX1 k).2.2.1 = some (tyX1 k) := by decide +kernel
abbrev cX1_init : ByteArray := prog_1_method_1_code
def yX1_init : MethodName := ⟨RX1, "<init>", "()V"⟩
abbrev cX1_secret : ByteArray := prog_1_method_2_code
def yX1_secret : MethodName := ⟨RX1, "secret", "(I)I"⟩
abbrev cX1_face : ByteArray := prog_1_method_3_code
def yX1_face : MethodName := ⟨RX1, "face", "(II)I"⟩
abbrev cX1_shared : ByteArray := prog_1_method_4_code
def yX1_shared : MethodName := ⟨RX1, "shared", "(III)I"⟩
abbrev cX1_agreed : ByteArray := prog_1_method_5_code
def yX1_agreed : MethodName := ⟨RX1, "agreed", "(III)I"⟩
abbrev cX1_mix : ByteArray := prog_1_method_6_code
def yX1_mix : MethodName := ⟨RX1, "mix", "(IIII)I"⟩
abbrev cX1_sealed : ByteArray := prog_1_method_7_code
def yX1_sealed : MethodName := ⟨RX1, "sealed", "(IIII)I"⟩
abbrev cX1_signed : ByteArray := prog_1_method_8_code
def yX1_signed : MethodName := ⟨RX1, "signed", "(III)I"⟩
abbrev cX1_row : ByteArray := prog_1_method_9_code
def yX1_row : MethodName := ⟨RX1, "row", "(II)I"⟩
abbrev cX1_alter : ByteArray := prog_1_method_10_code
def yX1_alter : MethodName := ⟨RX1, "alter", "(IIII)I"⟩
abbrev cX1_swap : ByteArray := prog_1_method_11_code
def yX1_swap : MethodName := ⟨RX1, "swap", "(IIII)I"⟩
abbrev cX1_part : ByteArray := prog_1_method_12_code
def yX1_part : MethodName := ⟨RX1, "part", "(III)I"⟩
abbrev cX1_give : ByteArray := prog_1_method_13_code
def yX1_give : MethodName := ⟨RX1, "give", "(I)I"⟩
abbrev cX1_derived : ByteArray := prog_1_method_14_code
def yX1_derived : MethodName := ⟨RX1, "derived", "(I)I"⟩
abbrev cX1_same : ByteArray := prog_1_method_15_code
def yX1_same : MethodName := ⟨RX1, "same", "(II)I"⟩
abbrev cX1_good : ByteArray := prog_1_method_16_code
def yX1_good : MethodName := ⟨RX1, "good", "(I)I"⟩
abbrev cX1_about : ByteArray := prog_1_method_17_code
def yX1_about : MethodName := ⟨RX1, "about", "(II)I"⟩
abbrev cX1_count : ByteArray := prog_1_method_18_code
def yX1_count : MethodName := ⟨RX1, "count", "(I)I"⟩
abbrev cX1_isRegister : ByteArray := prog_1_method_19_code
def yX1_isRegister : MethodName := ⟨RX1, "isRegister", "(I)Z"⟩
abbrev cX1_isSlot : ByteArray := prog_1_method_20_code
def yX1_isSlot : MethodName := ⟨RX1, "isSlot", "(I)Z"⟩
abbrev cX1_isKind : ByteArray := prog_1_method_21_code
def yX1_isKind : MethodName := ⟨RX1, "isKind", "(I)Z"⟩
abbrev cX1_termIn : ByteArray := prog_1_method_22_code
def yX1_termIn : MethodName := ⟨RX1, "termIn", "(I)LTermSpread$Term;"⟩
abbrev cX1_termOfSort : ByteArray := prog_1_method_23_code
def yX1_termOfSort : MethodName := ⟨RX1, "termOfSort", "(II)LTermSpread$Term;"⟩
abbrev cX1_isTermOrNothing : ByteArray := prog_1_method_24_code
def yX1_isTermOrNothing : MethodName := ⟨RX1, "isTermOrNothing", "(I)Z"⟩
abbrev cX1_plainTerm : ByteArray := prog_1_method_25_code
def yX1_plainTerm : MethodName := ⟨RX1, "plainTerm", "(IILTermSpread$Term;LTermSpread$Term;LTermSpread$Term;)LTermSpread$Term;"⟩
abbrev cX1_makeSharedInto : ByteArray := prog_1_method_26_code
def yX1_makeSharedInto : MethodName := ⟨RX1, "makeSharedInto", "(ILTermSpread$Term;LTermSpread$Term;)I"⟩
abbrev cX1_makeInto : ByteArray := prog_1_method_27_code
def yX1_makeInto : MethodName := ⟨RX1, "makeInto", "(ILTermSpread$Term;)I"⟩
abbrev cX1_putInto : ByteArray := prog_1_method_28_code
def yX1_putInto : MethodName := ⟨RX1, "putInto", "(ILTermSpread$Term;)I"⟩
abbrev cX1_findLike : ByteArray := prog_1_method_29_code
def yX1_findLike : MethodName := ⟨RX1, "findLike", "(LTermSpread$Term;)LTermSpread$Term;"⟩
abbrev cX1_keep : ByteArray := prog_1_method_30_code
def yX1_keep : MethodName := ⟨RX1, "keep", "(LTermSpread$Term;)LTermSpread$Term;"⟩
abbrev cX1_derive : ByteArray := prog_1_method_31_code
def yX1_derive : MethodName := ⟨RX1, "derive", "(LTermSpread$Term;)V"⟩
abbrev cX1_spread : ByteArray := prog_1_method_32_code
def yX1_spread : MethodName := ⟨RX1, "spread", "()V"⟩
abbrev cX1_takeAllApart : ByteArray := prog_1_method_33_code
def yX1_takeAllApart : MethodName := ⟨RX1, "takeAllApart", "()V"⟩
abbrev cX1_putAllTogether : ByteArray := prog_1_method_34_code
def yX1_putAllTogether : MethodName := ⟨RX1, "putAllTogether", "()V"⟩
abbrev cX1_takeApart : ByteArray := prog_1_method_35_code
def yX1_takeApart : MethodName := ⟨RX1, "takeApart", "(LTermSpread$Term;)V"⟩
abbrev cX1_hasGoodNumbers : ByteArray := prog_1_method_36_code
def yX1_hasGoodNumbers : MethodName := ⟨RX1, "hasGoodNumbers", "(LTermSpread$Term;)Z"⟩
abbrev cX1_hasGoodTerms : ByteArray := prog_1_method_37_code
def yX1_hasGoodTerms : MethodName := ⟨RX1, "hasGoodTerms", "(LTermSpread$Term;)Z"⟩
abbrev cX1_placeInTable : ByteArray := prog_1_method_38_code
def yX1_placeInTable : MethodName := ⟨RX1, "placeInTable", "(II)I"⟩
abbrev cX1_fits : ByteArray := prog_1_method_39_code
def yX1_fits : MethodName := ⟨RX1, "fits", "(LTermSpread$Term;I)Z"⟩
def RX2 : String := "TermSpreadModel"
def TX2 : u_T := fun k => match k with
  | 0 => ("TermSpreadModel", "terms", "I", false)
  | 1 => ("TermSpreadModel", "sort", "[I", true)
  | 2 => ("TermSpreadModel", "one", "[I", true)
  | 3 => ("TermSpreadModel", "two", "[I", true)
  | 4 => ("TermSpreadModel", "three", "[I", true)
  | 5 => ("TermSpreadModel", "cells", "[I", true)
  | 6 => ("TermSpreadModel", "given", "[Z", true)
  | 7 => ("TermSpreadModel", "known", "[Z", true)
  | 8 => ("TermSpreadModel", "line", "[I", true)
  | 9 => ("TermSpreadModel", "register", "[I", true)
  | _ => ("TermSpreadModel", "secrets", "I", false)
def tyX2 : Nat → FieldType := fun k => match k with
  | 0 => .int
  | 1 => .array .int
  | 2 => .array .int
  | 3 => .array .int
  | 4 => .array .int
  | 5 => .array .int
  | 6 => .array .boolean
  | 7 => .array .boolean
  | 8 => .array .int
  | 9 => .array .int
  | _ => .int
abbrev wsX20 : List Cond := u_ws RX2 TX2 11
theorem nmX2 : ∀ a, a < 11 → ∀ b, b < 11 → a ≠ b → (TX2 a).2.1 ≠ (TX2 b).2.1 := by decide +kernel
theorem tyX2_ok : ∀ k, k < 11 → parseFieldDescriptor (TX2 k).2.2.1 = some (tyX2 k) := by decide +kernel
abbrev cX2_init : ByteArray := prog_4_method_1_code
def yX2_init : MethodName := ⟨RX2, "<init>", "()V"⟩
abbrev cX2_isLike : ByteArray := prog_4_method_2_code
def yX2_isLike : MethodName := ⟨RX2, "isLike", "(IIIII)Z"⟩
abbrev cX2_put : ByteArray := prog_4_method_3_code
def yX2_put : MethodName := ⟨RX2, "put", "(IIIII)I"⟩
abbrev cX2_isRegister : ByteArray := prog_4_method_4_code
def yX2_isRegister : MethodName := ⟨RX2, "isRegister", "(I)Z"⟩
abbrev cX2_holds : ByteArray := prog_4_method_5_code
def yX2_holds : MethodName := ⟨RX2, "holds", "(I)Z"⟩
abbrev cX2_has : ByteArray := prog_4_method_6_code
def yX2_has : MethodName := ⟨RX2, "has", "(II)Z"⟩
abbrev cX2_secret : ByteArray := prog_4_method_7_code
def yX2_secret : MethodName := ⟨RX2, "secret", "(I)I"⟩
abbrev cX2_face : ByteArray := prog_4_method_8_code
def yX2_face : MethodName := ⟨RX2, "face", "(II)I"⟩
abbrev cX2_share : ByteArray := prog_4_method_9_code
def yX2_share : MethodName := ⟨RX2, "share", "(III)I"⟩
abbrev cX2_shared : ByteArray := prog_4_method_10_code
def yX2_shared : MethodName := ⟨RX2, "shared", "(III)I"⟩
abbrev cX2_agreed : ByteArray := prog_4_method_11_code
def yX2_agreed : MethodName := ⟨RX2, "agreed", "(III)I"⟩
abbrev cX2_mix : ByteArray := prog_4_method_12_code
def yX2_mix : MethodName := ⟨RX2, "mix", "(IIII)I"⟩
abbrev cX2_sealed : ByteArray := prog_4_method_13_code
def yX2_sealed : MethodName := ⟨RX2, "sealed", "(IIII)I"⟩
abbrev cX2_signed : ByteArray := prog_4_method_14_code
def yX2_signed : MethodName := ⟨RX2, "signed", "(III)I"⟩
abbrev cX2_row : ByteArray := prog_4_method_15_code
def yX2_row : MethodName := ⟨RX2, "row", "(II)I"⟩
abbrev cX2_copy : ByteArray := prog_4_method_16_code
def yX2_copy : MethodName := ⟨RX2, "copy", "(I)V"⟩
abbrev cX2_alter : ByteArray := prog_4_method_17_code
def yX2_alter : MethodName := ⟨RX2, "alter", "(IIII)I"⟩
abbrev cX2_swap : ByteArray := prog_4_method_18_code
def yX2_swap : MethodName := ⟨RX2, "swap", "(IIII)I"⟩
abbrev cX2_partOf : ByteArray := prog_4_method_19_code
def yX2_partOf : MethodName := ⟨RX2, "partOf", "(II)I"⟩
abbrev cX2_part : ByteArray := prog_4_method_20_code
def yX2_part : MethodName := ⟨RX2, "part", "(III)I"⟩
abbrev cX2_is : ByteArray := prog_4_method_21_code
def yX2_is : MethodName := ⟨RX2, "is", "(I)Z"⟩
abbrev cX2_shows : ByteArray := prog_4_method_22_code
def yX2_shows : MethodName := ⟨RX2, "shows", "(I)Z"⟩
abbrev cX2_canMake : ByteArray := prog_4_method_23_code
def yX2_canMake : MethodName := ⟨RX2, "canMake", "(I)Z"⟩
abbrev cX2_learn : ByteArray := prog_4_method_24_code
def yX2_learn : MethodName := ⟨RX2, "learn", "(I)Z"⟩
abbrev cX2_open : ByteArray := prog_4_method_25_code
def yX2_open : MethodName := ⟨RX2, "open", "(I)Z"⟩
abbrev cX2_derive : ByteArray := prog_4_method_26_code
def yX2_derive : MethodName := ⟨RX2, "derive", "()V"⟩
abbrev cX2_derivedNow : ByteArray := prog_4_method_27_code
def yX2_derivedNow : MethodName := ⟨RX2, "derivedNow", "()I"⟩
abbrev cX2_give : ByteArray := prog_4_method_28_code
def yX2_give : MethodName := ⟨RX2, "give", "(I)I"⟩
abbrev cX2_derived : ByteArray := prog_4_method_29_code
def yX2_derived : MethodName := ⟨RX2, "derived", "(I)I"⟩
abbrev cX2_same : ByteArray := prog_4_method_30_code
def yX2_same : MethodName := ⟨RX2, "same", "(II)I"⟩
abbrev cX2_in : ByteArray := prog_4_method_31_code
def yX2_in : MethodName := ⟨RX2, "in", "(III)Z"⟩
abbrev cX2_isFace : ByteArray := prog_4_method_32_code
def yX2_isFace : MethodName := ⟨RX2, "isFace", "(I)Z"⟩
abbrev cX2_isBare : ByteArray := prog_4_method_33_code
def yX2_isBare : MethodName := ⟨RX2, "isBare", "(III)Z"⟩
abbrev cX2_isGood : ByteArray := prog_4_method_34_code
def yX2_isGood : MethodName := ⟨RX2, "isGood", "(I)Z"⟩
abbrev cX2_good : ByteArray := prog_4_method_35_code
def yX2_good : MethodName := ⟨RX2, "good", "(I)I"⟩
abbrev cX2_about : ByteArray := prog_4_method_36_code
def yX2_about : MethodName := ⟨RX2, "about", "(II)I"⟩
abbrev cX2_count : ByteArray := prog_4_method_37_code
def yX2_count : MethodName := ⟨RX2, "count", "(I)I"⟩
def RL : String := "TermSpreadLaw"
abbrev cL_law : ByteArray := code
def yL_law : MethodName := ⟨RL, "law", "([I)Z"⟩
abbrev vwCl : List vw_C := [(RX0, TX0, 7), (RX1, TX1, 5), (RX2, TX2, 11)]
def sg_term : String := "TermSpread$Term"
def sg_own : String := "TermSpread"
abbrev sg_ti : Nat := 0
theorem sg_ti_ok : vwCl[sg_ti]? = some (RX0, TX0, 7) := rfl
def sg_nm (k : Nat) : String := match k with
  | 0 => "PART_SORTS"
  | 1 => "PART_SLOTS"
  | 2 => "LEAST_NUMBERS"
  | 3 => "MOST_NUMBERS"
  | _ => "WANTED_TERMS"
def sg_len (k : Nat) : Nat := match k with
  | 0 => 10
  | 1 => 10
  | 2 => 28
  | 3 => 28
  | _ => 28
def sg_lst (k : Nat) : List Int32 := match k with
  | 0 => [7, 7, 7, 7, 5, 5, 5, 6, 4, 4]
  | 1 => [0, 1, 2, 3, 0, 1, 2, 1, 0, 1]
  | 2 => [0, (-2147483648), 0, 0, 0, (-2147483648), 0, 0, 0, 0, 0, 0, 0, 0, 0, 0, 0, 1, 0, 0, 0, 1, 0, 0, 0, 0, 1, 0]
  | 3 => [5, 2147483647, 0, 0, 5, 2147483647, 0, 0, 5, 5, 9999, 9999, 0, 0, 0, 0, 3, 2147483647, 9999, 0, 3, 2147483647, 63, 0, 3, 5, 2147483647, 9999]
  | _ => [2, 0, 0, 0, 2, 0, 0, 0, 2, 2, 3, 3, 1, 0, 0, 0, 1, 2, 0, 0, 0, 0, 0, 0, 0, 0, 0, 0]
def sg_tab (k j : Nat) : Int32 := (sg_lst k).getD j 0
end
section
theorem dX0_init_0 : decode cX0_init 0 = .ok (.aload_n 0, 1) := by decide +kernel
theorem dX0_init_1 : decode cX0_init 1 = .ok (.invokespecial 3, 3) := by decide +kernel
theorem dX0_init_4 : decode cX0_init 4 = .ok (.aload_n 0, 1) := by decide +kernel
theorem dX0_init_5 : decode cX0_init 5 = .ok (.iload_n 1, 1) := by decide +kernel
theorem dX0_init_6 : decode cX0_init 6 = .ok (.putfield 9, 3) := by decide +kernel
theorem dX0_init_9 : decode cX0_init 9 = .ok (.aload_n 0, 1) := by decide +kernel
theorem dX0_init_10 : decode cX0_init 10 = .ok (.iload_n 2, 1) := by decide +kernel
theorem dX0_init_11 : decode cX0_init 11 = .ok (.putfield 15, 3) := by decide +kernel
theorem dX0_init_14 : decode cX0_init 14 = .ok (.aload_n 0, 1) := by decide +kernel
theorem dX0_init_15 : decode cX0_init 15 = .ok (.aload_n 3, 1) := by decide +kernel
theorem dX0_init_16 : decode cX0_init 16 = .ok (.putfield 18, 3) := by decide +kernel
theorem dX0_init_19 : decode cX0_init 19 = .ok (.aload_n 0, 1) := by decide +kernel
theorem dX0_init_20 : decode cX0_init 20 = .ok (.aload 4, 2) := by decide +kernel
theorem dX0_init_22 : decode cX0_init 22 = .ok (.putfield 22, 3) := by decide +kernel
theorem dX0_init_25 : decode cX0_init 25 = .ok (.aload_n 0, 1) := by decide +kernel
theorem dX0_init_26 : decode cX0_init 26 = .ok (.iconst 0, 1) := by decide +kernel
theorem dX0_init_27 : decode cX0_init 27 = .ok (.putfield 26, 3) := by decide +kernel
theorem dX0_init_30 : decode cX0_init 30 = .ok (.aload_n 0, 1) := by decide +kernel
theorem dX0_init_31 : decode cX0_init 31 = .ok (.iconst 0, 1) := by decide +kernel
theorem dX0_init_32 : decode cX0_init 32 = .ok (.putfield 29, 3) := by decide +kernel
theorem dX0_init_35 : decode cX0_init 35 = .ok (.aload_n 0, 1) := by decide +kernel
theorem dX0_init_36 : decode cX0_init 36 = .ok (.iconst 0, 1) := by decide +kernel
theorem dX0_init_37 : decode cX0_init 37 = .ok (.putfield 33, 3) := by decide +kernel
theorem dX0_init_40 : decode cX0_init 40 = .ok (.return_, 1) := by decide +kernel
theorem dX0_numberAt_0 : decode cX0_numberAt 0 = .ok (.iload_n 1, 1) := by decide +kernel
theorem dX0_numberAt_1 : decode cX0_numberAt 1 = .ok (.ifCond .lt 21, 3) := by decide +kernel
theorem dX0_numberAt_4 : decode cX0_numberAt 4 = .ok (.iload_n 1, 1) := by decide +kernel
theorem dX0_numberAt_5 : decode cX0_numberAt 5 = .ok (.aload_n 0, 1) := by decide +kernel
theorem dX0_numberAt_6 : decode cX0_numberAt 6 = .ok (.getfield 18, 3) := by decide +kernel
theorem dX0_numberAt_9 : decode cX0_numberAt 9 = .ok (.arraylength, 1) := by decide +kernel
theorem dX0_numberAt_10 : decode cX0_numberAt 10 = .ok (.if_icmp .ge 12, 3) := by decide +kernel
theorem dX0_numberAt_13 : decode cX0_numberAt 13 = .ok (.aload_n 0, 1) := by decide +kernel
theorem dX0_numberAt_14 : decode cX0_numberAt 14 = .ok (.getfield 18, 3) := by decide +kernel
theorem dX0_numberAt_17 : decode cX0_numberAt 17 = .ok (.iload_n 1, 1) := by decide +kernel
theorem dX0_numberAt_18 : decode cX0_numberAt 18 = .ok (.iaload, 1) := by decide +kernel
theorem dX0_numberAt_19 : decode cX0_numberAt 19 = .ok (.goto 4, 3) := by decide +kernel
theorem dX0_numberAt_22 : decode cX0_numberAt 22 = .ok (.iconst 0, 1) := by decide +kernel
theorem dX0_numberAt_23 : decode cX0_numberAt 23 = .ok (.ireturn, 1) := by decide +kernel
theorem dX0_partAt_0 : decode cX0_partAt 0 = .ok (.iload_n 1, 1) := by decide +kernel
theorem dX0_partAt_1 : decode cX0_partAt 1 = .ok (.ifCond .lt 21, 3) := by decide +kernel
theorem dX0_partAt_4 : decode cX0_partAt 4 = .ok (.iload_n 1, 1) := by decide +kernel
theorem dX0_partAt_5 : decode cX0_partAt 5 = .ok (.aload_n 0, 1) := by decide +kernel
theorem dX0_partAt_6 : decode cX0_partAt 6 = .ok (.getfield 22, 3) := by decide +kernel
theorem dX0_partAt_9 : decode cX0_partAt 9 = .ok (.arraylength, 1) := by decide +kernel
theorem dX0_partAt_10 : decode cX0_partAt 10 = .ok (.if_icmp .ge 12, 3) := by decide +kernel
theorem dX0_partAt_13 : decode cX0_partAt 13 = .ok (.aload_n 0, 1) := by decide +kernel
theorem dX0_partAt_14 : decode cX0_partAt 14 = .ok (.getfield 22, 3) := by decide +kernel
theorem dX0_partAt_17 : decode cX0_partAt 17 = .ok (.iload_n 1, 1) := by decide +kernel
theorem dX0_partAt_18 : decode cX0_partAt 18 = .ok (.aaload, 1) := by decide +kernel
theorem dX0_partAt_19 : decode cX0_partAt 19 = .ok (.goto 4, 3) := by decide +kernel
theorem dX0_partAt_22 : decode cX0_partAt 22 = .ok (.aconst_null, 1) := by decide +kernel
theorem dX0_partAt_23 : decode cX0_partAt 23 = .ok (.areturn, 1) := by decide +kernel
theorem dX0_withLabel_0 : decode cX0_withLabel 0 = .ok (.new 10, 3) := by decide +kernel
theorem dX0_withLabel_3 : decode cX0_withLabel 3 = .ok (.dup, 1) := by decide +kernel
theorem dX0_withLabel_4 : decode cX0_withLabel 4 = .ok (.aload_n 0, 1) := by decide +kernel
theorem dX0_withLabel_5 : decode cX0_withLabel 5 = .ok (.getfield 9, 3) := by decide +kernel
theorem dX0_withLabel_8 : decode cX0_withLabel 8 = .ok (.iload_n 1, 1) := by decide +kernel
theorem dX0_withLabel_9 : decode cX0_withLabel 9 = .ok (.aload_n 0, 1) := by decide +kernel
theorem dX0_withLabel_10 : decode cX0_withLabel 10 = .ok (.getfield 18, 3) := by decide +kernel
theorem dX0_withLabel_13 : decode cX0_withLabel 13 = .ok (.aload_n 0, 1) := by decide +kernel
theorem dX0_withLabel_14 : decode cX0_withLabel 14 = .ok (.getfield 22, 3) := by decide +kernel
theorem dX0_withLabel_17 : decode cX0_withLabel 17 = .ok (.invokespecial 36, 3) := by decide +kernel
theorem dX0_withLabel_20 : decode cX0_withLabel 20 = .ok (.areturn, 1) := by decide +kernel
theorem dX0_withNumber_0 : decode cX0_withNumber 0 = .ok (.iconst 4, 1) := by decide +kernel
theorem dX0_withNumber_1 : decode cX0_withNumber 1 = .ok (.newarray .int, 2) := by decide +kernel
theorem dX0_withNumber_3 : decode cX0_withNumber 3 = .ok (.astore_n 3, 1) := by decide +kernel
theorem dX0_withNumber_4 : decode cX0_withNumber 4 = .ok (.iconst 0, 1) := by decide +kernel
theorem dX0_withNumber_5 : decode cX0_withNumber 5 = .ok (.istore 4, 2) := by decide +kernel
theorem dX0_withNumber_7 : decode cX0_withNumber 7 = .ok (.iload 4, 2) := by decide +kernel
theorem dX0_withNumber_9 : decode cX0_withNumber 9 = .ok (.iconst 4, 1) := by decide +kernel
theorem dX0_withNumber_10 : decode cX0_withNumber 10 = .ok (.if_icmp .ge 29, 3) := by decide +kernel
theorem dX0_withNumber_13 : decode cX0_withNumber 13 = .ok (.aload_n 3, 1) := by decide +kernel
theorem dX0_withNumber_14 : decode cX0_withNumber 14 = .ok (.iload 4, 2) := by decide +kernel
theorem dX0_withNumber_16 : decode cX0_withNumber 16 = .ok (.iload 4, 2) := by decide +kernel
theorem dX0_withNumber_18 : decode cX0_withNumber 18 = .ok (.iload_n 1, 1) := by decide +kernel
theorem dX0_withNumber_19 : decode cX0_withNumber 19 = .ok (.if_icmp .ne 7, 3) := by decide +kernel
theorem dX0_withNumber_22 : decode cX0_withNumber 22 = .ok (.iload_n 2, 1) := by decide +kernel
theorem dX0_withNumber_23 : decode cX0_withNumber 23 = .ok (.goto 9, 3) := by decide +kernel
theorem dX0_withNumber_26 : decode cX0_withNumber 26 = .ok (.aload_n 0, 1) := by decide +kernel
theorem dX0_withNumber_27 : decode cX0_withNumber 27 = .ok (.iload 4, 2) := by decide +kernel
theorem dX0_withNumber_29 : decode cX0_withNumber 29 = .ok (.invokevirtual 39, 3) := by decide +kernel
theorem dX0_withNumber_32 : decode cX0_withNumber 32 = .ok (.iastore, 1) := by decide +kernel
theorem dX0_withNumber_33 : decode cX0_withNumber 33 = .ok (.iinc 4 1, 3) := by decide +kernel
theorem dX0_withNumber_36 : decode cX0_withNumber 36 = .ok (.goto (-29), 3) := by decide +kernel
theorem dX0_withNumber_39 : decode cX0_withNumber 39 = .ok (.new 10, 3) := by decide +kernel
theorem dX0_withNumber_42 : decode cX0_withNumber 42 = .ok (.dup, 1) := by decide +kernel
theorem dX0_withNumber_43 : decode cX0_withNumber 43 = .ok (.aload_n 0, 1) := by decide +kernel
theorem dX0_withNumber_44 : decode cX0_withNumber 44 = .ok (.getfield 9, 3) := by decide +kernel
theorem dX0_withNumber_47 : decode cX0_withNumber 47 = .ok (.aload_n 0, 1) := by decide +kernel
theorem dX0_withNumber_48 : decode cX0_withNumber 48 = .ok (.getfield 15, 3) := by decide +kernel
theorem dX0_withNumber_51 : decode cX0_withNumber 51 = .ok (.aload_n 3, 1) := by decide +kernel
theorem dX0_withNumber_52 : decode cX0_withNumber 52 = .ok (.aload_n 0, 1) := by decide +kernel
theorem dX0_withNumber_53 : decode cX0_withNumber 53 = .ok (.getfield 22, 3) := by decide +kernel
theorem dX0_withNumber_56 : decode cX0_withNumber 56 = .ok (.invokespecial 36, 3) := by decide +kernel
theorem dX0_withNumber_59 : decode cX0_withNumber 59 = .ok (.areturn, 1) := by decide +kernel
theorem dX0_withPart_0 : decode cX0_withPart 0 = .ok (.iconst 4, 1) := by decide +kernel
theorem dX0_withPart_1 : decode cX0_withPart 1 = .ok (.anewarray 10, 3) := by decide +kernel
theorem dX0_withPart_4 : decode cX0_withPart 4 = .ok (.astore_n 3, 1) := by decide +kernel
theorem dX0_withPart_5 : decode cX0_withPart 5 = .ok (.iconst 0, 1) := by decide +kernel
theorem dX0_withPart_6 : decode cX0_withPart 6 = .ok (.istore 4, 2) := by decide +kernel
theorem dX0_withPart_8 : decode cX0_withPart 8 = .ok (.iload 4, 2) := by decide +kernel
theorem dX0_withPart_10 : decode cX0_withPart 10 = .ok (.iconst 4, 1) := by decide +kernel
theorem dX0_withPart_11 : decode cX0_withPart 11 = .ok (.if_icmp .ge 29, 3) := by decide +kernel
theorem dX0_withPart_14 : decode cX0_withPart 14 = .ok (.aload_n 3, 1) := by decide +kernel
theorem dX0_withPart_15 : decode cX0_withPart 15 = .ok (.iload 4, 2) := by decide +kernel
theorem dX0_withPart_17 : decode cX0_withPart 17 = .ok (.iload 4, 2) := by decide +kernel
theorem dX0_withPart_19 : decode cX0_withPart 19 = .ok (.iload_n 1, 1) := by decide +kernel
theorem dX0_withPart_20 : decode cX0_withPart 20 = .ok (.if_icmp .ne 7, 3) := by decide +kernel
theorem dX0_withPart_23 : decode cX0_withPart 23 = .ok (.aload_n 2, 1) := by decide +kernel
theorem dX0_withPart_24 : decode cX0_withPart 24 = .ok (.goto 9, 3) := by decide +kernel
theorem dX0_withPart_27 : decode cX0_withPart 27 = .ok (.aload_n 0, 1) := by decide +kernel
theorem dX0_withPart_28 : decode cX0_withPart 28 = .ok (.iload 4, 2) := by decide +kernel
theorem dX0_withPart_30 : decode cX0_withPart 30 = .ok (.invokevirtual 43, 3) := by decide +kernel
theorem dX0_withPart_33 : decode cX0_withPart 33 = .ok (.aastore, 1) := by decide +kernel
theorem dX0_withPart_34 : decode cX0_withPart 34 = .ok (.iinc 4 1, 3) := by decide +kernel
theorem dX0_withPart_37 : decode cX0_withPart 37 = .ok (.goto (-29), 3) := by decide +kernel
theorem dX0_withPart_40 : decode cX0_withPart 40 = .ok (.new 10, 3) := by decide +kernel
theorem dX0_withPart_43 : decode cX0_withPart 43 = .ok (.dup, 1) := by decide +kernel
theorem dX0_withPart_44 : decode cX0_withPart 44 = .ok (.aload_n 0, 1) := by decide +kernel
theorem dX0_withPart_45 : decode cX0_withPart 45 = .ok (.getfield 9, 3) := by decide +kernel
theorem dX0_withPart_48 : decode cX0_withPart 48 = .ok (.aload_n 0, 1) := by decide +kernel
theorem dX0_withPart_49 : decode cX0_withPart 49 = .ok (.getfield 15, 3) := by decide +kernel
theorem dX0_withPart_52 : decode cX0_withPart 52 = .ok (.aload_n 0, 1) := by decide +kernel
theorem dX0_withPart_53 : decode cX0_withPart 53 = .ok (.getfield 18, 3) := by decide +kernel
theorem dX0_withPart_56 : decode cX0_withPart 56 = .ok (.aload_n 3, 1) := by decide +kernel
theorem dX0_withPart_57 : decode cX0_withPart 57 = .ok (.invokespecial 36, 3) := by decide +kernel
theorem dX0_withPart_60 : decode cX0_withPart 60 = .ok (.areturn, 1) := by decide +kernel
theorem dX0_isMadeLike_0 : decode cX0_isMadeLike 0 = .ok (.aload_n 0, 1) := by decide +kernel
theorem dX0_isMadeLike_1 : decode cX0_isMadeLike 1 = .ok (.getfield 9, 3) := by decide +kernel
theorem dX0_isMadeLike_4 : decode cX0_isMadeLike 4 = .ok (.iconst 1, 1) := by decide +kernel
theorem dX0_isMadeLike_5 : decode cX0_isMadeLike 5 = .ok (.if_icmp .eq 25, 3) := by decide +kernel
theorem dX0_isMadeLike_8 : decode cX0_isMadeLike 8 = .ok (.aload_n 0, 1) := by decide +kernel
theorem dX0_isMadeLike_9 : decode cX0_isMadeLike 9 = .ok (.getfield 9, 3) := by decide +kernel
theorem dX0_isMadeLike_12 : decode cX0_isMadeLike 12 = .ok (.aload_n 1, 1) := by decide +kernel
theorem dX0_isMadeLike_13 : decode cX0_isMadeLike 13 = .ok (.getfield 9, 3) := by decide +kernel
theorem dX0_isMadeLike_16 : decode cX0_isMadeLike 16 = .ok (.if_icmp .ne 14, 3) := by decide +kernel
theorem dX0_isMadeLike_19 : decode cX0_isMadeLike 19 = .ok (.aload_n 0, 1) := by decide +kernel
theorem dX0_isMadeLike_20 : decode cX0_isMadeLike 20 = .ok (.getfield 15, 3) := by decide +kernel
theorem dX0_isMadeLike_23 : decode cX0_isMadeLike 23 = .ok (.aload_n 1, 1) := by decide +kernel
theorem dX0_isMadeLike_24 : decode cX0_isMadeLike 24 = .ok (.getfield 15, 3) := by decide +kernel
theorem dX0_isMadeLike_27 : decode cX0_isMadeLike 27 = .ok (.if_icmp .eq 5, 3) := by decide +kernel
theorem dX0_isMadeLike_30 : decode cX0_isMadeLike 30 = .ok (.iconst 0, 1) := by decide +kernel
theorem dX0_isMadeLike_31 : decode cX0_isMadeLike 31 = .ok (.ireturn, 1) := by decide +kernel
theorem dX0_isMadeLike_32 : decode cX0_isMadeLike 32 = .ok (.iconst 0, 1) := by decide +kernel
theorem dX0_isMadeLike_33 : decode cX0_isMadeLike 33 = .ok (.istore_n 2, 1) := by decide +kernel
theorem dX0_isMadeLike_34 : decode cX0_isMadeLike 34 = .ok (.iload_n 2, 1) := by decide +kernel
theorem dX0_isMadeLike_35 : decode cX0_isMadeLike 35 = .ok (.iconst 4, 1) := by decide +kernel
theorem dX0_isMadeLike_36 : decode cX0_isMadeLike 36 = .ok (.if_icmp .ge 37, 3) := by decide +kernel
theorem dX0_isMadeLike_39 : decode cX0_isMadeLike 39 = .ok (.aload_n 0, 1) := by decide +kernel
theorem dX0_isMadeLike_40 : decode cX0_isMadeLike 40 = .ok (.iload_n 2, 1) := by decide +kernel
theorem dX0_isMadeLike_41 : decode cX0_isMadeLike 41 = .ok (.invokevirtual 43, 3) := by decide +kernel
theorem dX0_isMadeLike_44 : decode cX0_isMadeLike 44 = .ok (.aload_n 1, 1) := by decide +kernel
theorem dX0_isMadeLike_45 : decode cX0_isMadeLike 45 = .ok (.iload_n 2, 1) := by decide +kernel
theorem dX0_isMadeLike_46 : decode cX0_isMadeLike 46 = .ok (.invokevirtual 43, 3) := by decide +kernel
theorem dX0_isMadeLike_49 : decode cX0_isMadeLike 49 = .ok (.if_acmp .ne 16, 3) := by decide +kernel
theorem dX0_isMadeLike_52 : decode cX0_isMadeLike 52 = .ok (.aload_n 0, 1) := by decide +kernel
theorem dX0_isMadeLike_53 : decode cX0_isMadeLike 53 = .ok (.iload_n 2, 1) := by decide +kernel
theorem dX0_isMadeLike_54 : decode cX0_isMadeLike 54 = .ok (.invokevirtual 39, 3) := by decide +kernel
theorem dX0_isMadeLike_57 : decode cX0_isMadeLike 57 = .ok (.aload_n 1, 1) := by decide +kernel
theorem dX0_isMadeLike_58 : decode cX0_isMadeLike 58 = .ok (.iload_n 2, 1) := by decide +kernel
theorem dX0_isMadeLike_59 : decode cX0_isMadeLike 59 = .ok (.invokevirtual 39, 3) := by decide +kernel
theorem dX0_isMadeLike_62 : decode cX0_isMadeLike 62 = .ok (.if_icmp .eq 5, 3) := by decide +kernel
theorem dX0_isMadeLike_65 : decode cX0_isMadeLike 65 = .ok (.iconst 0, 1) := by decide +kernel
theorem dX0_isMadeLike_66 : decode cX0_isMadeLike 66 = .ok (.ireturn, 1) := by decide +kernel
theorem dX0_isMadeLike_67 : decode cX0_isMadeLike 67 = .ok (.iinc 2 1, 3) := by decide +kernel
theorem dX0_isMadeLike_70 : decode cX0_isMadeLike 70 = .ok (.goto (-36), 3) := by decide +kernel
theorem dX0_isMadeLike_73 : decode cX0_isMadeLike 73 = .ok (.iconst 1, 1) := by decide +kernel
theorem dX0_isMadeLike_74 : decode cX0_isMadeLike 74 = .ok (.ireturn, 1) := by decide +kernel
theorem dX0_isPartIn_0 : decode cX0_isPartIn 0 = .ok (.aload_n 0, 1) := by decide +kernel
theorem dX0_isPartIn_1 : decode cX0_isPartIn 1 = .ok (.iload_n 1, 1) := by decide +kernel
theorem dX0_isPartIn_2 : decode cX0_isPartIn 2 = .ok (.invokevirtual 43, 3) := by decide +kernel
theorem dX0_isPartIn_5 : decode cX0_isPartIn 5 = .ok (.astore_n 2, 1) := by decide +kernel
theorem dX0_isPartIn_6 : decode cX0_isPartIn 6 = .ok (.aload_n 2, 1) := by decide +kernel
theorem dX0_isPartIn_7 : decode cX0_isPartIn 7 = .ok (.ifnull 10, 3) := by decide +kernel
theorem dX0_isPartIn_10 : decode cX0_isPartIn 10 = .ok (.aload_n 2, 1) := by decide +kernel
theorem dX0_isPartIn_11 : decode cX0_isPartIn 11 = .ok (.getfield 29, 3) := by decide +kernel
theorem dX0_isPartIn_14 : decode cX0_isPartIn 14 = .ok (.ifCond .eq 7, 3) := by decide +kernel
theorem dX0_isPartIn_17 : decode cX0_isPartIn 17 = .ok (.iconst 1, 1) := by decide +kernel
theorem dX0_isPartIn_18 : decode cX0_isPartIn 18 = .ok (.goto 4, 3) := by decide +kernel
theorem dX0_isPartIn_21 : decode cX0_isPartIn 21 = .ok (.iconst 0, 1) := by decide +kernel
theorem dX0_isPartIn_22 : decode cX0_isPartIn 22 = .ok (.ireturn, 1) := by decide +kernel
theorem dX0_canBeMadeByAttacker_0 : decode cX0_canBeMadeByAttacker 0 = .ok (.aload_n 0, 1) := by decide +kernel
theorem dX0_canBeMadeByAttacker_1 : decode cX0_canBeMadeByAttacker 1 = .ok (.getfield 9, 3) := by decide +kernel
theorem dX0_canBeMadeByAttacker_4 : decode cX0_canBeMadeByAttacker 4 = .ok (.iconst 1, 1) := by decide +kernel
theorem dX0_canBeMadeByAttacker_5 : decode cX0_canBeMadeByAttacker 5 = .ok (.if_icmp .ne 5, 3) := by decide +kernel
theorem dX0_canBeMadeByAttacker_8 : decode cX0_canBeMadeByAttacker 8 = .ok (.iconst 0, 1) := by decide +kernel
theorem dX0_canBeMadeByAttacker_9 : decode cX0_canBeMadeByAttacker 9 = .ok (.ireturn, 1) := by decide +kernel
theorem dX0_canBeMadeByAttacker_10 : decode cX0_canBeMadeByAttacker 10 = .ok (.aload_n 0, 1) := by decide +kernel
theorem dX0_canBeMadeByAttacker_11 : decode cX0_canBeMadeByAttacker 11 = .ok (.getfield 9, 3) := by decide +kernel
theorem dX0_canBeMadeByAttacker_14 : decode cX0_canBeMadeByAttacker 14 = .ok (.iconst 3, 1) := by decide +kernel
theorem dX0_canBeMadeByAttacker_15 : decode cX0_canBeMadeByAttacker 15 = .ok (.if_icmp .ne 41, 3) := by decide +kernel
theorem dX0_canBeMadeByAttacker_18 : decode cX0_canBeMadeByAttacker 18 = .ok (.aload_n 0, 1) := by decide +kernel
theorem dX0_canBeMadeByAttacker_19 : decode cX0_canBeMadeByAttacker 19 = .ok (.iconst 0, 1) := by decide +kernel
theorem dX0_canBeMadeByAttacker_20 : decode cX0_canBeMadeByAttacker 20 = .ok (.invokevirtual 43, 3) := by decide +kernel
theorem dX0_canBeMadeByAttacker_23 : decode cX0_canBeMadeByAttacker 23 = .ok (.aload_n 0, 1) := by decide +kernel
theorem dX0_canBeMadeByAttacker_24 : decode cX0_canBeMadeByAttacker 24 = .ok (.iconst 1, 1) := by decide +kernel
theorem dX0_canBeMadeByAttacker_25 : decode cX0_canBeMadeByAttacker 25 = .ok (.invokevirtual 43, 3) := by decide +kernel
theorem dX0_canBeMadeByAttacker_28 : decode cX0_canBeMadeByAttacker 28 = .ok (.invokestatic 47, 3) := by decide +kernel
theorem dX0_canBeMadeByAttacker_31 : decode cX0_canBeMadeByAttacker 31 = .ok (.ifCond .ne 19, 3) := by decide +kernel
theorem dX0_canBeMadeByAttacker_34 : decode cX0_canBeMadeByAttacker 34 = .ok (.aload_n 0, 1) := by decide +kernel
theorem dX0_canBeMadeByAttacker_35 : decode cX0_canBeMadeByAttacker 35 = .ok (.iconst 1, 1) := by decide +kernel
theorem dX0_canBeMadeByAttacker_36 : decode cX0_canBeMadeByAttacker 36 = .ok (.invokevirtual 43, 3) := by decide +kernel
theorem dX0_canBeMadeByAttacker_39 : decode cX0_canBeMadeByAttacker 39 = .ok (.aload_n 0, 1) := by decide +kernel
theorem dX0_canBeMadeByAttacker_40 : decode cX0_canBeMadeByAttacker 40 = .ok (.iconst 0, 1) := by decide +kernel
theorem dX0_canBeMadeByAttacker_41 : decode cX0_canBeMadeByAttacker 41 = .ok (.invokevirtual 43, 3) := by decide +kernel
theorem dX0_canBeMadeByAttacker_44 : decode cX0_canBeMadeByAttacker 44 = .ok (.invokestatic 47, 3) := by decide +kernel
theorem dX0_canBeMadeByAttacker_47 : decode cX0_canBeMadeByAttacker 47 = .ok (.ifCond .eq 7, 3) := by decide +kernel
theorem dX0_canBeMadeByAttacker_50 : decode cX0_canBeMadeByAttacker 50 = .ok (.iconst 1, 1) := by decide +kernel
theorem dX0_canBeMadeByAttacker_51 : decode cX0_canBeMadeByAttacker 51 = .ok (.goto 4, 3) := by decide +kernel
theorem dX0_canBeMadeByAttacker_54 : decode cX0_canBeMadeByAttacker 54 = .ok (.iconst 0, 1) := by decide +kernel
theorem dX0_canBeMadeByAttacker_55 : decode cX0_canBeMadeByAttacker 55 = .ok (.ireturn, 1) := by decide +kernel
theorem dX0_canBeMadeByAttacker_56 : decode cX0_canBeMadeByAttacker 56 = .ok (.iconst 0, 1) := by decide +kernel
theorem dX0_canBeMadeByAttacker_57 : decode cX0_canBeMadeByAttacker 57 = .ok (.istore_n 1, 1) := by decide +kernel
theorem dX0_canBeMadeByAttacker_58 : decode cX0_canBeMadeByAttacker 58 = .ok (.iload_n 1, 1) := by decide +kernel
theorem dX0_canBeMadeByAttacker_59 : decode cX0_canBeMadeByAttacker 59 = .ok (.iconst 4, 1) := by decide +kernel
theorem dX0_canBeMadeByAttacker_60 : decode cX0_canBeMadeByAttacker 60 = .ok (.if_icmp .ge 19, 3) := by decide +kernel
theorem dX0_canBeMadeByAttacker_63 : decode cX0_canBeMadeByAttacker 63 = .ok (.aload_n 0, 1) := by decide +kernel
theorem dX0_canBeMadeByAttacker_64 : decode cX0_canBeMadeByAttacker 64 = .ok (.iload_n 1, 1) := by decide +kernel
theorem dX0_canBeMadeByAttacker_65 : decode cX0_canBeMadeByAttacker 65 = .ok (.invokevirtual 51, 3) := by decide +kernel
theorem dX0_canBeMadeByAttacker_68 : decode cX0_canBeMadeByAttacker 68 = .ok (.ifCond .ne 5, 3) := by decide +kernel
theorem dX0_canBeMadeByAttacker_71 : decode cX0_canBeMadeByAttacker 71 = .ok (.iconst 0, 1) := by decide +kernel
theorem dX0_canBeMadeByAttacker_72 : decode cX0_canBeMadeByAttacker 72 = .ok (.ireturn, 1) := by decide +kernel
theorem dX0_canBeMadeByAttacker_73 : decode cX0_canBeMadeByAttacker 73 = .ok (.iinc 1 1, 3) := by decide +kernel
theorem dX0_canBeMadeByAttacker_76 : decode cX0_canBeMadeByAttacker 76 = .ok (.goto (-18), 3) := by decide +kernel
theorem dX0_canBeMadeByAttacker_79 : decode cX0_canBeMadeByAttacker 79 = .ok (.iconst 1, 1) := by decide +kernel
theorem dX0_canBeMadeByAttacker_80 : decode cX0_canBeMadeByAttacker 80 = .ok (.ireturn, 1) := by decide +kernel
theorem dX0_canAgree_0 : decode cX0_canAgree 0 = .ok (.aload_n 0, 1) := by decide +kernel
theorem dX0_canAgree_1 : decode cX0_canAgree 1 = .ok (.ifnull 25, 3) := by decide +kernel
theorem dX0_canAgree_4 : decode cX0_canAgree 4 = .ok (.aload_n 1, 1) := by decide +kernel
theorem dX0_canAgree_5 : decode cX0_canAgree 5 = .ok (.ifnull 21, 3) := by decide +kernel
theorem dX0_canAgree_8 : decode cX0_canAgree 8 = .ok (.aload_n 0, 1) := by decide +kernel
theorem dX0_canAgree_9 : decode cX0_canAgree 9 = .ok (.getfield 29, 3) := by decide +kernel
theorem dX0_canAgree_12 : decode cX0_canAgree 12 = .ok (.ifCond .eq 14, 3) := by decide +kernel
theorem dX0_canAgree_15 : decode cX0_canAgree 15 = .ok (.aload_n 1, 1) := by decide +kernel
theorem dX0_canAgree_16 : decode cX0_canAgree 16 = .ok (.getfield 33, 3) := by decide +kernel
theorem dX0_canAgree_19 : decode cX0_canAgree 19 = .ok (.ifCond .eq 7, 3) := by decide +kernel
theorem dX0_canAgree_22 : decode cX0_canAgree 22 = .ok (.iconst 1, 1) := by decide +kernel
theorem dX0_canAgree_23 : decode cX0_canAgree 23 = .ok (.goto 4, 3) := by decide +kernel
theorem dX0_canAgree_26 : decode cX0_canAgree 26 = .ok (.iconst 0, 1) := by decide +kernel
theorem dX0_canAgree_27 : decode cX0_canAgree 27 = .ok (.ireturn, 1) := by decide +kernel
theorem dX1_init_0 : decode cX1_init 0 = .ok (.aload_n 0, 1) := by decide +kernel
theorem dX1_init_1 : decode cX1_init 1 = .ok (.invokespecial 1, 3) := by decide +kernel
theorem dX1_init_4 : decode cX1_init 4 = .ok (.aload_n 0, 1) := by decide +kernel
theorem dX1_init_5 : decode cX1_init 5 = .ok (.bipush 64, 2) := by decide +kernel
theorem dX1_init_7 : decode cX1_init 7 = .ok (.anewarray 9, 3) := by decide +kernel
theorem dX1_init_10 : decode cX1_init 10 = .ok (.putfield 11, 3) := by decide +kernel
theorem dX1_init_13 : decode cX1_init 13 = .ok (.aload_n 0, 1) := by decide +kernel
theorem dX1_init_14 : decode cX1_init 14 = .ok (.sipush 512, 3) := by decide +kernel
theorem dX1_init_17 : decode cX1_init 17 = .ok (.anewarray 9, 3) := by decide +kernel
theorem dX1_init_20 : decode cX1_init 20 = .ok (.putfield 15, 3) := by decide +kernel
theorem dX1_init_23 : decode cX1_init 23 = .ok (.aload_n 0, 1) := by decide +kernel
theorem dX1_init_24 : decode cX1_init 24 = .ok (.iconst 0, 1) := by decide +kernel
theorem dX1_init_25 : decode cX1_init 25 = .ok (.putfield 18, 3) := by decide +kernel
theorem dX1_init_28 : decode cX1_init 28 = .ok (.aload_n 0, 1) := by decide +kernel
theorem dX1_init_29 : decode cX1_init 29 = .ok (.iconst 0, 1) := by decide +kernel
theorem dX1_init_30 : decode cX1_init 30 = .ok (.putfield 22, 3) := by decide +kernel
theorem dX1_init_33 : decode cX1_init 33 = .ok (.aload_n 0, 1) := by decide +kernel
theorem dX1_init_34 : decode cX1_init 34 = .ok (.iconst 4, 1) := by decide +kernel
theorem dX1_init_35 : decode cX1_init 35 = .ok (.newarray .int, 2) := by decide +kernel
theorem dX1_init_37 : decode cX1_init 37 = .ok (.putfield 25, 3) := by decide +kernel
theorem dX1_init_40 : decode cX1_init 40 = .ok (.return_, 1) := by decide +kernel
theorem dX1_secret_0 : decode cX1_secret 0 = .ok (.aload_n 0, 1) := by decide +kernel
theorem dX1_secret_1 : decode cX1_secret 1 = .ok (.iload_n 1, 1) := by decide +kernel
theorem dX1_secret_2 : decode cX1_secret 2 = .ok (.aload_n 0, 1) := by decide +kernel
theorem dX1_secret_3 : decode cX1_secret 3 = .ok (.iconst 1, 1) := by decide +kernel
theorem dX1_secret_4 : decode cX1_secret 4 = .ok (.iconst 0, 1) := by decide +kernel
theorem dX1_secret_5 : decode cX1_secret 5 = .ok (.aconst_null, 1) := by decide +kernel
theorem dX1_secret_6 : decode cX1_secret 6 = .ok (.aconst_null, 1) := by decide +kernel
theorem dX1_secret_7 : decode cX1_secret 7 = .ok (.aconst_null, 1) := by decide +kernel
theorem dX1_secret_8 : decode cX1_secret 8 = .ok (.invokevirtual 29, 3) := by decide +kernel
theorem dX1_secret_11 : decode cX1_secret 11 = .ok (.invokevirtual 33, 3) := by decide +kernel
theorem dX1_secret_14 : decode cX1_secret 14 = .ok (.ireturn, 1) := by decide +kernel
theorem dX1_face_0 : decode cX1_face 0 = .ok (.aload_n 0, 1) := by decide +kernel
theorem dX1_face_1 : decode cX1_face 1 = .ok (.iload_n 2, 1) := by decide +kernel
theorem dX1_face_2 : decode cX1_face 2 = .ok (.iconst 1, 1) := by decide +kernel
theorem dX1_face_3 : decode cX1_face 3 = .ok (.invokevirtual 37, 3) := by decide +kernel
theorem dX1_face_6 : decode cX1_face 6 = .ok (.astore_n 3, 1) := by decide +kernel
theorem dX1_face_7 : decode cX1_face 7 = .ok (.aload_n 3, 1) := by decide +kernel
theorem dX1_face_8 : decode cX1_face 8 = .ok (.ifnonnull 5, 3) := by decide +kernel
theorem dX1_face_11 : decode cX1_face 11 = .ok (.iconst (-1), 1) := by decide +kernel
theorem dX1_face_12 : decode cX1_face 12 = .ok (.ireturn, 1) := by decide +kernel
theorem dX1_face_13 : decode cX1_face 13 = .ok (.aload_n 0, 1) := by decide +kernel
theorem dX1_face_14 : decode cX1_face 14 = .ok (.iload_n 1, 1) := by decide +kernel
theorem dX1_face_15 : decode cX1_face 15 = .ok (.aload_n 0, 1) := by decide +kernel
theorem dX1_face_16 : decode cX1_face 16 = .ok (.iconst 2, 1) := by decide +kernel
theorem dX1_face_17 : decode cX1_face 17 = .ok (.iconst 0, 1) := by decide +kernel
theorem dX1_face_18 : decode cX1_face 18 = .ok (.aload_n 3, 1) := by decide +kernel
theorem dX1_face_19 : decode cX1_face 19 = .ok (.aconst_null, 1) := by decide +kernel
theorem dX1_face_20 : decode cX1_face 20 = .ok (.aconst_null, 1) := by decide +kernel
theorem dX1_face_21 : decode cX1_face 21 = .ok (.invokevirtual 29, 3) := by decide +kernel
theorem dX1_face_24 : decode cX1_face 24 = .ok (.invokevirtual 33, 3) := by decide +kernel
theorem dX1_face_27 : decode cX1_face 27 = .ok (.ireturn, 1) := by decide +kernel
theorem dX1_shared_0 : decode cX1_shared 0 = .ok (.aload_n 0, 1) := by decide +kernel
theorem dX1_shared_1 : decode cX1_shared 1 = .ok (.iload_n 1, 1) := by decide +kernel
theorem dX1_shared_2 : decode cX1_shared 2 = .ok (.aload_n 0, 1) := by decide +kernel
theorem dX1_shared_3 : decode cX1_shared 3 = .ok (.iload_n 2, 1) := by decide +kernel
theorem dX1_shared_4 : decode cX1_shared 4 = .ok (.iconst 1, 1) := by decide +kernel
theorem dX1_shared_5 : decode cX1_shared 5 = .ok (.invokevirtual 37, 3) := by decide +kernel
theorem dX1_shared_8 : decode cX1_shared 8 = .ok (.aload_n 0, 1) := by decide +kernel
theorem dX1_shared_9 : decode cX1_shared 9 = .ok (.iload_n 3, 1) := by decide +kernel
theorem dX1_shared_10 : decode cX1_shared 10 = .ok (.iconst 1, 1) := by decide +kernel
theorem dX1_shared_11 : decode cX1_shared 11 = .ok (.invokevirtual 37, 3) := by decide +kernel
theorem dX1_shared_14 : decode cX1_shared 14 = .ok (.invokevirtual 41, 3) := by decide +kernel
theorem dX1_shared_17 : decode cX1_shared 17 = .ok (.ireturn, 1) := by decide +kernel
theorem dX1_agreed_0 : decode cX1_agreed 0 = .ok (.aload_n 0, 1) := by decide +kernel
theorem dX1_agreed_1 : decode cX1_agreed 1 = .ok (.iload_n 3, 1) := by decide +kernel
theorem dX1_agreed_2 : decode cX1_agreed 2 = .ok (.iconst 2, 1) := by decide +kernel
theorem dX1_agreed_3 : decode cX1_agreed 3 = .ok (.invokevirtual 37, 3) := by decide +kernel
theorem dX1_agreed_6 : decode cX1_agreed 6 = .ok (.astore 4, 2) := by decide +kernel
theorem dX1_agreed_8 : decode cX1_agreed 8 = .ok (.aload 4, 2) := by decide +kernel
theorem dX1_agreed_10 : decode cX1_agreed 10 = .ok (.ifnonnull 5, 3) := by decide +kernel
theorem dX1_agreed_13 : decode cX1_agreed 13 = .ok (.iconst (-1), 1) := by decide +kernel
theorem dX1_agreed_14 : decode cX1_agreed 14 = .ok (.ireturn, 1) := by decide +kernel
theorem dX1_agreed_15 : decode cX1_agreed 15 = .ok (.aload_n 0, 1) := by decide +kernel
theorem dX1_agreed_16 : decode cX1_agreed 16 = .ok (.iload_n 1, 1) := by decide +kernel
theorem dX1_agreed_17 : decode cX1_agreed 17 = .ok (.aload_n 0, 1) := by decide +kernel
theorem dX1_agreed_18 : decode cX1_agreed 18 = .ok (.iload_n 2, 1) := by decide +kernel
theorem dX1_agreed_19 : decode cX1_agreed 19 = .ok (.iconst 1, 1) := by decide +kernel
theorem dX1_agreed_20 : decode cX1_agreed 20 = .ok (.invokevirtual 37, 3) := by decide +kernel
theorem dX1_agreed_23 : decode cX1_agreed 23 = .ok (.aload 4, 2) := by decide +kernel
theorem dX1_agreed_25 : decode cX1_agreed 25 = .ok (.iconst 0, 1) := by decide +kernel
theorem dX1_agreed_26 : decode cX1_agreed 26 = .ok (.invokevirtual 45, 3) := by decide +kernel
theorem dX1_agreed_29 : decode cX1_agreed 29 = .ok (.invokevirtual 41, 3) := by decide +kernel
theorem dX1_agreed_32 : decode cX1_agreed 32 = .ok (.ireturn, 1) := by decide +kernel
theorem dX1_mix_0 : decode cX1_mix 0 = .ok (.aload_n 0, 1) := by decide +kernel
theorem dX1_mix_1 : decode cX1_mix 1 = .ok (.iload_n 3, 1) := by decide +kernel
theorem dX1_mix_2 : decode cX1_mix 2 = .ok (.invokevirtual 49, 3) := by decide +kernel
theorem dX1_mix_5 : decode cX1_mix 5 = .ok (.astore 5, 2) := by decide +kernel
theorem dX1_mix_7 : decode cX1_mix 7 = .ok (.iload_n 2, 1) := by decide +kernel
theorem dX1_mix_8 : decode cX1_mix 8 = .ok (.ifCond .lt 23, 3) := by decide +kernel
theorem dX1_mix_11 : decode cX1_mix 11 = .ok (.iload_n 2, 1) := by decide +kernel
theorem dX1_mix_12 : decode cX1_mix 12 = .ok (.bipush 9, 2) := by decide +kernel
theorem dX1_mix_14 : decode cX1_mix 14 = .ok (.if_icmp .gt 17, 3) := by decide +kernel
theorem dX1_mix_17 : decode cX1_mix 17 = .ok (.aload 5, 2) := by decide +kernel
theorem dX1_mix_19 : decode cX1_mix 19 = .ok (.ifnull 12, 3) := by decide +kernel
theorem dX1_mix_22 : decode cX1_mix 22 = .ok (.aload_n 0, 1) := by decide +kernel
theorem dX1_mix_23 : decode cX1_mix 23 = .ok (.iload 4, 2) := by decide +kernel
theorem dX1_mix_25 : decode cX1_mix 25 = .ok (.invokevirtual 52, 3) := by decide +kernel
theorem dX1_mix_28 : decode cX1_mix 28 = .ok (.ifCond .ne 5, 3) := by decide +kernel
theorem dX1_mix_31 : decode cX1_mix 31 = .ok (.iconst (-1), 1) := by decide +kernel
theorem dX1_mix_32 : decode cX1_mix 32 = .ok (.ireturn, 1) := by decide +kernel
theorem dX1_mix_33 : decode cX1_mix 33 = .ok (.aload_n 0, 1) := by decide +kernel
theorem dX1_mix_34 : decode cX1_mix 34 = .ok (.iload_n 1, 1) := by decide +kernel
theorem dX1_mix_35 : decode cX1_mix 35 = .ok (.aload_n 0, 1) := by decide +kernel
theorem dX1_mix_36 : decode cX1_mix 36 = .ok (.iconst 4, 1) := by decide +kernel
theorem dX1_mix_37 : decode cX1_mix 37 = .ok (.iload_n 2, 1) := by decide +kernel
theorem dX1_mix_38 : decode cX1_mix 38 = .ok (.aload 5, 2) := by decide +kernel
theorem dX1_mix_40 : decode cX1_mix 40 = .ok (.aload_n 0, 1) := by decide +kernel
theorem dX1_mix_41 : decode cX1_mix 41 = .ok (.iload 4, 2) := by decide +kernel
theorem dX1_mix_43 : decode cX1_mix 43 = .ok (.invokevirtual 49, 3) := by decide +kernel
theorem dX1_mix_46 : decode cX1_mix 46 = .ok (.aconst_null, 1) := by decide +kernel
theorem dX1_mix_47 : decode cX1_mix 47 = .ok (.invokevirtual 29, 3) := by decide +kernel
theorem dX1_mix_50 : decode cX1_mix 50 = .ok (.invokevirtual 33, 3) := by decide +kernel
theorem dX1_mix_53 : decode cX1_mix 53 = .ok (.ireturn, 1) := by decide +kernel
theorem dX1_sealed_0 : decode cX1_sealed 0 = .ok (.aload_n 0, 1) := by decide +kernel
theorem dX1_sealed_1 : decode cX1_sealed 1 = .ok (.iload_n 2, 1) := by decide +kernel
theorem dX1_sealed_2 : decode cX1_sealed 2 = .ok (.invokevirtual 49, 3) := by decide +kernel
theorem dX1_sealed_5 : decode cX1_sealed 5 = .ok (.astore 5, 2) := by decide +kernel
theorem dX1_sealed_7 : decode cX1_sealed 7 = .ok (.aload_n 0, 1) := by decide +kernel
theorem dX1_sealed_8 : decode cX1_sealed 8 = .ok (.iload_n 3, 1) := by decide +kernel
theorem dX1_sealed_9 : decode cX1_sealed 9 = .ok (.invokevirtual 49, 3) := by decide +kernel
theorem dX1_sealed_12 : decode cX1_sealed 12 = .ok (.astore 6, 2) := by decide +kernel
theorem dX1_sealed_14 : decode cX1_sealed 14 = .ok (.aload_n 0, 1) := by decide +kernel
theorem dX1_sealed_15 : decode cX1_sealed 15 = .ok (.iload 4, 2) := by decide +kernel
theorem dX1_sealed_17 : decode cX1_sealed 17 = .ok (.invokevirtual 49, 3) := by decide +kernel
theorem dX1_sealed_20 : decode cX1_sealed 20 = .ok (.astore 7, 2) := by decide +kernel
theorem dX1_sealed_22 : decode cX1_sealed 22 = .ok (.aload 5, 2) := by decide +kernel
theorem dX1_sealed_24 : decode cX1_sealed 24 = .ok (.ifnull 13, 3) := by decide +kernel
theorem dX1_sealed_27 : decode cX1_sealed 27 = .ok (.aload 6, 2) := by decide +kernel
theorem dX1_sealed_29 : decode cX1_sealed 29 = .ok (.ifnull 8, 3) := by decide +kernel
theorem dX1_sealed_32 : decode cX1_sealed 32 = .ok (.aload 7, 2) := by decide +kernel
theorem dX1_sealed_34 : decode cX1_sealed 34 = .ok (.ifnonnull 5, 3) := by decide +kernel
theorem dX1_sealed_37 : decode cX1_sealed 37 = .ok (.iconst (-1), 1) := by decide +kernel
theorem dX1_sealed_38 : decode cX1_sealed 38 = .ok (.ireturn, 1) := by decide +kernel
theorem dX1_sealed_39 : decode cX1_sealed 39 = .ok (.aload_n 0, 1) := by decide +kernel
theorem dX1_sealed_40 : decode cX1_sealed 40 = .ok (.iload_n 1, 1) := by decide +kernel
theorem dX1_sealed_41 : decode cX1_sealed 41 = .ok (.aload_n 0, 1) := by decide +kernel
theorem dX1_sealed_42 : decode cX1_sealed 42 = .ok (.iconst 5, 1) := by decide +kernel
theorem dX1_sealed_43 : decode cX1_sealed 43 = .ok (.iconst 0, 1) := by decide +kernel
theorem dX1_sealed_44 : decode cX1_sealed 44 = .ok (.aload 5, 2) := by decide +kernel
theorem dX1_sealed_46 : decode cX1_sealed 46 = .ok (.aload 6, 2) := by decide +kernel
theorem dX1_sealed_48 : decode cX1_sealed 48 = .ok (.aload 7, 2) := by decide +kernel
theorem dX1_sealed_50 : decode cX1_sealed 50 = .ok (.invokevirtual 29, 3) := by decide +kernel
theorem dX1_sealed_53 : decode cX1_sealed 53 = .ok (.invokevirtual 33, 3) := by decide +kernel
theorem dX1_sealed_56 : decode cX1_sealed 56 = .ok (.ireturn, 1) := by decide +kernel
theorem dX1_signed_0 : decode cX1_signed 0 = .ok (.aload_n 0, 1) := by decide +kernel
theorem dX1_signed_1 : decode cX1_signed 1 = .ok (.iload_n 2, 1) := by decide +kernel
theorem dX1_signed_2 : decode cX1_signed 2 = .ok (.iconst 1, 1) := by decide +kernel
theorem dX1_signed_3 : decode cX1_signed 3 = .ok (.invokevirtual 37, 3) := by decide +kernel
theorem dX1_signed_6 : decode cX1_signed 6 = .ok (.astore 4, 2) := by decide +kernel
theorem dX1_signed_8 : decode cX1_signed 8 = .ok (.aload_n 0, 1) := by decide +kernel
theorem dX1_signed_9 : decode cX1_signed 9 = .ok (.iload_n 3, 1) := by decide +kernel
theorem dX1_signed_10 : decode cX1_signed 10 = .ok (.invokevirtual 49, 3) := by decide +kernel
theorem dX1_signed_13 : decode cX1_signed 13 = .ok (.astore 5, 2) := by decide +kernel
theorem dX1_signed_15 : decode cX1_signed 15 = .ok (.aload 4, 2) := by decide +kernel
theorem dX1_signed_17 : decode cX1_signed 17 = .ok (.ifnull 8, 3) := by decide +kernel
theorem dX1_signed_20 : decode cX1_signed 20 = .ok (.aload 5, 2) := by decide +kernel
theorem dX1_signed_22 : decode cX1_signed 22 = .ok (.ifnonnull 5, 3) := by decide +kernel
theorem dX1_signed_25 : decode cX1_signed 25 = .ok (.iconst (-1), 1) := by decide +kernel
theorem dX1_signed_26 : decode cX1_signed 26 = .ok (.ireturn, 1) := by decide +kernel
theorem dX1_signed_27 : decode cX1_signed 27 = .ok (.aload_n 0, 1) := by decide +kernel
theorem dX1_signed_28 : decode cX1_signed 28 = .ok (.iload_n 1, 1) := by decide +kernel
theorem dX1_signed_29 : decode cX1_signed 29 = .ok (.aload_n 0, 1) := by decide +kernel
theorem dX1_signed_30 : decode cX1_signed 30 = .ok (.bipush 6, 2) := by decide +kernel
theorem dX1_signed_32 : decode cX1_signed 32 = .ok (.iconst 0, 1) := by decide +kernel
theorem dX1_signed_33 : decode cX1_signed 33 = .ok (.aload 4, 2) := by decide +kernel
theorem dX1_signed_35 : decode cX1_signed 35 = .ok (.aload 5, 2) := by decide +kernel
theorem dX1_signed_37 : decode cX1_signed 37 = .ok (.aconst_null, 1) := by decide +kernel
theorem dX1_signed_38 : decode cX1_signed 38 = .ok (.invokevirtual 29, 3) := by decide +kernel
theorem dX1_signed_41 : decode cX1_signed 41 = .ok (.invokevirtual 33, 3) := by decide +kernel
theorem dX1_signed_44 : decode cX1_signed 44 = .ok (.ireturn, 1) := by decide +kernel
theorem dX1_row_0 : decode cX1_row 0 = .ok (.iload_n 2, 1) := by decide +kernel
theorem dX1_row_1 : decode cX1_row 1 = .ok (.invokestatic 56, 3) := by decide +kernel
theorem dX1_row_4 : decode cX1_row 4 = .ok (.ifCond .ne 5, 3) := by decide +kernel
theorem dX1_row_7 : decode cX1_row 7 = .ok (.iconst (-1), 1) := by decide +kernel
theorem dX1_row_8 : decode cX1_row 8 = .ok (.ireturn, 1) := by decide +kernel
theorem dX1_row_9 : decode cX1_row 9 = .ok (.aload_n 0, 1) := by decide +kernel
theorem dX1_row_10 : decode cX1_row 10 = .ok (.iload_n 1, 1) := by decide +kernel
theorem dX1_row_11 : decode cX1_row 11 = .ok (.aload_n 0, 1) := by decide +kernel
theorem dX1_row_12 : decode cX1_row 12 = .ok (.bipush 7, 2) := by decide +kernel
theorem dX1_row_14 : decode cX1_row 14 = .ok (.iload_n 2, 1) := by decide +kernel
theorem dX1_row_15 : decode cX1_row 15 = .ok (.aconst_null, 1) := by decide +kernel
theorem dX1_row_16 : decode cX1_row 16 = .ok (.aconst_null, 1) := by decide +kernel
theorem dX1_row_17 : decode cX1_row 17 = .ok (.aconst_null, 1) := by decide +kernel
theorem dX1_row_18 : decode cX1_row 18 = .ok (.invokevirtual 29, 3) := by decide +kernel
theorem dX1_row_21 : decode cX1_row 21 = .ok (.invokevirtual 33, 3) := by decide +kernel
theorem dX1_row_24 : decode cX1_row 24 = .ok (.ireturn, 1) := by decide +kernel
theorem dX1_alter_0 : decode cX1_alter 0 = .ok (.aload_n 0, 1) := by decide +kernel
theorem dX1_alter_1 : decode cX1_alter 1 = .ok (.iload_n 2, 1) := by decide +kernel
theorem dX1_alter_2 : decode cX1_alter 2 = .ok (.bipush 7, 2) := by decide +kernel
theorem dX1_alter_4 : decode cX1_alter 4 = .ok (.invokevirtual 37, 3) := by decide +kernel
theorem dX1_alter_7 : decode cX1_alter 7 = .ok (.astore 5, 2) := by decide +kernel
theorem dX1_alter_9 : decode cX1_alter 9 = .ok (.aload 5, 2) := by decide +kernel
theorem dX1_alter_11 : decode cX1_alter 11 = .ok (.ifnonnull 5, 3) := by decide +kernel
theorem dX1_alter_14 : decode cX1_alter 14 = .ok (.iconst (-1), 1) := by decide +kernel
theorem dX1_alter_15 : decode cX1_alter 15 = .ok (.ireturn, 1) := by decide +kernel
theorem dX1_alter_16 : decode cX1_alter 16 = .ok (.iload_n 3, 1) := by decide +kernel
theorem dX1_alter_17 : decode cX1_alter 17 = .ok (.invokestatic 59, 3) := by decide +kernel
theorem dX1_alter_20 : decode cX1_alter 20 = .ok (.ifCond .eq 17, 3) := by decide +kernel
theorem dX1_alter_23 : decode cX1_alter 23 = .ok (.aload_n 0, 1) := by decide +kernel
theorem dX1_alter_24 : decode cX1_alter 24 = .ok (.iload_n 1, 1) := by decide +kernel
theorem dX1_alter_25 : decode cX1_alter 25 = .ok (.aload 5, 2) := by decide +kernel
theorem dX1_alter_27 : decode cX1_alter 27 = .ok (.iload_n 3, 1) := by decide +kernel
theorem dX1_alter_28 : decode cX1_alter 28 = .ok (.iload 4, 2) := by decide +kernel
theorem dX1_alter_30 : decode cX1_alter 30 = .ok (.invokevirtual 62, 3) := by decide +kernel
theorem dX1_alter_33 : decode cX1_alter 33 = .ok (.invokevirtual 33, 3) := by decide +kernel
theorem dX1_alter_36 : decode cX1_alter 36 = .ok (.ireturn, 1) := by decide +kernel
theorem dX1_alter_37 : decode cX1_alter 37 = .ok (.iload_n 3, 1) := by decide +kernel
theorem dX1_alter_38 : decode cX1_alter 38 = .ok (.iconst 4, 1) := by decide +kernel
theorem dX1_alter_39 : decode cX1_alter 39 = .ok (.if_icmp .ne 24, 3) := by decide +kernel
theorem dX1_alter_42 : decode cX1_alter 42 = .ok (.iload 4, 2) := by decide +kernel
theorem dX1_alter_44 : decode cX1_alter 44 = .ok (.invokestatic 56, 3) := by decide +kernel
theorem dX1_alter_47 : decode cX1_alter 47 = .ok (.ifCond .eq 16, 3) := by decide +kernel
theorem dX1_alter_50 : decode cX1_alter 50 = .ok (.aload_n 0, 1) := by decide +kernel
theorem dX1_alter_51 : decode cX1_alter 51 = .ok (.iload_n 1, 1) := by decide +kernel
theorem dX1_alter_52 : decode cX1_alter 52 = .ok (.aload 5, 2) := by decide +kernel
theorem dX1_alter_54 : decode cX1_alter 54 = .ok (.iload 4, 2) := by decide +kernel
theorem dX1_alter_56 : decode cX1_alter 56 = .ok (.invokevirtual 65, 3) := by decide +kernel
theorem dX1_alter_59 : decode cX1_alter 59 = .ok (.invokevirtual 33, 3) := by decide +kernel
theorem dX1_alter_62 : decode cX1_alter 62 = .ok (.ireturn, 1) := by decide +kernel
theorem dX1_alter_63 : decode cX1_alter 63 = .ok (.iconst (-1), 1) := by decide +kernel
theorem dX1_alter_64 : decode cX1_alter 64 = .ok (.ireturn, 1) := by decide +kernel
theorem dX1_swap_0 : decode cX1_swap 0 = .ok (.aload_n 0, 1) := by decide +kernel
theorem dX1_swap_1 : decode cX1_swap 1 = .ok (.iload_n 2, 1) := by decide +kernel
theorem dX1_swap_2 : decode cX1_swap 2 = .ok (.bipush 7, 2) := by decide +kernel
theorem dX1_swap_4 : decode cX1_swap 4 = .ok (.invokevirtual 37, 3) := by decide +kernel
theorem dX1_swap_7 : decode cX1_swap 7 = .ok (.astore 5, 2) := by decide +kernel
theorem dX1_swap_9 : decode cX1_swap 9 = .ok (.aload 5, 2) := by decide +kernel
theorem dX1_swap_11 : decode cX1_swap 11 = .ok (.ifnull 19, 3) := by decide +kernel
theorem dX1_swap_14 : decode cX1_swap 14 = .ok (.iload_n 3, 1) := by decide +kernel
theorem dX1_swap_15 : decode cX1_swap 15 = .ok (.invokestatic 59, 3) := by decide +kernel
theorem dX1_swap_18 : decode cX1_swap 18 = .ok (.ifCond .eq 12, 3) := by decide +kernel
theorem dX1_swap_21 : decode cX1_swap 21 = .ok (.aload_n 0, 1) := by decide +kernel
theorem dX1_swap_22 : decode cX1_swap 22 = .ok (.iload 4, 2) := by decide +kernel
theorem dX1_swap_24 : decode cX1_swap 24 = .ok (.invokevirtual 52, 3) := by decide +kernel
theorem dX1_swap_27 : decode cX1_swap 27 = .ok (.ifCond .ne 5, 3) := by decide +kernel
theorem dX1_swap_30 : decode cX1_swap 30 = .ok (.iconst (-1), 1) := by decide +kernel
theorem dX1_swap_31 : decode cX1_swap 31 = .ok (.ireturn, 1) := by decide +kernel
theorem dX1_swap_32 : decode cX1_swap 32 = .ok (.aload_n 0, 1) := by decide +kernel
theorem dX1_swap_33 : decode cX1_swap 33 = .ok (.iload_n 1, 1) := by decide +kernel
theorem dX1_swap_34 : decode cX1_swap 34 = .ok (.aload 5, 2) := by decide +kernel
theorem dX1_swap_36 : decode cX1_swap 36 = .ok (.iload_n 3, 1) := by decide +kernel
theorem dX1_swap_37 : decode cX1_swap 37 = .ok (.aload_n 0, 1) := by decide +kernel
theorem dX1_swap_38 : decode cX1_swap 38 = .ok (.iload 4, 2) := by decide +kernel
theorem dX1_swap_40 : decode cX1_swap 40 = .ok (.invokevirtual 49, 3) := by decide +kernel
theorem dX1_swap_43 : decode cX1_swap 43 = .ok (.invokevirtual 68, 3) := by decide +kernel
theorem dX1_swap_46 : decode cX1_swap 46 = .ok (.invokevirtual 33, 3) := by decide +kernel
theorem dX1_swap_49 : decode cX1_swap 49 = .ok (.ireturn, 1) := by decide +kernel
theorem dX1_part_0 : decode cX1_part 0 = .ok (.aload_n 0, 1) := by decide +kernel
theorem dX1_part_1 : decode cX1_part 1 = .ok (.iload_n 2, 1) := by decide +kernel
theorem dX1_part_2 : decode cX1_part 2 = .ok (.invokevirtual 49, 3) := by decide +kernel
theorem dX1_part_5 : decode cX1_part 5 = .ok (.astore 4, 2) := by decide +kernel
theorem dX1_part_7 : decode cX1_part 7 = .ok (.aload 4, 2) := by decide +kernel
theorem dX1_part_9 : decode cX1_part 9 = .ok (.ifnull 23, 3) := by decide +kernel
theorem dX1_part_12 : decode cX1_part 12 = .ok (.iload_n 3, 1) := by decide +kernel
theorem dX1_part_13 : decode cX1_part 13 = .ok (.ifCond .lt 19, 3) := by decide +kernel
theorem dX1_part_16 : decode cX1_part 16 = .ok (.iload_n 3, 1) := by decide +kernel
theorem dX1_part_17 : decode cX1_part 17 = .ok (.getstatic 72, 3) := by decide +kernel
theorem dX1_part_20 : decode cX1_part 20 = .ok (.arraylength, 1) := by decide +kernel
theorem dX1_part_21 : decode cX1_part 21 = .ok (.if_icmp .ge 11, 3) := by decide +kernel
theorem dX1_part_24 : decode cX1_part 24 = .ok (.iload_n 3, 1) := by decide +kernel
theorem dX1_part_25 : decode cX1_part 25 = .ok (.getstatic 75, 3) := by decide +kernel
theorem dX1_part_28 : decode cX1_part 28 = .ok (.arraylength, 1) := by decide +kernel
theorem dX1_part_29 : decode cX1_part 29 = .ok (.if_icmp .lt 5, 3) := by decide +kernel
theorem dX1_part_32 : decode cX1_part 32 = .ok (.iconst (-1), 1) := by decide +kernel
theorem dX1_part_33 : decode cX1_part 33 = .ok (.ireturn, 1) := by decide +kernel
theorem dX1_part_34 : decode cX1_part 34 = .ok (.aload 4, 2) := by decide +kernel
theorem dX1_part_36 : decode cX1_part 36 = .ok (.getfield 78, 3) := by decide +kernel
theorem dX1_part_39 : decode cX1_part 39 = .ok (.getstatic 72, 3) := by decide +kernel
theorem dX1_part_42 : decode cX1_part 42 = .ok (.iload_n 3, 1) := by decide +kernel
theorem dX1_part_43 : decode cX1_part 43 = .ok (.iaload, 1) := by decide +kernel
theorem dX1_part_44 : decode cX1_part 44 = .ok (.if_icmp .eq 5, 3) := by decide +kernel
theorem dX1_part_47 : decode cX1_part 47 = .ok (.iconst (-1), 1) := by decide +kernel
theorem dX1_part_48 : decode cX1_part 48 = .ok (.ireturn, 1) := by decide +kernel
theorem dX1_part_49 : decode cX1_part 49 = .ok (.aload_n 0, 1) := by decide +kernel
theorem dX1_part_50 : decode cX1_part 50 = .ok (.iload_n 1, 1) := by decide +kernel
theorem dX1_part_51 : decode cX1_part 51 = .ok (.aload 4, 2) := by decide +kernel
theorem dX1_part_53 : decode cX1_part 53 = .ok (.getstatic 75, 3) := by decide +kernel
theorem dX1_part_56 : decode cX1_part 56 = .ok (.iload_n 3, 1) := by decide +kernel
theorem dX1_part_57 : decode cX1_part 57 = .ok (.iaload, 1) := by decide +kernel
theorem dX1_part_58 : decode cX1_part 58 = .ok (.invokevirtual 45, 3) := by decide +kernel
theorem dX1_part_61 : decode cX1_part 61 = .ok (.invokevirtual 81, 3) := by decide +kernel
theorem dX1_part_64 : decode cX1_part 64 = .ok (.ireturn, 1) := by decide +kernel
theorem dX1_give_0 : decode cX1_give 0 = .ok (.aload_n 0, 1) := by decide +kernel
theorem dX1_give_1 : decode cX1_give 1 = .ok (.iload_n 1, 1) := by decide +kernel
theorem dX1_give_2 : decode cX1_give 2 = .ok (.invokevirtual 49, 3) := by decide +kernel
theorem dX1_give_5 : decode cX1_give 5 = .ok (.astore_n 2, 1) := by decide +kernel
theorem dX1_give_6 : decode cX1_give 6 = .ok (.aload_n 2, 1) := by decide +kernel
theorem dX1_give_7 : decode cX1_give 7 = .ok (.ifnonnull 5, 3) := by decide +kernel
theorem dX1_give_10 : decode cX1_give 10 = .ok (.iconst (-1), 1) := by decide +kernel
theorem dX1_give_11 : decode cX1_give 11 = .ok (.ireturn, 1) := by decide +kernel
theorem dX1_give_12 : decode cX1_give 12 = .ok (.aload_n 2, 1) := by decide +kernel
theorem dX1_give_13 : decode cX1_give 13 = .ok (.getfield 84, 3) := by decide +kernel
theorem dX1_give_16 : decode cX1_give 16 = .ok (.ifCond .eq 5, 3) := by decide +kernel
theorem dX1_give_19 : decode cX1_give 19 = .ok (.iconst 0, 1) := by decide +kernel
theorem dX1_give_20 : decode cX1_give 20 = .ok (.ireturn, 1) := by decide +kernel
theorem dX1_give_21 : decode cX1_give 21 = .ok (.aload_n 0, 1) := by decide +kernel
theorem dX1_give_22 : decode cX1_give 22 = .ok (.getfield 22, 3) := by decide +kernel
theorem dX1_give_25 : decode cX1_give 25 = .ok (.istore_n 3, 1) := by decide +kernel
theorem dX1_give_26 : decode cX1_give 26 = .ok (.aload_n 0, 1) := by decide +kernel
theorem dX1_give_27 : decode cX1_give 27 = .ok (.aload_n 2, 1) := by decide +kernel
theorem dX1_give_28 : decode cX1_give 28 = .ok (.invokevirtual 88, 3) := by decide +kernel
theorem dX1_give_31 : decode cX1_give 31 = .ok (.aload_n 0, 1) := by decide +kernel
theorem dX1_give_32 : decode cX1_give 32 = .ok (.invokevirtual 92, 3) := by decide +kernel
theorem dX1_give_35 : decode cX1_give 35 = .ok (.aload_n 0, 1) := by decide +kernel
theorem dX1_give_36 : decode cX1_give 36 = .ok (.getfield 22, 3) := by decide +kernel
theorem dX1_give_39 : decode cX1_give 39 = .ok (.iload_n 3, 1) := by decide +kernel
theorem dX1_give_40 : decode cX1_give 40 = .ok (.isub, 1) := by decide +kernel
theorem dX1_give_41 : decode cX1_give 41 = .ok (.ireturn, 1) := by decide +kernel
theorem dX1_derived_0 : decode cX1_derived 0 = .ok (.aload_n 0, 1) := by decide +kernel
theorem dX1_derived_1 : decode cX1_derived 1 = .ok (.iload_n 1, 1) := by decide +kernel
theorem dX1_derived_2 : decode cX1_derived 2 = .ok (.invokevirtual 49, 3) := by decide +kernel
theorem dX1_derived_5 : decode cX1_derived 5 = .ok (.astore_n 2, 1) := by decide +kernel
theorem dX1_derived_6 : decode cX1_derived 6 = .ok (.aload_n 2, 1) := by decide +kernel
theorem dX1_derived_7 : decode cX1_derived 7 = .ok (.ifnonnull 5, 3) := by decide +kernel
theorem dX1_derived_10 : decode cX1_derived 10 = .ok (.iconst (-1), 1) := by decide +kernel
theorem dX1_derived_11 : decode cX1_derived 11 = .ok (.ireturn, 1) := by decide +kernel
theorem dX1_derived_12 : decode cX1_derived 12 = .ok (.aload_n 2, 1) := by decide +kernel
theorem dX1_derived_13 : decode cX1_derived 13 = .ok (.getfield 84, 3) := by decide +kernel
theorem dX1_derived_16 : decode cX1_derived 16 = .ok (.ifCond .eq 7, 3) := by decide +kernel
theorem dX1_derived_19 : decode cX1_derived 19 = .ok (.iconst 1, 1) := by decide +kernel
theorem dX1_derived_20 : decode cX1_derived 20 = .ok (.goto 4, 3) := by decide +kernel
theorem dX1_derived_23 : decode cX1_derived 23 = .ok (.iconst 0, 1) := by decide +kernel
theorem dX1_derived_24 : decode cX1_derived 24 = .ok (.ireturn, 1) := by decide +kernel
theorem dX1_same_0 : decode cX1_same 0 = .ok (.aload_n 0, 1) := by decide +kernel
theorem dX1_same_1 : decode cX1_same 1 = .ok (.iload_n 1, 1) := by decide +kernel
theorem dX1_same_2 : decode cX1_same 2 = .ok (.invokevirtual 49, 3) := by decide +kernel
theorem dX1_same_5 : decode cX1_same 5 = .ok (.astore_n 3, 1) := by decide +kernel
theorem dX1_same_6 : decode cX1_same 6 = .ok (.aload_n 0, 1) := by decide +kernel
theorem dX1_same_7 : decode cX1_same 7 = .ok (.iload_n 2, 1) := by decide +kernel
theorem dX1_same_8 : decode cX1_same 8 = .ok (.invokevirtual 49, 3) := by decide +kernel
theorem dX1_same_11 : decode cX1_same 11 = .ok (.astore 4, 2) := by decide +kernel
theorem dX1_same_13 : decode cX1_same 13 = .ok (.aload_n 3, 1) := by decide +kernel
theorem dX1_same_14 : decode cX1_same 14 = .ok (.ifnull 8, 3) := by decide +kernel
theorem dX1_same_17 : decode cX1_same 17 = .ok (.aload 4, 2) := by decide +kernel
theorem dX1_same_19 : decode cX1_same 19 = .ok (.ifnonnull 5, 3) := by decide +kernel
theorem dX1_same_22 : decode cX1_same 22 = .ok (.iconst (-1), 1) := by decide +kernel
theorem dX1_same_23 : decode cX1_same 23 = .ok (.ireturn, 1) := by decide +kernel
theorem dX1_same_24 : decode cX1_same 24 = .ok (.aload_n 3, 1) := by decide +kernel
theorem dX1_same_25 : decode cX1_same 25 = .ok (.aload 4, 2) := by decide +kernel
theorem dX1_same_27 : decode cX1_same 27 = .ok (.if_acmp .ne 7, 3) := by decide +kernel
theorem dX1_same_30 : decode cX1_same 30 = .ok (.iconst 1, 1) := by decide +kernel
theorem dX1_same_31 : decode cX1_same 31 = .ok (.goto 4, 3) := by decide +kernel
theorem dX1_same_34 : decode cX1_same 34 = .ok (.iconst 0, 1) := by decide +kernel
theorem dX1_same_35 : decode cX1_same 35 = .ok (.ireturn, 1) := by decide +kernel
theorem dX1_good_0 : decode cX1_good 0 = .ok (.aload_n 0, 1) := by decide +kernel
theorem dX1_good_1 : decode cX1_good 1 = .ok (.iload_n 1, 1) := by decide +kernel
theorem dX1_good_2 : decode cX1_good 2 = .ok (.bipush 7, 2) := by decide +kernel
theorem dX1_good_4 : decode cX1_good 4 = .ok (.invokevirtual 37, 3) := by decide +kernel
theorem dX1_good_7 : decode cX1_good 7 = .ok (.astore_n 2, 1) := by decide +kernel
theorem dX1_good_8 : decode cX1_good 8 = .ok (.aload_n 2, 1) := by decide +kernel
theorem dX1_good_9 : decode cX1_good 9 = .ok (.ifnonnull 5, 3) := by decide +kernel
theorem dX1_good_12 : decode cX1_good 12 = .ok (.iconst (-1), 1) := by decide +kernel
theorem dX1_good_13 : decode cX1_good 13 = .ok (.ireturn, 1) := by decide +kernel
theorem dX1_good_14 : decode cX1_good 14 = .ok (.aload_n 2, 1) := by decide +kernel
theorem dX1_good_15 : decode cX1_good 15 = .ok (.invokestatic 95, 3) := by decide +kernel
theorem dX1_good_18 : decode cX1_good 18 = .ok (.ifCond .eq 14, 3) := by decide +kernel
theorem dX1_good_21 : decode cX1_good 21 = .ok (.aload_n 2, 1) := by decide +kernel
theorem dX1_good_22 : decode cX1_good 22 = .ok (.invokestatic 99, 3) := by decide +kernel
theorem dX1_good_25 : decode cX1_good 25 = .ok (.ifCond .eq 7, 3) := by decide +kernel
theorem dX1_good_28 : decode cX1_good 28 = .ok (.iconst 1, 1) := by decide +kernel
theorem dX1_good_29 : decode cX1_good 29 = .ok (.goto 4, 3) := by decide +kernel
theorem dX1_good_32 : decode cX1_good 32 = .ok (.iconst 0, 1) := by decide +kernel
theorem dX1_good_33 : decode cX1_good 33 = .ok (.ireturn, 1) := by decide +kernel
theorem dX1_about_0 : decode cX1_about 0 = .ok (.aload_n 0, 1) := by decide +kernel
theorem dX1_about_1 : decode cX1_about 1 = .ok (.iload_n 1, 1) := by decide +kernel
theorem dX1_about_2 : decode cX1_about 2 = .ok (.invokevirtual 49, 3) := by decide +kernel
theorem dX1_about_5 : decode cX1_about 5 = .ok (.astore_n 3, 1) := by decide +kernel
theorem dX1_about_6 : decode cX1_about 6 = .ok (.aload_n 3, 1) := by decide +kernel
theorem dX1_about_7 : decode cX1_about 7 = .ok (.ifnonnull 5, 3) := by decide +kernel
theorem dX1_about_10 : decode cX1_about 10 = .ok (.iconst (-1), 1) := by decide +kernel
theorem dX1_about_11 : decode cX1_about 11 = .ok (.ireturn, 1) := by decide +kernel
theorem dX1_about_12 : decode cX1_about 12 = .ok (.iload_n 2, 1) := by decide +kernel
theorem dX1_about_13 : decode cX1_about 13 = .ok (.ifCond .ne 8, 3) := by decide +kernel
theorem dX1_about_16 : decode cX1_about 16 = .ok (.aload_n 3, 1) := by decide +kernel
theorem dX1_about_17 : decode cX1_about 17 = .ok (.getfield 78, 3) := by decide +kernel
theorem dX1_about_20 : decode cX1_about 20 = .ok (.ireturn, 1) := by decide +kernel
theorem dX1_about_21 : decode cX1_about 21 = .ok (.iload_n 2, 1) := by decide +kernel
theorem dX1_about_22 : decode cX1_about 22 = .ok (.iconst 1, 1) := by decide +kernel
theorem dX1_about_23 : decode cX1_about 23 = .ok (.if_icmp .ne 8, 3) := by decide +kernel
theorem dX1_about_26 : decode cX1_about 26 = .ok (.aload_n 3, 1) := by decide +kernel
theorem dX1_about_27 : decode cX1_about 27 = .ok (.getfield 102, 3) := by decide +kernel
theorem dX1_about_30 : decode cX1_about 30 = .ok (.ireturn, 1) := by decide +kernel
theorem dX1_about_31 : decode cX1_about 31 = .ok (.iload_n 2, 1) := by decide +kernel
theorem dX1_about_32 : decode cX1_about 32 = .ok (.iconst 2, 1) := by decide +kernel
theorem dX1_about_33 : decode cX1_about 33 = .ok (.isub, 1) := by decide +kernel
theorem dX1_about_34 : decode cX1_about 34 = .ok (.invokestatic 59, 3) := by decide +kernel
theorem dX1_about_37 : decode cX1_about 37 = .ok (.ifCond .eq 13, 3) := by decide +kernel
theorem dX1_about_40 : decode cX1_about 40 = .ok (.aload_n 3, 1) := by decide +kernel
theorem dX1_about_41 : decode cX1_about 41 = .ok (.iload_n 2, 1) := by decide +kernel
theorem dX1_about_42 : decode cX1_about 42 = .ok (.iconst 2, 1) := by decide +kernel
theorem dX1_about_43 : decode cX1_about 43 = .ok (.isub, 1) := by decide +kernel
theorem dX1_about_44 : decode cX1_about 44 = .ok (.invokevirtual 105, 3) := by decide +kernel
theorem dX1_about_47 : decode cX1_about 47 = .ok (.goto 4, 3) := by decide +kernel
theorem dX1_about_50 : decode cX1_about 50 = .ok (.iconst (-1), 1) := by decide +kernel
theorem dX1_about_51 : decode cX1_about 51 = .ok (.ireturn, 1) := by decide +kernel
theorem dX1_count_0 : decode cX1_count 0 = .ok (.iload_n 1, 1) := by decide +kernel
theorem dX1_count_1 : decode cX1_count 1 = .ok (.ifCond .ne 8, 3) := by decide +kernel
theorem dX1_count_4 : decode cX1_count 4 = .ok (.aload_n 0, 1) := by decide +kernel
theorem dX1_count_5 : decode cX1_count 5 = .ok (.getfield 18, 3) := by decide +kernel
theorem dX1_count_8 : decode cX1_count 8 = .ok (.ireturn, 1) := by decide +kernel
theorem dX1_count_9 : decode cX1_count 9 = .ok (.iload_n 1, 1) := by decide +kernel
theorem dX1_count_10 : decode cX1_count 10 = .ok (.iconst 1, 1) := by decide +kernel
theorem dX1_count_11 : decode cX1_count 11 = .ok (.if_icmp .ne 10, 3) := by decide +kernel
theorem dX1_count_14 : decode cX1_count 14 = .ok (.aload_n 0, 1) := by decide +kernel
theorem dX1_count_15 : decode cX1_count 15 = .ok (.getfield 22, 3) := by decide +kernel
theorem dX1_count_18 : decode cX1_count 18 = .ok (.goto 4, 3) := by decide +kernel
theorem dX1_count_21 : decode cX1_count 21 = .ok (.iconst (-1), 1) := by decide +kernel
theorem dX1_count_22 : decode cX1_count 22 = .ok (.ireturn, 1) := by decide +kernel
theorem dX1_isRegister_0 : decode cX1_isRegister 0 = .ok (.iload_n 0, 1) := by decide +kernel
theorem dX1_isRegister_1 : decode cX1_isRegister 1 = .ok (.ifCond .lt 13, 3) := by decide +kernel
theorem dX1_isRegister_4 : decode cX1_isRegister 4 = .ok (.iload_n 0, 1) := by decide +kernel
theorem dX1_isRegister_5 : decode cX1_isRegister 5 = .ok (.bipush 64, 2) := by decide +kernel
theorem dX1_isRegister_7 : decode cX1_isRegister 7 = .ok (.if_icmp .ge 7, 3) := by decide +kernel
theorem dX1_isRegister_10 : decode cX1_isRegister 10 = .ok (.iconst 1, 1) := by decide +kernel
theorem dX1_isRegister_11 : decode cX1_isRegister 11 = .ok (.goto 4, 3) := by decide +kernel
theorem dX1_isRegister_14 : decode cX1_isRegister 14 = .ok (.iconst 0, 1) := by decide +kernel
theorem dX1_isRegister_15 : decode cX1_isRegister 15 = .ok (.ireturn, 1) := by decide +kernel
theorem dX1_isSlot_0 : decode cX1_isSlot 0 = .ok (.iload_n 0, 1) := by decide +kernel
theorem dX1_isSlot_1 : decode cX1_isSlot 1 = .ok (.ifCond .lt 12, 3) := by decide +kernel
theorem dX1_isSlot_4 : decode cX1_isSlot 4 = .ok (.iload_n 0, 1) := by decide +kernel
theorem dX1_isSlot_5 : decode cX1_isSlot 5 = .ok (.iconst 4, 1) := by decide +kernel
theorem dX1_isSlot_6 : decode cX1_isSlot 6 = .ok (.if_icmp .ge 7, 3) := by decide +kernel
theorem dX1_isSlot_9 : decode cX1_isSlot 9 = .ok (.iconst 1, 1) := by decide +kernel
theorem dX1_isSlot_10 : decode cX1_isSlot 10 = .ok (.goto 4, 3) := by decide +kernel
theorem dX1_isSlot_13 : decode cX1_isSlot 13 = .ok (.iconst 0, 1) := by decide +kernel
theorem dX1_isSlot_14 : decode cX1_isSlot 14 = .ok (.ireturn, 1) := by decide +kernel
theorem dX1_isKind_0 : decode cX1_isKind 0 = .ok (.iload_n 0, 1) := by decide +kernel
theorem dX1_isKind_1 : decode cX1_isKind 1 = .ok (.iconst 1, 1) := by decide +kernel
theorem dX1_isKind_2 : decode cX1_isKind 2 = .ok (.if_icmp .lt 13, 3) := by decide +kernel
theorem dX1_isKind_5 : decode cX1_isKind 5 = .ok (.iload_n 0, 1) := by decide +kernel
theorem dX1_isKind_6 : decode cX1_isKind 6 = .ok (.bipush 7, 2) := by decide +kernel
theorem dX1_isKind_8 : decode cX1_isKind 8 = .ok (.if_icmp .gt 7, 3) := by decide +kernel
theorem dX1_isKind_11 : decode cX1_isKind 11 = .ok (.iconst 1, 1) := by decide +kernel
theorem dX1_isKind_12 : decode cX1_isKind 12 = .ok (.goto 4, 3) := by decide +kernel
theorem dX1_isKind_15 : decode cX1_isKind 15 = .ok (.iconst 0, 1) := by decide +kernel
theorem dX1_isKind_16 : decode cX1_isKind 16 = .ok (.ireturn, 1) := by decide +kernel
theorem dX1_termIn_0 : decode cX1_termIn 0 = .ok (.iload_n 1, 1) := by decide +kernel
theorem dX1_termIn_1 : decode cX1_termIn 1 = .ok (.invokestatic 109, 3) := by decide +kernel
theorem dX1_termIn_4 : decode cX1_termIn 4 = .ok (.ifCond .eq 12, 3) := by decide +kernel
theorem dX1_termIn_7 : decode cX1_termIn 7 = .ok (.aload_n 0, 1) := by decide +kernel
theorem dX1_termIn_8 : decode cX1_termIn 8 = .ok (.getfield 11, 3) := by decide +kernel
theorem dX1_termIn_11 : decode cX1_termIn 11 = .ok (.iload_n 1, 1) := by decide +kernel
theorem dX1_termIn_12 : decode cX1_termIn 12 = .ok (.aaload, 1) := by decide +kernel
theorem dX1_termIn_13 : decode cX1_termIn 13 = .ok (.goto 4, 3) := by decide +kernel
theorem dX1_termIn_16 : decode cX1_termIn 16 = .ok (.aconst_null, 1) := by decide +kernel
theorem dX1_termIn_17 : decode cX1_termIn 17 = .ok (.areturn, 1) := by decide +kernel
theorem dX1_termOfSort_0 : decode cX1_termOfSort 0 = .ok (.aload_n 0, 1) := by decide +kernel
theorem dX1_termOfSort_1 : decode cX1_termOfSort 1 = .ok (.iload_n 1, 1) := by decide +kernel
theorem dX1_termOfSort_2 : decode cX1_termOfSort 2 = .ok (.invokevirtual 49, 3) := by decide +kernel
theorem dX1_termOfSort_5 : decode cX1_termOfSort 5 = .ok (.astore_n 3, 1) := by decide +kernel
theorem dX1_termOfSort_6 : decode cX1_termOfSort 6 = .ok (.aload_n 3, 1) := by decide +kernel
theorem dX1_termOfSort_7 : decode cX1_termOfSort 7 = .ok (.ifnull 15, 3) := by decide +kernel
theorem dX1_termOfSort_10 : decode cX1_termOfSort 10 = .ok (.aload_n 3, 1) := by decide +kernel
theorem dX1_termOfSort_11 : decode cX1_termOfSort 11 = .ok (.getfield 78, 3) := by decide +kernel
theorem dX1_termOfSort_14 : decode cX1_termOfSort 14 = .ok (.iload_n 2, 1) := by decide +kernel
theorem dX1_termOfSort_15 : decode cX1_termOfSort 15 = .ok (.if_icmp .ne 7, 3) := by decide +kernel
theorem dX1_termOfSort_18 : decode cX1_termOfSort 18 = .ok (.aload_n 3, 1) := by decide +kernel
theorem dX1_termOfSort_19 : decode cX1_termOfSort 19 = .ok (.goto 4, 3) := by decide +kernel
theorem dX1_termOfSort_22 : decode cX1_termOfSort 22 = .ok (.aconst_null, 1) := by decide +kernel
theorem dX1_termOfSort_23 : decode cX1_termOfSort 23 = .ok (.areturn, 1) := by decide +kernel
theorem dX1_isTermOrNothing_0 : decode cX1_isTermOrNothing 0 = .ok (.iload_n 1, 1) := by decide +kernel
theorem dX1_isTermOrNothing_1 : decode cX1_isTermOrNothing 1 = .ok (.iconst (-1), 1) := by decide +kernel
theorem dX1_isTermOrNothing_2 : decode cX1_isTermOrNothing 2 = .ok (.if_icmp .eq 11, 3) := by decide +kernel
theorem dX1_isTermOrNothing_5 : decode cX1_isTermOrNothing 5 = .ok (.aload_n 0, 1) := by decide +kernel
theorem dX1_isTermOrNothing_6 : decode cX1_isTermOrNothing 6 = .ok (.iload_n 1, 1) := by decide +kernel
theorem dX1_isTermOrNothing_7 : decode cX1_isTermOrNothing 7 = .ok (.invokevirtual 49, 3) := by decide +kernel
theorem dX1_isTermOrNothing_10 : decode cX1_isTermOrNothing 10 = .ok (.ifnull 7, 3) := by decide +kernel
theorem dX1_isTermOrNothing_13 : decode cX1_isTermOrNothing 13 = .ok (.iconst 1, 1) := by decide +kernel
theorem dX1_isTermOrNothing_14 : decode cX1_isTermOrNothing 14 = .ok (.goto 4, 3) := by decide +kernel
theorem dX1_isTermOrNothing_17 : decode cX1_isTermOrNothing 17 = .ok (.iconst 0, 1) := by decide +kernel
theorem dX1_isTermOrNothing_18 : decode cX1_isTermOrNothing 18 = .ok (.ireturn, 1) := by decide +kernel
theorem dX1_plainTerm_0 : decode cX1_plainTerm 0 = .ok (.iconst 4, 1) := by decide +kernel
theorem dX1_plainTerm_1 : decode cX1_plainTerm 1 = .ok (.anewarray 9, 3) := by decide +kernel
theorem dX1_plainTerm_4 : decode cX1_plainTerm 4 = .ok (.dup, 1) := by decide +kernel
theorem dX1_plainTerm_5 : decode cX1_plainTerm 5 = .ok (.iconst 0, 1) := by decide +kernel
theorem dX1_plainTerm_6 : decode cX1_plainTerm 6 = .ok (.aload_n 3, 1) := by decide +kernel
theorem dX1_plainTerm_7 : decode cX1_plainTerm 7 = .ok (.aastore, 1) := by decide +kernel
theorem dX1_plainTerm_8 : decode cX1_plainTerm 8 = .ok (.dup, 1) := by decide +kernel
theorem dX1_plainTerm_9 : decode cX1_plainTerm 9 = .ok (.iconst 1, 1) := by decide +kernel
theorem dX1_plainTerm_10 : decode cX1_plainTerm 10 = .ok (.aload 4, 2) := by decide +kernel
theorem dX1_plainTerm_12 : decode cX1_plainTerm 12 = .ok (.aastore, 1) := by decide +kernel
theorem dX1_plainTerm_13 : decode cX1_plainTerm 13 = .ok (.dup, 1) := by decide +kernel
theorem dX1_plainTerm_14 : decode cX1_plainTerm 14 = .ok (.iconst 2, 1) := by decide +kernel
theorem dX1_plainTerm_15 : decode cX1_plainTerm 15 = .ok (.aload 5, 2) := by decide +kernel
theorem dX1_plainTerm_17 : decode cX1_plainTerm 17 = .ok (.aastore, 1) := by decide +kernel
theorem dX1_plainTerm_18 : decode cX1_plainTerm 18 = .ok (.dup, 1) := by decide +kernel
theorem dX1_plainTerm_19 : decode cX1_plainTerm 19 = .ok (.iconst 3, 1) := by decide +kernel
theorem dX1_plainTerm_20 : decode cX1_plainTerm 20 = .ok (.aconst_null, 1) := by decide +kernel
theorem dX1_plainTerm_21 : decode cX1_plainTerm 21 = .ok (.aastore, 1) := by decide +kernel
theorem dX1_plainTerm_22 : decode cX1_plainTerm 22 = .ok (.astore 6, 2) := by decide +kernel
theorem dX1_plainTerm_24 : decode cX1_plainTerm 24 = .ok (.new 9, 3) := by decide +kernel
theorem dX1_plainTerm_27 : decode cX1_plainTerm 27 = .ok (.dup, 1) := by decide +kernel
theorem dX1_plainTerm_28 : decode cX1_plainTerm 28 = .ok (.iload_n 1, 1) := by decide +kernel
theorem dX1_plainTerm_29 : decode cX1_plainTerm 29 = .ok (.iload_n 2, 1) := by decide +kernel
theorem dX1_plainTerm_30 : decode cX1_plainTerm 30 = .ok (.aload_n 0, 1) := by decide +kernel
theorem dX1_plainTerm_31 : decode cX1_plainTerm 31 = .ok (.getfield 25, 3) := by decide +kernel
theorem dX1_plainTerm_34 : decode cX1_plainTerm 34 = .ok (.aload 6, 2) := by decide +kernel
theorem dX1_plainTerm_36 : decode cX1_plainTerm 36 = .ok (.invokespecial 112, 3) := by decide +kernel
theorem dX1_plainTerm_39 : decode cX1_plainTerm 39 = .ok (.areturn, 1) := by decide +kernel
theorem dX1_makeSharedInto_0 : decode cX1_makeSharedInto 0 = .ok (.aload_n 2, 1) := by decide +kernel
theorem dX1_makeSharedInto_1 : decode cX1_makeSharedInto 1 = .ok (.ifnull 7, 3) := by decide +kernel
theorem dX1_makeSharedInto_4 : decode cX1_makeSharedInto 4 = .ok (.aload_n 3, 1) := by decide +kernel
theorem dX1_makeSharedInto_5 : decode cX1_makeSharedInto 5 = .ok (.ifnonnull 5, 3) := by decide +kernel
theorem dX1_makeSharedInto_8 : decode cX1_makeSharedInto 8 = .ok (.iconst (-1), 1) := by decide +kernel
theorem dX1_makeSharedInto_9 : decode cX1_makeSharedInto 9 = .ok (.ireturn, 1) := by decide +kernel
theorem dX1_makeSharedInto_10 : decode cX1_makeSharedInto 10 = .ok (.aload_n 2, 1) := by decide +kernel
theorem dX1_makeSharedInto_11 : decode cX1_makeSharedInto 11 = .ok (.getfield 115, 3) := by decide +kernel
theorem dX1_makeSharedInto_14 : decode cX1_makeSharedInto 14 = .ok (.aload_n 3, 1) := by decide +kernel
theorem dX1_makeSharedInto_15 : decode cX1_makeSharedInto 15 = .ok (.getfield 115, 3) := by decide +kernel
theorem dX1_makeSharedInto_18 : decode cX1_makeSharedInto 18 = .ok (.if_icmp .gt 7, 3) := by decide +kernel
theorem dX1_makeSharedInto_21 : decode cX1_makeSharedInto 21 = .ok (.iconst 1, 1) := by decide +kernel
theorem dX1_makeSharedInto_22 : decode cX1_makeSharedInto 22 = .ok (.goto 4, 3) := by decide +kernel
theorem dX1_makeSharedInto_25 : decode cX1_makeSharedInto 25 = .ok (.iconst 0, 1) := by decide +kernel
theorem dX1_makeSharedInto_26 : decode cX1_makeSharedInto 26 = .ok (.istore 4, 2) := by decide +kernel
theorem dX1_makeSharedInto_28 : decode cX1_makeSharedInto 28 = .ok (.aload_n 0, 1) := by decide +kernel
theorem dX1_makeSharedInto_29 : decode cX1_makeSharedInto 29 = .ok (.iload_n 1, 1) := by decide +kernel
theorem dX1_makeSharedInto_30 : decode cX1_makeSharedInto 30 = .ok (.aload_n 0, 1) := by decide +kernel
theorem dX1_makeSharedInto_31 : decode cX1_makeSharedInto 31 = .ok (.iconst 3, 1) := by decide +kernel
theorem dX1_makeSharedInto_32 : decode cX1_makeSharedInto 32 = .ok (.iconst 0, 1) := by decide +kernel
theorem dX1_makeSharedInto_33 : decode cX1_makeSharedInto 33 = .ok (.iload 4, 2) := by decide +kernel
theorem dX1_makeSharedInto_35 : decode cX1_makeSharedInto 35 = .ok (.ifCond .eq 7, 3) := by decide +kernel
theorem dX1_makeSharedInto_38 : decode cX1_makeSharedInto 38 = .ok (.aload_n 2, 1) := by decide +kernel
theorem dX1_makeSharedInto_39 : decode cX1_makeSharedInto 39 = .ok (.goto 4, 3) := by decide +kernel
theorem dX1_makeSharedInto_42 : decode cX1_makeSharedInto 42 = .ok (.aload_n 3, 1) := by decide +kernel
theorem dX1_makeSharedInto_43 : decode cX1_makeSharedInto 43 = .ok (.iload 4, 2) := by decide +kernel
theorem dX1_makeSharedInto_45 : decode cX1_makeSharedInto 45 = .ok (.ifCond .eq 7, 3) := by decide +kernel
theorem dX1_makeSharedInto_48 : decode cX1_makeSharedInto 48 = .ok (.aload_n 3, 1) := by decide +kernel
theorem dX1_makeSharedInto_49 : decode cX1_makeSharedInto 49 = .ok (.goto 4, 3) := by decide +kernel
theorem dX1_makeSharedInto_52 : decode cX1_makeSharedInto 52 = .ok (.aload_n 2, 1) := by decide +kernel
theorem dX1_makeSharedInto_53 : decode cX1_makeSharedInto 53 = .ok (.aconst_null, 1) := by decide +kernel
theorem dX1_makeSharedInto_54 : decode cX1_makeSharedInto 54 = .ok (.invokevirtual 29, 3) := by decide +kernel
theorem dX1_makeSharedInto_57 : decode cX1_makeSharedInto 57 = .ok (.invokevirtual 33, 3) := by decide +kernel
theorem dX1_makeSharedInto_60 : decode cX1_makeSharedInto 60 = .ok (.ireturn, 1) := by decide +kernel
theorem dX1_makeInto_0 : decode cX1_makeInto 0 = .ok (.iload_n 1, 1) := by decide +kernel
theorem dX1_makeInto_1 : decode cX1_makeInto 1 = .ok (.invokestatic 109, 3) := by decide +kernel
theorem dX1_makeInto_4 : decode cX1_makeInto 4 = .ok (.ifCond .ne 5, 3) := by decide +kernel
theorem dX1_makeInto_7 : decode cX1_makeInto 7 = .ok (.iconst (-1), 1) := by decide +kernel
theorem dX1_makeInto_8 : decode cX1_makeInto 8 = .ok (.ireturn, 1) := by decide +kernel
theorem dX1_makeInto_9 : decode cX1_makeInto 9 = .ok (.aload_n 0, 1) := by decide +kernel
theorem dX1_makeInto_10 : decode cX1_makeInto 10 = .ok (.aload_n 2, 1) := by decide +kernel
theorem dX1_makeInto_11 : decode cX1_makeInto 11 = .ok (.invokevirtual 118, 3) := by decide +kernel
theorem dX1_makeInto_14 : decode cX1_makeInto 14 = .ok (.astore_n 3, 1) := by decide +kernel
theorem dX1_makeInto_15 : decode cX1_makeInto 15 = .ok (.aload_n 0, 1) := by decide +kernel
theorem dX1_makeInto_16 : decode cX1_makeInto 16 = .ok (.iload_n 1, 1) := by decide +kernel
theorem dX1_makeInto_17 : decode cX1_makeInto 17 = .ok (.aload_n 3, 1) := by decide +kernel
theorem dX1_makeInto_18 : decode cX1_makeInto 18 = .ok (.ifnull 7, 3) := by decide +kernel
theorem dX1_makeInto_21 : decode cX1_makeInto 21 = .ok (.aload_n 3, 1) := by decide +kernel
theorem dX1_makeInto_22 : decode cX1_makeInto 22 = .ok (.goto 8, 3) := by decide +kernel
theorem dX1_makeInto_25 : decode cX1_makeInto 25 = .ok (.aload_n 0, 1) := by decide +kernel
theorem dX1_makeInto_26 : decode cX1_makeInto 26 = .ok (.aload_n 2, 1) := by decide +kernel
theorem dX1_makeInto_27 : decode cX1_makeInto 27 = .ok (.invokevirtual 122, 3) := by decide +kernel
theorem dX1_makeInto_30 : decode cX1_makeInto 30 = .ok (.invokevirtual 81, 3) := by decide +kernel
theorem dX1_makeInto_33 : decode cX1_makeInto 33 = .ok (.ireturn, 1) := by decide +kernel
theorem dX1_putInto_0 : decode cX1_putInto 0 = .ok (.iload_n 1, 1) := by decide +kernel
theorem dX1_putInto_1 : decode cX1_putInto 1 = .ok (.invokestatic 109, 3) := by decide +kernel
theorem dX1_putInto_4 : decode cX1_putInto 4 = .ok (.ifCond .eq 7, 3) := by decide +kernel
theorem dX1_putInto_7 : decode cX1_putInto 7 = .ok (.aload_n 2, 1) := by decide +kernel
theorem dX1_putInto_8 : decode cX1_putInto 8 = .ok (.ifnonnull 5, 3) := by decide +kernel
theorem dX1_putInto_11 : decode cX1_putInto 11 = .ok (.iconst (-1), 1) := by decide +kernel
theorem dX1_putInto_12 : decode cX1_putInto 12 = .ok (.ireturn, 1) := by decide +kernel
theorem dX1_putInto_13 : decode cX1_putInto 13 = .ok (.aload_n 0, 1) := by decide +kernel
theorem dX1_putInto_14 : decode cX1_putInto 14 = .ok (.getfield 11, 3) := by decide +kernel
theorem dX1_putInto_17 : decode cX1_putInto 17 = .ok (.iload_n 1, 1) := by decide +kernel
theorem dX1_putInto_18 : decode cX1_putInto 18 = .ok (.aload_n 2, 1) := by decide +kernel
theorem dX1_putInto_19 : decode cX1_putInto 19 = .ok (.aastore, 1) := by decide +kernel
theorem dX1_putInto_20 : decode cX1_putInto 20 = .ok (.iconst 1, 1) := by decide +kernel
theorem dX1_putInto_21 : decode cX1_putInto 21 = .ok (.ireturn, 1) := by decide +kernel
theorem dX1_findLike_0 : decode cX1_findLike 0 = .ok (.iconst 0, 1) := by decide +kernel
theorem dX1_findLike_1 : decode cX1_findLike 1 = .ok (.istore_n 2, 1) := by decide +kernel
theorem dX1_findLike_2 : decode cX1_findLike 2 = .ok (.iload_n 2, 1) := by decide +kernel
theorem dX1_findLike_3 : decode cX1_findLike 3 = .ok (.aload_n 0, 1) := by decide +kernel
theorem dX1_findLike_4 : decode cX1_findLike 4 = .ok (.getfield 18, 3) := by decide +kernel
theorem dX1_findLike_7 : decode cX1_findLike 7 = .ok (.if_icmp .ge 39, 3) := by decide +kernel
theorem dX1_findLike_10 : decode cX1_findLike 10 = .ok (.iload_n 2, 1) := by decide +kernel
theorem dX1_findLike_11 : decode cX1_findLike 11 = .ok (.aload_n 0, 1) := by decide +kernel
theorem dX1_findLike_12 : decode cX1_findLike 12 = .ok (.getfield 15, 3) := by decide +kernel
theorem dX1_findLike_15 : decode cX1_findLike 15 = .ok (.arraylength, 1) := by decide +kernel
theorem dX1_findLike_16 : decode cX1_findLike 16 = .ok (.if_icmp .ge 30, 3) := by decide +kernel
theorem dX1_findLike_19 : decode cX1_findLike 19 = .ok (.aload_n 0, 1) := by decide +kernel
theorem dX1_findLike_20 : decode cX1_findLike 20 = .ok (.getfield 15, 3) := by decide +kernel
theorem dX1_findLike_23 : decode cX1_findLike 23 = .ok (.iload_n 2, 1) := by decide +kernel
theorem dX1_findLike_24 : decode cX1_findLike 24 = .ok (.aaload, 1) := by decide +kernel
theorem dX1_findLike_25 : decode cX1_findLike 25 = .ok (.astore_n 3, 1) := by decide +kernel
theorem dX1_findLike_26 : decode cX1_findLike 26 = .ok (.aload_n 3, 1) := by decide +kernel
theorem dX1_findLike_27 : decode cX1_findLike 27 = .ok (.ifnull 13, 3) := by decide +kernel
theorem dX1_findLike_30 : decode cX1_findLike 30 = .ok (.aload_n 3, 1) := by decide +kernel
theorem dX1_findLike_31 : decode cX1_findLike 31 = .ok (.aload_n 1, 1) := by decide +kernel
theorem dX1_findLike_32 : decode cX1_findLike 32 = .ok (.invokevirtual 125, 3) := by decide +kernel
theorem dX1_findLike_35 : decode cX1_findLike 35 = .ok (.ifCond .eq 5, 3) := by decide +kernel
theorem dX1_findLike_38 : decode cX1_findLike 38 = .ok (.aload_n 3, 1) := by decide +kernel
theorem dX1_findLike_39 : decode cX1_findLike 39 = .ok (.areturn, 1) := by decide +kernel
theorem dX1_findLike_40 : decode cX1_findLike 40 = .ok (.iinc 2 1, 3) := by decide +kernel
theorem dX1_findLike_43 : decode cX1_findLike 43 = .ok (.goto (-41), 3) := by decide +kernel
theorem dX1_findLike_46 : decode cX1_findLike 46 = .ok (.aconst_null, 1) := by decide +kernel
theorem dX1_findLike_47 : decode cX1_findLike 47 = .ok (.areturn, 1) := by decide +kernel
theorem dX1_keep_0 : decode cX1_keep 0 = .ok (.aload_n 0, 1) := by decide +kernel
theorem dX1_keep_1 : decode cX1_keep 1 = .ok (.getfield 18, 3) := by decide +kernel
theorem dX1_keep_4 : decode cX1_keep 4 = .ok (.ifCond .lt 15, 3) := by decide +kernel
theorem dX1_keep_7 : decode cX1_keep 7 = .ok (.aload_n 0, 1) := by decide +kernel
theorem dX1_keep_8 : decode cX1_keep 8 = .ok (.getfield 18, 3) := by decide +kernel
theorem dX1_keep_11 : decode cX1_keep 11 = .ok (.aload_n 0, 1) := by decide +kernel
theorem dX1_keep_12 : decode cX1_keep 12 = .ok (.getfield 15, 3) := by decide +kernel
theorem dX1_keep_15 : decode cX1_keep 15 = .ok (.arraylength, 1) := by decide +kernel
theorem dX1_keep_16 : decode cX1_keep 16 = .ok (.if_icmp .lt 5, 3) := by decide +kernel
theorem dX1_keep_19 : decode cX1_keep 19 = .ok (.aconst_null, 1) := by decide +kernel
theorem dX1_keep_20 : decode cX1_keep 20 = .ok (.areturn, 1) := by decide +kernel
theorem dX1_keep_21 : decode cX1_keep 21 = .ok (.aload_n 1, 1) := by decide +kernel
theorem dX1_keep_22 : decode cX1_keep 22 = .ok (.aload_n 0, 1) := by decide +kernel
theorem dX1_keep_23 : decode cX1_keep 23 = .ok (.getfield 18, 3) := by decide +kernel
theorem dX1_keep_26 : decode cX1_keep 26 = .ok (.putfield 115, 3) := by decide +kernel
theorem dX1_keep_29 : decode cX1_keep 29 = .ok (.aload_n 0, 1) := by decide +kernel
theorem dX1_keep_30 : decode cX1_keep 30 = .ok (.getfield 15, 3) := by decide +kernel
theorem dX1_keep_33 : decode cX1_keep 33 = .ok (.aload_n 0, 1) := by decide +kernel
theorem dX1_keep_34 : decode cX1_keep 34 = .ok (.getfield 18, 3) := by decide +kernel
theorem dX1_keep_37 : decode cX1_keep 37 = .ok (.aload_n 1, 1) := by decide +kernel
theorem dX1_keep_38 : decode cX1_keep 38 = .ok (.aastore, 1) := by decide +kernel
theorem dX1_keep_39 : decode cX1_keep 39 = .ok (.aload_n 0, 1) := by decide +kernel
theorem dX1_keep_40 : decode cX1_keep 40 = .ok (.dup, 1) := by decide +kernel
theorem dX1_keep_41 : decode cX1_keep 41 = .ok (.getfield 18, 3) := by decide +kernel
theorem dX1_keep_44 : decode cX1_keep 44 = .ok (.iconst 1, 1) := by decide +kernel
theorem dX1_keep_45 : decode cX1_keep 45 = .ok (.iadd, 1) := by decide +kernel
theorem dX1_keep_46 : decode cX1_keep 46 = .ok (.putfield 18, 3) := by decide +kernel
theorem dX1_keep_49 : decode cX1_keep 49 = .ok (.aload_n 1, 1) := by decide +kernel
theorem dX1_keep_50 : decode cX1_keep 50 = .ok (.invokevirtual 128, 3) := by decide +kernel
theorem dX1_keep_53 : decode cX1_keep 53 = .ok (.ifCond .eq 8, 3) := by decide +kernel
theorem dX1_keep_56 : decode cX1_keep 56 = .ok (.aload_n 0, 1) := by decide +kernel
theorem dX1_keep_57 : decode cX1_keep 57 = .ok (.aload_n 1, 1) := by decide +kernel
theorem dX1_keep_58 : decode cX1_keep 58 = .ok (.invokevirtual 88, 3) := by decide +kernel
theorem dX1_keep_61 : decode cX1_keep 61 = .ok (.aload_n 1, 1) := by decide +kernel
theorem dX1_keep_62 : decode cX1_keep 62 = .ok (.areturn, 1) := by decide +kernel
theorem dX1_derive_0 : decode cX1_derive 0 = .ok (.aload_n 1, 1) := by decide +kernel
theorem dX1_derive_1 : decode cX1_derive 1 = .ok (.ifnull 10, 3) := by decide +kernel
theorem dX1_derive_4 : decode cX1_derive 4 = .ok (.aload_n 1, 1) := by decide +kernel
theorem dX1_derive_5 : decode cX1_derive 5 = .ok (.getfield 84, 3) := by decide +kernel
theorem dX1_derive_8 : decode cX1_derive 8 = .ok (.ifCond .eq 4, 3) := by decide +kernel
theorem dX1_derive_11 : decode cX1_derive 11 = .ok (.return_, 1) := by decide +kernel
theorem dX1_derive_12 : decode cX1_derive 12 = .ok (.aload_n 1, 1) := by decide +kernel
theorem dX1_derive_13 : decode cX1_derive 13 = .ok (.iconst 1, 1) := by decide +kernel
theorem dX1_derive_14 : decode cX1_derive 14 = .ok (.putfield 84, 3) := by decide +kernel
theorem dX1_derive_17 : decode cX1_derive 17 = .ok (.aload_n 0, 1) := by decide +kernel
theorem dX1_derive_18 : decode cX1_derive 18 = .ok (.dup, 1) := by decide +kernel
theorem dX1_derive_19 : decode cX1_derive 19 = .ok (.getfield 22, 3) := by decide +kernel
theorem dX1_derive_22 : decode cX1_derive 22 = .ok (.iconst 1, 1) := by decide +kernel
theorem dX1_derive_23 : decode cX1_derive 23 = .ok (.iadd, 1) := by decide +kernel
theorem dX1_derive_24 : decode cX1_derive 24 = .ok (.putfield 22, 3) := by decide +kernel
theorem dX1_derive_27 : decode cX1_derive 27 = .ok (.aload_n 1, 1) := by decide +kernel
theorem dX1_derive_28 : decode cX1_derive 28 = .ok (.getfield 78, 3) := by decide +kernel
theorem dX1_derive_31 : decode cX1_derive 31 = .ok (.iconst 2, 1) := by decide +kernel
theorem dX1_derive_32 : decode cX1_derive 32 = .ok (.if_icmp .ne 11, 3) := by decide +kernel
theorem dX1_derive_35 : decode cX1_derive 35 = .ok (.aload_n 1, 1) := by decide +kernel
theorem dX1_derive_36 : decode cX1_derive 36 = .ok (.iconst 0, 1) := by decide +kernel
theorem dX1_derive_37 : decode cX1_derive 37 = .ok (.invokevirtual 45, 3) := by decide +kernel
theorem dX1_derive_40 : decode cX1_derive 40 = .ok (.goto 4, 3) := by decide +kernel
theorem dX1_derive_43 : decode cX1_derive 43 = .ok (.aload_n 1, 1) := by decide +kernel
theorem dX1_derive_44 : decode cX1_derive 44 = .ok (.astore_n 2, 1) := by decide +kernel
theorem dX1_derive_45 : decode cX1_derive 45 = .ok (.aload_n 2, 1) := by decide +kernel
theorem dX1_derive_46 : decode cX1_derive 46 = .ok (.ifnull 16, 3) := by decide +kernel
theorem dX1_derive_49 : decode cX1_derive 49 = .ok (.aload_n 2, 1) := by decide +kernel
theorem dX1_derive_50 : decode cX1_derive 50 = .ok (.getfield 78, 3) := by decide +kernel
theorem dX1_derive_53 : decode cX1_derive 53 = .ok (.iconst 1, 1) := by decide +kernel
theorem dX1_derive_54 : decode cX1_derive 54 = .ok (.if_icmp .ne 8, 3) := by decide +kernel
theorem dX1_derive_57 : decode cX1_derive 57 = .ok (.aload_n 2, 1) := by decide +kernel
theorem dX1_derive_58 : decode cX1_derive 58 = .ok (.iconst 1, 1) := by decide +kernel
theorem dX1_derive_59 : decode cX1_derive 59 = .ok (.putfield 132, 3) := by decide +kernel
theorem dX1_derive_62 : decode cX1_derive 62 = .ok (.return_, 1) := by decide +kernel
theorem dX1_spread_0 : decode cX1_spread 0 = .ok (.iconst 1, 1) := by decide +kernel
theorem dX1_spread_1 : decode cX1_spread 1 = .ok (.istore_n 1, 1) := by decide +kernel
theorem dX1_spread_2 : decode cX1_spread 2 = .ok (.iconst 0, 1) := by decide +kernel
theorem dX1_spread_3 : decode cX1_spread 3 = .ok (.istore_n 2, 1) := by decide +kernel
theorem dX1_spread_4 : decode cX1_spread 4 = .ok (.iload_n 1, 1) := by decide +kernel
theorem dX1_spread_5 : decode cX1_spread 5 = .ok (.ifCond .eq 43, 3) := by decide +kernel
theorem dX1_spread_8 : decode cX1_spread 8 = .ok (.iload_n 2, 1) := by decide +kernel
theorem dX1_spread_9 : decode cX1_spread 9 = .ok (.sipush 512, 3) := by decide +kernel
theorem dX1_spread_12 : decode cX1_spread 12 = .ok (.if_icmp .gt 36, 3) := by decide +kernel
theorem dX1_spread_15 : decode cX1_spread 15 = .ok (.aload_n 0, 1) := by decide +kernel
theorem dX1_spread_16 : decode cX1_spread 16 = .ok (.getfield 22, 3) := by decide +kernel
theorem dX1_spread_19 : decode cX1_spread 19 = .ok (.istore_n 3, 1) := by decide +kernel
theorem dX1_spread_20 : decode cX1_spread 20 = .ok (.aload_n 0, 1) := by decide +kernel
theorem dX1_spread_21 : decode cX1_spread 21 = .ok (.invokevirtual 135, 3) := by decide +kernel
theorem dX1_spread_24 : decode cX1_spread 24 = .ok (.aload_n 0, 1) := by decide +kernel
theorem dX1_spread_25 : decode cX1_spread 25 = .ok (.invokevirtual 138, 3) := by decide +kernel
theorem dX1_spread_28 : decode cX1_spread 28 = .ok (.aload_n 0, 1) := by decide +kernel
theorem dX1_spread_29 : decode cX1_spread 29 = .ok (.getfield 22, 3) := by decide +kernel
theorem dX1_spread_32 : decode cX1_spread 32 = .ok (.iload_n 3, 1) := by decide +kernel
theorem dX1_spread_33 : decode cX1_spread 33 = .ok (.if_icmp .le 7, 3) := by decide +kernel
theorem dX1_spread_36 : decode cX1_spread 36 = .ok (.iconst 1, 1) := by decide +kernel
theorem dX1_spread_37 : decode cX1_spread 37 = .ok (.goto 4, 3) := by decide +kernel
theorem dX1_spread_40 : decode cX1_spread 40 = .ok (.iconst 0, 1) := by decide +kernel
theorem dX1_spread_41 : decode cX1_spread 41 = .ok (.istore_n 1, 1) := by decide +kernel
theorem dX1_spread_42 : decode cX1_spread 42 = .ok (.iinc 2 1, 3) := by decide +kernel
theorem dX1_spread_45 : decode cX1_spread 45 = .ok (.goto (-41), 3) := by decide +kernel
theorem dX1_spread_48 : decode cX1_spread 48 = .ok (.return_, 1) := by decide +kernel
theorem dX1_takeAllApart_0 : decode cX1_takeAllApart 0 = .ok (.aload_n 0, 1) := by decide +kernel
theorem dX1_takeAllApart_1 : decode cX1_takeAllApart 1 = .ok (.getfield 18, 3) := by decide +kernel
theorem dX1_takeAllApart_4 : decode cX1_takeAllApart 4 = .ok (.aload_n 0, 1) := by decide +kernel
theorem dX1_takeAllApart_5 : decode cX1_takeAllApart 5 = .ok (.getfield 15, 3) := by decide +kernel
theorem dX1_takeAllApart_8 : decode cX1_takeAllApart 8 = .ok (.arraylength, 1) := by decide +kernel
theorem dX1_takeAllApart_9 : decode cX1_takeAllApart 9 = .ok (.invokestatic 141, 3) := by decide +kernel
theorem dX1_takeAllApart_12 : decode cX1_takeAllApart 12 = .ok (.iconst 1, 1) := by decide +kernel
theorem dX1_takeAllApart_13 : decode cX1_takeAllApart 13 = .ok (.isub, 1) := by decide +kernel
theorem dX1_takeAllApart_14 : decode cX1_takeAllApart 14 = .ok (.istore_n 1, 1) := by decide +kernel
theorem dX1_takeAllApart_15 : decode cX1_takeAllApart 15 = .ok (.iload_n 1, 1) := by decide +kernel
theorem dX1_takeAllApart_16 : decode cX1_takeAllApart 16 = .ok (.ifCond .lt 32, 3) := by decide +kernel
theorem dX1_takeAllApart_19 : decode cX1_takeAllApart 19 = .ok (.aload_n 0, 1) := by decide +kernel
theorem dX1_takeAllApart_20 : decode cX1_takeAllApart 20 = .ok (.getfield 15, 3) := by decide +kernel
theorem dX1_takeAllApart_23 : decode cX1_takeAllApart 23 = .ok (.iload_n 1, 1) := by decide +kernel
theorem dX1_takeAllApart_24 : decode cX1_takeAllApart 24 = .ok (.aaload, 1) := by decide +kernel
theorem dX1_takeAllApart_25 : decode cX1_takeAllApart 25 = .ok (.astore_n 2, 1) := by decide +kernel
theorem dX1_takeAllApart_26 : decode cX1_takeAllApart 26 = .ok (.aload_n 2, 1) := by decide +kernel
theorem dX1_takeAllApart_27 : decode cX1_takeAllApart 27 = .ok (.ifnull 15, 3) := by decide +kernel
theorem dX1_takeAllApart_30 : decode cX1_takeAllApart 30 = .ok (.aload_n 2, 1) := by decide +kernel
theorem dX1_takeAllApart_31 : decode cX1_takeAllApart 31 = .ok (.getfield 84, 3) := by decide +kernel
theorem dX1_takeAllApart_34 : decode cX1_takeAllApart 34 = .ok (.ifCond .eq 8, 3) := by decide +kernel
theorem dX1_takeAllApart_37 : decode cX1_takeAllApart 37 = .ok (.aload_n 0, 1) := by decide +kernel
theorem dX1_takeAllApart_38 : decode cX1_takeAllApart 38 = .ok (.aload_n 2, 1) := by decide +kernel
theorem dX1_takeAllApart_39 : decode cX1_takeAllApart 39 = .ok (.invokevirtual 147, 3) := by decide +kernel
theorem dX1_takeAllApart_42 : decode cX1_takeAllApart 42 = .ok (.iinc 1 (-1), 3) := by decide +kernel
theorem dX1_takeAllApart_45 : decode cX1_takeAllApart 45 = .ok (.goto (-30), 3) := by decide +kernel
theorem dX1_takeAllApart_48 : decode cX1_takeAllApart 48 = .ok (.return_, 1) := by decide +kernel
theorem dX1_putAllTogether_0 : decode cX1_putAllTogether 0 = .ok (.iconst 0, 1) := by decide +kernel
theorem dX1_putAllTogether_1 : decode cX1_putAllTogether 1 = .ok (.istore_n 1, 1) := by decide +kernel
theorem dX1_putAllTogether_2 : decode cX1_putAllTogether 2 = .ok (.iload_n 1, 1) := by decide +kernel
theorem dX1_putAllTogether_3 : decode cX1_putAllTogether 3 = .ok (.aload_n 0, 1) := by decide +kernel
theorem dX1_putAllTogether_4 : decode cX1_putAllTogether 4 = .ok (.getfield 18, 3) := by decide +kernel
theorem dX1_putAllTogether_7 : decode cX1_putAllTogether 7 = .ok (.if_icmp .ge 48, 3) := by decide +kernel
theorem dX1_putAllTogether_10 : decode cX1_putAllTogether 10 = .ok (.iload_n 1, 1) := by decide +kernel
theorem dX1_putAllTogether_11 : decode cX1_putAllTogether 11 = .ok (.aload_n 0, 1) := by decide +kernel
theorem dX1_putAllTogether_12 : decode cX1_putAllTogether 12 = .ok (.getfield 15, 3) := by decide +kernel
theorem dX1_putAllTogether_15 : decode cX1_putAllTogether 15 = .ok (.arraylength, 1) := by decide +kernel
theorem dX1_putAllTogether_16 : decode cX1_putAllTogether 16 = .ok (.if_icmp .ge 39, 3) := by decide +kernel
theorem dX1_putAllTogether_19 : decode cX1_putAllTogether 19 = .ok (.aload_n 0, 1) := by decide +kernel
theorem dX1_putAllTogether_20 : decode cX1_putAllTogether 20 = .ok (.getfield 15, 3) := by decide +kernel
theorem dX1_putAllTogether_23 : decode cX1_putAllTogether 23 = .ok (.iload_n 1, 1) := by decide +kernel
theorem dX1_putAllTogether_24 : decode cX1_putAllTogether 24 = .ok (.aaload, 1) := by decide +kernel
theorem dX1_putAllTogether_25 : decode cX1_putAllTogether 25 = .ok (.astore_n 2, 1) := by decide +kernel
theorem dX1_putAllTogether_26 : decode cX1_putAllTogether 26 = .ok (.aload_n 2, 1) := by decide +kernel
theorem dX1_putAllTogether_27 : decode cX1_putAllTogether 27 = .ok (.ifnull 22, 3) := by decide +kernel
theorem dX1_putAllTogether_30 : decode cX1_putAllTogether 30 = .ok (.aload_n 2, 1) := by decide +kernel
theorem dX1_putAllTogether_31 : decode cX1_putAllTogether 31 = .ok (.getfield 84, 3) := by decide +kernel
theorem dX1_putAllTogether_34 : decode cX1_putAllTogether 34 = .ok (.ifCond .ne 15, 3) := by decide +kernel
theorem dX1_putAllTogether_37 : decode cX1_putAllTogether 37 = .ok (.aload_n 2, 1) := by decide +kernel
theorem dX1_putAllTogether_38 : decode cX1_putAllTogether 38 = .ok (.invokevirtual 128, 3) := by decide +kernel
theorem dX1_putAllTogether_41 : decode cX1_putAllTogether 41 = .ok (.ifCond .eq 8, 3) := by decide +kernel
theorem dX1_putAllTogether_44 : decode cX1_putAllTogether 44 = .ok (.aload_n 0, 1) := by decide +kernel
theorem dX1_putAllTogether_45 : decode cX1_putAllTogether 45 = .ok (.aload_n 2, 1) := by decide +kernel
theorem dX1_putAllTogether_46 : decode cX1_putAllTogether 46 = .ok (.invokevirtual 88, 3) := by decide +kernel
theorem dX1_putAllTogether_49 : decode cX1_putAllTogether 49 = .ok (.iinc 1 1, 3) := by decide +kernel
theorem dX1_putAllTogether_52 : decode cX1_putAllTogether 52 = .ok (.goto (-50), 3) := by decide +kernel
theorem dX1_putAllTogether_55 : decode cX1_putAllTogether 55 = .ok (.return_, 1) := by decide +kernel
theorem dX1_takeApart_0 : decode cX1_takeApart 0 = .ok (.aload_n 1, 1) := by decide +kernel
theorem dX1_takeApart_1 : decode cX1_takeApart 1 = .ok (.getfield 78, 3) := by decide +kernel
theorem dX1_takeApart_4 : decode cX1_takeApart 4 = .ok (.bipush 7, 2) := by decide +kernel
theorem dX1_takeApart_6 : decode cX1_takeApart 6 = .ok (.if_icmp .ne 28, 3) := by decide +kernel
theorem dX1_takeApart_9 : decode cX1_takeApart 9 = .ok (.iconst 0, 1) := by decide +kernel
theorem dX1_takeApart_10 : decode cX1_takeApart 10 = .ok (.istore_n 2, 1) := by decide +kernel
theorem dX1_takeApart_11 : decode cX1_takeApart 11 = .ok (.iload_n 2, 1) := by decide +kernel
theorem dX1_takeApart_12 : decode cX1_takeApart 12 = .ok (.iconst 4, 1) := by decide +kernel
theorem dX1_takeApart_13 : decode cX1_takeApart 13 = .ok (.if_icmp .ge 18, 3) := by decide +kernel
theorem dX1_takeApart_16 : decode cX1_takeApart 16 = .ok (.aload_n 0, 1) := by decide +kernel
theorem dX1_takeApart_17 : decode cX1_takeApart 17 = .ok (.aload_n 1, 1) := by decide +kernel
theorem dX1_takeApart_18 : decode cX1_takeApart 18 = .ok (.iload_n 2, 1) := by decide +kernel
theorem dX1_takeApart_19 : decode cX1_takeApart 19 = .ok (.invokevirtual 45, 3) := by decide +kernel
theorem dX1_takeApart_22 : decode cX1_takeApart 22 = .ok (.invokevirtual 88, 3) := by decide +kernel
theorem dX1_takeApart_25 : decode cX1_takeApart 25 = .ok (.iinc 2 1, 3) := by decide +kernel
theorem dX1_takeApart_28 : decode cX1_takeApart 28 = .ok (.goto (-17), 3) := by decide +kernel
theorem dX1_takeApart_31 : decode cX1_takeApart 31 = .ok (.goto 58, 3) := by decide +kernel
theorem dX1_takeApart_34 : decode cX1_takeApart 34 = .ok (.aload_n 1, 1) := by decide +kernel
theorem dX1_takeApart_35 : decode cX1_takeApart 35 = .ok (.getfield 78, 3) := by decide +kernel
theorem dX1_takeApart_38 : decode cX1_takeApart 38 = .ok (.iconst 5, 1) := by decide +kernel
theorem dX1_takeApart_39 : decode cX1_takeApart 39 = .ok (.if_icmp .ne 32, 3) := by decide +kernel
theorem dX1_takeApart_42 : decode cX1_takeApart 42 = .ok (.aload_n 0, 1) := by decide +kernel
theorem dX1_takeApart_43 : decode cX1_takeApart 43 = .ok (.aload_n 1, 1) := by decide +kernel
theorem dX1_takeApart_44 : decode cX1_takeApart 44 = .ok (.iconst 1, 1) := by decide +kernel
theorem dX1_takeApart_45 : decode cX1_takeApart 45 = .ok (.invokevirtual 45, 3) := by decide +kernel
theorem dX1_takeApart_48 : decode cX1_takeApart 48 = .ok (.invokevirtual 88, 3) := by decide +kernel
theorem dX1_takeApart_51 : decode cX1_takeApart 51 = .ok (.aload_n 1, 1) := by decide +kernel
theorem dX1_takeApart_52 : decode cX1_takeApart 52 = .ok (.iconst 0, 1) := by decide +kernel
theorem dX1_takeApart_53 : decode cX1_takeApart 53 = .ok (.invokevirtual 150, 3) := by decide +kernel
theorem dX1_takeApart_56 : decode cX1_takeApart 56 = .ok (.ifCond .eq 33, 3) := by decide +kernel
theorem dX1_takeApart_59 : decode cX1_takeApart 59 = .ok (.aload_n 0, 1) := by decide +kernel
theorem dX1_takeApart_60 : decode cX1_takeApart 60 = .ok (.aload_n 1, 1) := by decide +kernel
theorem dX1_takeApart_61 : decode cX1_takeApart 61 = .ok (.iconst 2, 1) := by decide +kernel
theorem dX1_takeApart_62 : decode cX1_takeApart 62 = .ok (.invokevirtual 45, 3) := by decide +kernel
theorem dX1_takeApart_65 : decode cX1_takeApart 65 = .ok (.invokevirtual 88, 3) := by decide +kernel
theorem dX1_takeApart_68 : decode cX1_takeApart 68 = .ok (.goto 21, 3) := by decide +kernel
theorem dX1_takeApart_71 : decode cX1_takeApart 71 = .ok (.aload_n 1, 1) := by decide +kernel
theorem dX1_takeApart_72 : decode cX1_takeApart 72 = .ok (.getfield 78, 3) := by decide +kernel
theorem dX1_takeApart_75 : decode cX1_takeApart 75 = .ok (.bipush 6, 2) := by decide +kernel
theorem dX1_takeApart_77 : decode cX1_takeApart 77 = .ok (.if_icmp .ne 12, 3) := by decide +kernel
theorem dX1_takeApart_80 : decode cX1_takeApart 80 = .ok (.aload_n 0, 1) := by decide +kernel
theorem dX1_takeApart_81 : decode cX1_takeApart 81 = .ok (.aload_n 1, 1) := by decide +kernel
theorem dX1_takeApart_82 : decode cX1_takeApart 82 = .ok (.iconst 1, 1) := by decide +kernel
theorem dX1_takeApart_83 : decode cX1_takeApart 83 = .ok (.invokevirtual 45, 3) := by decide +kernel
theorem dX1_takeApart_86 : decode cX1_takeApart 86 = .ok (.invokevirtual 88, 3) := by decide +kernel
theorem dX1_takeApart_89 : decode cX1_takeApart 89 = .ok (.return_, 1) := by decide +kernel
theorem dX1_hasGoodNumbers_0 : decode cX1_hasGoodNumbers 0 = .ok (.iconst 0, 1) := by decide +kernel
theorem dX1_hasGoodNumbers_1 : decode cX1_hasGoodNumbers 1 = .ok (.istore_n 1, 1) := by decide +kernel
theorem dX1_hasGoodNumbers_2 : decode cX1_hasGoodNumbers 2 = .ok (.iload_n 1, 1) := by decide +kernel
theorem dX1_hasGoodNumbers_3 : decode cX1_hasGoodNumbers 3 = .ok (.iconst 4, 1) := by decide +kernel
theorem dX1_hasGoodNumbers_4 : decode cX1_hasGoodNumbers 4 = .ok (.if_icmp .ge 66, 3) := by decide +kernel
theorem dX1_hasGoodNumbers_7 : decode cX1_hasGoodNumbers 7 = .ok (.aload_n 0, 1) := by decide +kernel
theorem dX1_hasGoodNumbers_8 : decode cX1_hasGoodNumbers 8 = .ok (.getfield 102, 3) := by decide +kernel
theorem dX1_hasGoodNumbers_11 : decode cX1_hasGoodNumbers 11 = .ok (.iload_n 1, 1) := by decide +kernel
theorem dX1_hasGoodNumbers_12 : decode cX1_hasGoodNumbers 12 = .ok (.invokestatic 153, 3) := by decide +kernel
theorem dX1_hasGoodNumbers_15 : decode cX1_hasGoodNumbers 15 = .ok (.istore_n 2, 1) := by decide +kernel
theorem dX1_hasGoodNumbers_16 : decode cX1_hasGoodNumbers 16 = .ok (.iload_n 2, 1) := by decide +kernel
theorem dX1_hasGoodNumbers_17 : decode cX1_hasGoodNumbers 17 = .ok (.ifCond .lt 19, 3) := by decide +kernel
theorem dX1_hasGoodNumbers_20 : decode cX1_hasGoodNumbers 20 = .ok (.iload_n 2, 1) := by decide +kernel
theorem dX1_hasGoodNumbers_21 : decode cX1_hasGoodNumbers 21 = .ok (.getstatic 156, 3) := by decide +kernel
theorem dX1_hasGoodNumbers_24 : decode cX1_hasGoodNumbers 24 = .ok (.arraylength, 1) := by decide +kernel
theorem dX1_hasGoodNumbers_25 : decode cX1_hasGoodNumbers 25 = .ok (.if_icmp .ge 11, 3) := by decide +kernel
theorem dX1_hasGoodNumbers_28 : decode cX1_hasGoodNumbers 28 = .ok (.iload_n 2, 1) := by decide +kernel
theorem dX1_hasGoodNumbers_29 : decode cX1_hasGoodNumbers 29 = .ok (.getstatic 159, 3) := by decide +kernel
theorem dX1_hasGoodNumbers_32 : decode cX1_hasGoodNumbers 32 = .ok (.arraylength, 1) := by decide +kernel
theorem dX1_hasGoodNumbers_33 : decode cX1_hasGoodNumbers 33 = .ok (.if_icmp .lt 5, 3) := by decide +kernel
theorem dX1_hasGoodNumbers_36 : decode cX1_hasGoodNumbers 36 = .ok (.iconst 0, 1) := by decide +kernel
theorem dX1_hasGoodNumbers_37 : decode cX1_hasGoodNumbers 37 = .ok (.ireturn, 1) := by decide +kernel
theorem dX1_hasGoodNumbers_38 : decode cX1_hasGoodNumbers 38 = .ok (.aload_n 0, 1) := by decide +kernel
theorem dX1_hasGoodNumbers_39 : decode cX1_hasGoodNumbers 39 = .ok (.iload_n 1, 1) := by decide +kernel
theorem dX1_hasGoodNumbers_40 : decode cX1_hasGoodNumbers 40 = .ok (.invokevirtual 105, 3) := by decide +kernel
theorem dX1_hasGoodNumbers_43 : decode cX1_hasGoodNumbers 43 = .ok (.istore_n 3, 1) := by decide +kernel
theorem dX1_hasGoodNumbers_44 : decode cX1_hasGoodNumbers 44 = .ok (.iload_n 3, 1) := by decide +kernel
theorem dX1_hasGoodNumbers_45 : decode cX1_hasGoodNumbers 45 = .ok (.getstatic 156, 3) := by decide +kernel
theorem dX1_hasGoodNumbers_48 : decode cX1_hasGoodNumbers 48 = .ok (.iload_n 2, 1) := by decide +kernel
theorem dX1_hasGoodNumbers_49 : decode cX1_hasGoodNumbers 49 = .ok (.iaload, 1) := by decide +kernel
theorem dX1_hasGoodNumbers_50 : decode cX1_hasGoodNumbers 50 = .ok (.if_icmp .lt 12, 3) := by decide +kernel
theorem dX1_hasGoodNumbers_53 : decode cX1_hasGoodNumbers 53 = .ok (.iload_n 3, 1) := by decide +kernel
theorem dX1_hasGoodNumbers_54 : decode cX1_hasGoodNumbers 54 = .ok (.getstatic 159, 3) := by decide +kernel
theorem dX1_hasGoodNumbers_57 : decode cX1_hasGoodNumbers 57 = .ok (.iload_n 2, 1) := by decide +kernel
theorem dX1_hasGoodNumbers_58 : decode cX1_hasGoodNumbers 58 = .ok (.iaload, 1) := by decide +kernel
theorem dX1_hasGoodNumbers_59 : decode cX1_hasGoodNumbers 59 = .ok (.if_icmp .le 5, 3) := by decide +kernel
theorem dX1_hasGoodNumbers_62 : decode cX1_hasGoodNumbers 62 = .ok (.iconst 0, 1) := by decide +kernel
theorem dX1_hasGoodNumbers_63 : decode cX1_hasGoodNumbers 63 = .ok (.ireturn, 1) := by decide +kernel
theorem dX1_hasGoodNumbers_64 : decode cX1_hasGoodNumbers 64 = .ok (.iinc 1 1, 3) := by decide +kernel
theorem dX1_hasGoodNumbers_67 : decode cX1_hasGoodNumbers 67 = .ok (.goto (-65), 3) := by decide +kernel
theorem dX1_hasGoodNumbers_70 : decode cX1_hasGoodNumbers 70 = .ok (.iconst 1, 1) := by decide +kernel
theorem dX1_hasGoodNumbers_71 : decode cX1_hasGoodNumbers 71 = .ok (.ireturn, 1) := by decide +kernel
theorem dX1_hasGoodTerms_0 : decode cX1_hasGoodTerms 0 = .ok (.iconst 0, 1) := by decide +kernel
theorem dX1_hasGoodTerms_1 : decode cX1_hasGoodTerms 1 = .ok (.istore_n 1, 1) := by decide +kernel
theorem dX1_hasGoodTerms_2 : decode cX1_hasGoodTerms 2 = .ok (.iconst 0, 1) := by decide +kernel
theorem dX1_hasGoodTerms_3 : decode cX1_hasGoodTerms 3 = .ok (.istore_n 2, 1) := by decide +kernel
theorem dX1_hasGoodTerms_4 : decode cX1_hasGoodTerms 4 = .ok (.iload_n 2, 1) := by decide +kernel
theorem dX1_hasGoodTerms_5 : decode cX1_hasGoodTerms 5 = .ok (.iconst 4, 1) := by decide +kernel
theorem dX1_hasGoodTerms_6 : decode cX1_hasGoodTerms 6 = .ok (.if_icmp .ge 74, 3) := by decide +kernel
theorem dX1_hasGoodTerms_9 : decode cX1_hasGoodTerms 9 = .ok (.aload_n 0, 1) := by decide +kernel
theorem dX1_hasGoodTerms_10 : decode cX1_hasGoodTerms 10 = .ok (.getfield 102, 3) := by decide +kernel
theorem dX1_hasGoodTerms_13 : decode cX1_hasGoodTerms 13 = .ok (.iload_n 2, 1) := by decide +kernel
theorem dX1_hasGoodTerms_14 : decode cX1_hasGoodTerms 14 = .ok (.invokestatic 153, 3) := by decide +kernel
theorem dX1_hasGoodTerms_17 : decode cX1_hasGoodTerms 17 = .ok (.istore_n 3, 1) := by decide +kernel
theorem dX1_hasGoodTerms_18 : decode cX1_hasGoodTerms 18 = .ok (.iload_n 3, 1) := by decide +kernel
theorem dX1_hasGoodTerms_19 : decode cX1_hasGoodTerms 19 = .ok (.ifCond .lt 11, 3) := by decide +kernel
theorem dX1_hasGoodTerms_22 : decode cX1_hasGoodTerms 22 = .ok (.iload_n 3, 1) := by decide +kernel
theorem dX1_hasGoodTerms_23 : decode cX1_hasGoodTerms 23 = .ok (.getstatic 162, 3) := by decide +kernel
theorem dX1_hasGoodTerms_26 : decode cX1_hasGoodTerms 26 = .ok (.arraylength, 1) := by decide +kernel
theorem dX1_hasGoodTerms_27 : decode cX1_hasGoodTerms 27 = .ok (.if_icmp .lt 5, 3) := by decide +kernel
theorem dX1_hasGoodTerms_30 : decode cX1_hasGoodTerms 30 = .ok (.iconst 0, 1) := by decide +kernel
theorem dX1_hasGoodTerms_31 : decode cX1_hasGoodTerms 31 = .ok (.ireturn, 1) := by decide +kernel
theorem dX1_hasGoodTerms_32 : decode cX1_hasGoodTerms 32 = .ok (.aload_n 0, 1) := by decide +kernel
theorem dX1_hasGoodTerms_33 : decode cX1_hasGoodTerms 33 = .ok (.iload_n 2, 1) := by decide +kernel
theorem dX1_hasGoodTerms_34 : decode cX1_hasGoodTerms 34 = .ok (.invokevirtual 45, 3) := by decide +kernel
theorem dX1_hasGoodTerms_37 : decode cX1_hasGoodTerms 37 = .ok (.astore 4, 2) := by decide +kernel
theorem dX1_hasGoodTerms_39 : decode cX1_hasGoodTerms 39 = .ok (.aload 4, 2) := by decide +kernel
theorem dX1_hasGoodTerms_41 : decode cX1_hasGoodTerms 41 = .ok (.getstatic 162, 3) := by decide +kernel
theorem dX1_hasGoodTerms_44 : decode cX1_hasGoodTerms 44 = .ok (.iload_n 3, 1) := by decide +kernel
theorem dX1_hasGoodTerms_45 : decode cX1_hasGoodTerms 45 = .ok (.iaload, 1) := by decide +kernel
theorem dX1_hasGoodTerms_46 : decode cX1_hasGoodTerms 46 = .ok (.invokestatic 165, 3) := by decide +kernel
theorem dX1_hasGoodTerms_49 : decode cX1_hasGoodTerms 49 = .ok (.ifCond .eq 12, 3) := by decide +kernel
theorem dX1_hasGoodTerms_52 : decode cX1_hasGoodTerms 52 = .ok (.iload_n 1, 1) := by decide +kernel
theorem dX1_hasGoodTerms_53 : decode cX1_hasGoodTerms 53 = .ok (.ifCond .eq 10, 3) := by decide +kernel
theorem dX1_hasGoodTerms_56 : decode cX1_hasGoodTerms 56 = .ok (.aload 4, 2) := by decide +kernel
theorem dX1_hasGoodTerms_58 : decode cX1_hasGoodTerms 58 = .ok (.ifnull 5, 3) := by decide +kernel
theorem dX1_hasGoodTerms_61 : decode cX1_hasGoodTerms 61 = .ok (.iconst 0, 1) := by decide +kernel
theorem dX1_hasGoodTerms_62 : decode cX1_hasGoodTerms 62 = .ok (.ireturn, 1) := by decide +kernel
theorem dX1_hasGoodTerms_63 : decode cX1_hasGoodTerms 63 = .ok (.aload 4, 2) := by decide +kernel
theorem dX1_hasGoodTerms_65 : decode cX1_hasGoodTerms 65 = .ok (.ifnonnull 7, 3) := by decide +kernel
theorem dX1_hasGoodTerms_68 : decode cX1_hasGoodTerms 68 = .ok (.iconst 1, 1) := by decide +kernel
theorem dX1_hasGoodTerms_69 : decode cX1_hasGoodTerms 69 = .ok (.goto 4, 3) := by decide +kernel
theorem dX1_hasGoodTerms_72 : decode cX1_hasGoodTerms 72 = .ok (.iconst 0, 1) := by decide +kernel
theorem dX1_hasGoodTerms_73 : decode cX1_hasGoodTerms 73 = .ok (.istore_n 1, 1) := by decide +kernel
theorem dX1_hasGoodTerms_74 : decode cX1_hasGoodTerms 74 = .ok (.iinc 2 1, 3) := by decide +kernel
theorem dX1_hasGoodTerms_77 : decode cX1_hasGoodTerms 77 = .ok (.goto (-73), 3) := by decide +kernel
theorem dX1_hasGoodTerms_80 : decode cX1_hasGoodTerms 80 = .ok (.iconst 1, 1) := by decide +kernel
theorem dX1_hasGoodTerms_81 : decode cX1_hasGoodTerms 81 = .ok (.ireturn, 1) := by decide +kernel
theorem dX1_placeInTable_0 : decode cX1_placeInTable 0 = .ok (.iload_n 0, 1) := by decide +kernel
theorem dX1_placeInTable_1 : decode cX1_placeInTable 1 = .ok (.iconst 1, 1) := by decide +kernel
theorem dX1_placeInTable_2 : decode cX1_placeInTable 2 = .ok (.isub, 1) := by decide +kernel
theorem dX1_placeInTable_3 : decode cX1_placeInTable 3 = .ok (.iconst 4, 1) := by decide +kernel
theorem dX1_placeInTable_4 : decode cX1_placeInTable 4 = .ok (.imul, 1) := by decide +kernel
theorem dX1_placeInTable_5 : decode cX1_placeInTable 5 = .ok (.iload_n 1, 1) := by decide +kernel
theorem dX1_placeInTable_6 : decode cX1_placeInTable 6 = .ok (.iadd, 1) := by decide +kernel
theorem dX1_placeInTable_7 : decode cX1_placeInTable 7 = .ok (.ireturn, 1) := by decide +kernel
theorem dX1_fits_0 : decode cX1_fits 0 = .ok (.aload_n 0, 1) := by decide +kernel
theorem dX1_fits_1 : decode cX1_fits 1 = .ok (.ifnonnull 18, 3) := by decide +kernel
theorem dX1_fits_4 : decode cX1_fits 4 = .ok (.iload_n 1, 1) := by decide +kernel
theorem dX1_fits_5 : decode cX1_fits 5 = .ok (.ifCond .eq 8, 3) := by decide +kernel
theorem dX1_fits_8 : decode cX1_fits 8 = .ok (.iload_n 1, 1) := by decide +kernel
theorem dX1_fits_9 : decode cX1_fits 9 = .ok (.iconst 3, 1) := by decide +kernel
theorem dX1_fits_10 : decode cX1_fits 10 = .ok (.if_icmp .ne 7, 3) := by decide +kernel
theorem dX1_fits_13 : decode cX1_fits 13 = .ok (.iconst 1, 1) := by decide +kernel
theorem dX1_fits_14 : decode cX1_fits 14 = .ok (.goto 4, 3) := by decide +kernel
theorem dX1_fits_17 : decode cX1_fits 17 = .ok (.iconst 0, 1) := by decide +kernel
theorem dX1_fits_18 : decode cX1_fits 18 = .ok (.ireturn, 1) := by decide +kernel
theorem dX1_fits_19 : decode cX1_fits 19 = .ok (.iload_n 1, 1) := by decide +kernel
theorem dX1_fits_20 : decode cX1_fits 20 = .ok (.iconst 1, 1) := by decide +kernel
theorem dX1_fits_21 : decode cX1_fits 21 = .ok (.if_icmp .eq 15, 3) := by decide +kernel
theorem dX1_fits_24 : decode cX1_fits 24 = .ok (.iload_n 1, 1) := by decide +kernel
theorem dX1_fits_25 : decode cX1_fits 25 = .ok (.ifCond .eq 15, 3) := by decide +kernel
theorem dX1_fits_28 : decode cX1_fits 28 = .ok (.aload_n 0, 1) := by decide +kernel
theorem dX1_fits_29 : decode cX1_fits 29 = .ok (.getfield 78, 3) := by decide +kernel
theorem dX1_fits_32 : decode cX1_fits 32 = .ok (.iconst 2, 1) := by decide +kernel
theorem dX1_fits_33 : decode cX1_fits 33 = .ok (.if_icmp .ne 7, 3) := by decide +kernel
theorem dX1_fits_36 : decode cX1_fits 36 = .ok (.iconst 1, 1) := by decide +kernel
theorem dX1_fits_37 : decode cX1_fits 37 = .ok (.goto 4, 3) := by decide +kernel
theorem dX1_fits_40 : decode cX1_fits 40 = .ok (.iconst 0, 1) := by decide +kernel
theorem dX1_fits_41 : decode cX1_fits 41 = .ok (.ireturn, 1) := by decide +kernel
end
section
theorem dX2_init_0 : decode cX2_init 0 = .ok (.aload_n 0, 1) := by decide +kernel
theorem dX2_init_1 : decode cX2_init 1 = .ok (.invokespecial 1, 3) := by decide +kernel
theorem dX2_init_4 : decode cX2_init 4 = .ok (.aload_n 0, 1) := by decide +kernel
theorem dX2_init_5 : decode cX2_init 5 = .ok (.sipush 640, 3) := by decide +kernel
theorem dX2_init_8 : decode cX2_init 8 = .ok (.newarray .int, 2) := by decide +kernel
theorem dX2_init_10 : decode cX2_init 10 = .ok (.putfield 9, 3) := by decide +kernel
theorem dX2_init_13 : decode cX2_init 13 = .ok (.aload_n 0, 1) := by decide +kernel
theorem dX2_init_14 : decode cX2_init 14 = .ok (.sipush 640, 3) := by decide +kernel
theorem dX2_init_17 : decode cX2_init 17 = .ok (.newarray .int, 2) := by decide +kernel
theorem dX2_init_19 : decode cX2_init 19 = .ok (.putfield 13, 3) := by decide +kernel
theorem dX2_init_22 : decode cX2_init 22 = .ok (.aload_n 0, 1) := by decide +kernel
theorem dX2_init_23 : decode cX2_init 23 = .ok (.sipush 640, 3) := by decide +kernel
theorem dX2_init_26 : decode cX2_init 26 = .ok (.newarray .int, 2) := by decide +kernel
theorem dX2_init_28 : decode cX2_init 28 = .ok (.putfield 16, 3) := by decide +kernel
theorem dX2_init_31 : decode cX2_init 31 = .ok (.aload_n 0, 1) := by decide +kernel
theorem dX2_init_32 : decode cX2_init 32 = .ok (.sipush 640, 3) := by decide +kernel
theorem dX2_init_35 : decode cX2_init 35 = .ok (.newarray .int, 2) := by decide +kernel
theorem dX2_init_37 : decode cX2_init 37 = .ok (.putfield 19, 3) := by decide +kernel
theorem dX2_init_40 : decode cX2_init 40 = .ok (.aload_n 0, 1) := by decide +kernel
theorem dX2_init_41 : decode cX2_init 41 = .ok (.sipush 5120, 3) := by decide +kernel
theorem dX2_init_44 : decode cX2_init 44 = .ok (.newarray .int, 2) := by decide +kernel
theorem dX2_init_46 : decode cX2_init 46 = .ok (.putfield 22, 3) := by decide +kernel
theorem dX2_init_49 : decode cX2_init 49 = .ok (.aload_n 0, 1) := by decide +kernel
theorem dX2_init_50 : decode cX2_init 50 = .ok (.sipush 640, 3) := by decide +kernel
theorem dX2_init_53 : decode cX2_init 53 = .ok (.newarray .boolean, 2) := by decide +kernel
theorem dX2_init_55 : decode cX2_init 55 = .ok (.putfield 25, 3) := by decide +kernel
theorem dX2_init_58 : decode cX2_init 58 = .ok (.aload_n 0, 1) := by decide +kernel
theorem dX2_init_59 : decode cX2_init 59 = .ok (.sipush 640, 3) := by decide +kernel
theorem dX2_init_62 : decode cX2_init 62 = .ok (.newarray .boolean, 2) := by decide +kernel
theorem dX2_init_64 : decode cX2_init 64 = .ok (.putfield 29, 3) := by decide +kernel
theorem dX2_init_67 : decode cX2_init 67 = .ok (.aload_n 0, 1) := by decide +kernel
theorem dX2_init_68 : decode cX2_init 68 = .ok (.bipush 8, 2) := by decide +kernel
theorem dX2_init_70 : decode cX2_init 70 = .ok (.newarray .int, 2) := by decide +kernel
theorem dX2_init_72 : decode cX2_init 72 = .ok (.putfield 32, 3) := by decide +kernel
theorem dX2_init_75 : decode cX2_init 75 = .ok (.aload_n 0, 1) := by decide +kernel
theorem dX2_init_76 : decode cX2_init 76 = .ok (.bipush 64, 2) := by decide +kernel
theorem dX2_init_78 : decode cX2_init 78 = .ok (.newarray .int, 2) := by decide +kernel
theorem dX2_init_80 : decode cX2_init 80 = .ok (.putfield 35, 3) := by decide +kernel
theorem dX2_init_83 : decode cX2_init 83 = .ok (.return_, 1) := by decide +kernel
theorem dX2_isLike_0 : decode cX2_isLike 0 = .ok (.aload_n 0, 1) := by decide +kernel
theorem dX2_isLike_1 : decode cX2_isLike 1 = .ok (.getfield 9, 3) := by decide +kernel
theorem dX2_isLike_4 : decode cX2_isLike 4 = .ok (.iload_n 1, 1) := by decide +kernel
theorem dX2_isLike_5 : decode cX2_isLike 5 = .ok (.iaload, 1) := by decide +kernel
theorem dX2_isLike_6 : decode cX2_isLike 6 = .ok (.iload_n 2, 1) := by decide +kernel
theorem dX2_isLike_7 : decode cX2_isLike 7 = .ok (.if_icmp .ne 39, 3) := by decide +kernel
theorem dX2_isLike_10 : decode cX2_isLike 10 = .ok (.aload_n 0, 1) := by decide +kernel
theorem dX2_isLike_11 : decode cX2_isLike 11 = .ok (.getfield 13, 3) := by decide +kernel
theorem dX2_isLike_14 : decode cX2_isLike 14 = .ok (.iload_n 1, 1) := by decide +kernel
theorem dX2_isLike_15 : decode cX2_isLike 15 = .ok (.iaload, 1) := by decide +kernel
theorem dX2_isLike_16 : decode cX2_isLike 16 = .ok (.iload_n 3, 1) := by decide +kernel
theorem dX2_isLike_17 : decode cX2_isLike 17 = .ok (.if_icmp .ne 29, 3) := by decide +kernel
theorem dX2_isLike_20 : decode cX2_isLike 20 = .ok (.aload_n 0, 1) := by decide +kernel
theorem dX2_isLike_21 : decode cX2_isLike 21 = .ok (.getfield 16, 3) := by decide +kernel
theorem dX2_isLike_24 : decode cX2_isLike 24 = .ok (.iload_n 1, 1) := by decide +kernel
theorem dX2_isLike_25 : decode cX2_isLike 25 = .ok (.iaload, 1) := by decide +kernel
theorem dX2_isLike_26 : decode cX2_isLike 26 = .ok (.iload 4, 2) := by decide +kernel
theorem dX2_isLike_28 : decode cX2_isLike 28 = .ok (.if_icmp .ne 18, 3) := by decide +kernel
theorem dX2_isLike_31 : decode cX2_isLike 31 = .ok (.aload_n 0, 1) := by decide +kernel
theorem dX2_isLike_32 : decode cX2_isLike 32 = .ok (.getfield 19, 3) := by decide +kernel
theorem dX2_isLike_35 : decode cX2_isLike 35 = .ok (.iload_n 1, 1) := by decide +kernel
theorem dX2_isLike_36 : decode cX2_isLike 36 = .ok (.iaload, 1) := by decide +kernel
theorem dX2_isLike_37 : decode cX2_isLike 37 = .ok (.iload 5, 2) := by decide +kernel
theorem dX2_isLike_39 : decode cX2_isLike 39 = .ok (.if_icmp .ne 7, 3) := by decide +kernel
theorem dX2_isLike_42 : decode cX2_isLike 42 = .ok (.iconst 1, 1) := by decide +kernel
theorem dX2_isLike_43 : decode cX2_isLike 43 = .ok (.goto 4, 3) := by decide +kernel
theorem dX2_isLike_46 : decode cX2_isLike 46 = .ok (.iconst 0, 1) := by decide +kernel
theorem dX2_isLike_47 : decode cX2_isLike 47 = .ok (.istore 6, 2) := by decide +kernel
theorem dX2_isLike_49 : decode cX2_isLike 49 = .ok (.iconst 0, 1) := by decide +kernel
theorem dX2_isLike_50 : decode cX2_isLike 50 = .ok (.istore 7, 2) := by decide +kernel
theorem dX2_isLike_52 : decode cX2_isLike 52 = .ok (.iload 7, 2) := by decide +kernel
theorem dX2_isLike_54 : decode cX2_isLike 54 = .ok (.bipush 8, 2) := by decide +kernel
theorem dX2_isLike_56 : decode cX2_isLike 56 = .ok (.if_icmp .ge 49, 3) := by decide +kernel
theorem dX2_isLike_59 : decode cX2_isLike 59 = .ok (.iload 6, 2) := by decide +kernel
theorem dX2_isLike_61 : decode cX2_isLike 61 = .ok (.ifCond .eq 44, 3) := by decide +kernel
theorem dX2_isLike_64 : decode cX2_isLike 64 = .ok (.iload_n 2, 1) := by decide +kernel
theorem dX2_isLike_65 : decode cX2_isLike 65 = .ok (.bipush 7, 2) := by decide +kernel
theorem dX2_isLike_67 : decode cX2_isLike 67 = .ok (.if_icmp .ne 25, 3) := by decide +kernel
theorem dX2_isLike_70 : decode cX2_isLike 70 = .ok (.aload_n 0, 1) := by decide +kernel
theorem dX2_isLike_71 : decode cX2_isLike 71 = .ok (.getfield 22, 3) := by decide +kernel
theorem dX2_isLike_74 : decode cX2_isLike 74 = .ok (.bipush 8, 2) := by decide +kernel
theorem dX2_isLike_76 : decode cX2_isLike 76 = .ok (.iload_n 1, 1) := by decide +kernel
theorem dX2_isLike_77 : decode cX2_isLike 77 = .ok (.imul, 1) := by decide +kernel
theorem dX2_isLike_78 : decode cX2_isLike 78 = .ok (.iload 7, 2) := by decide +kernel
theorem dX2_isLike_80 : decode cX2_isLike 80 = .ok (.iadd, 1) := by decide +kernel
theorem dX2_isLike_81 : decode cX2_isLike 81 = .ok (.iaload, 1) := by decide +kernel
theorem dX2_isLike_82 : decode cX2_isLike 82 = .ok (.aload_n 0, 1) := by decide +kernel
theorem dX2_isLike_83 : decode cX2_isLike 83 = .ok (.getfield 32, 3) := by decide +kernel
theorem dX2_isLike_86 : decode cX2_isLike 86 = .ok (.iload 7, 2) := by decide +kernel
theorem dX2_isLike_88 : decode cX2_isLike 88 = .ok (.iaload, 1) := by decide +kernel
theorem dX2_isLike_89 : decode cX2_isLike 89 = .ok (.if_icmp .ne 7, 3) := by decide +kernel
theorem dX2_isLike_92 : decode cX2_isLike 92 = .ok (.iconst 1, 1) := by decide +kernel
theorem dX2_isLike_93 : decode cX2_isLike 93 = .ok (.goto 4, 3) := by decide +kernel
theorem dX2_isLike_96 : decode cX2_isLike 96 = .ok (.iconst 0, 1) := by decide +kernel
theorem dX2_isLike_97 : decode cX2_isLike 97 = .ok (.istore 6, 2) := by decide +kernel
theorem dX2_isLike_99 : decode cX2_isLike 99 = .ok (.iinc 7 1, 3) := by decide +kernel
theorem dX2_isLike_102 : decode cX2_isLike 102 = .ok (.goto (-50), 3) := by decide +kernel
theorem dX2_isLike_105 : decode cX2_isLike 105 = .ok (.iload 6, 2) := by decide +kernel
theorem dX2_isLike_107 : decode cX2_isLike 107 = .ok (.ireturn, 1) := by decide +kernel
theorem dX2_put_0 : decode cX2_put 0 = .ok (.iconst 0, 1) := by decide +kernel
theorem dX2_put_1 : decode cX2_put 1 = .ok (.istore 6, 2) := by decide +kernel
theorem dX2_put_3 : decode cX2_put 3 = .ok (.iload 6, 2) := by decide +kernel
theorem dX2_put_5 : decode cX2_put 5 = .ok (.aload_n 0, 1) := by decide +kernel
theorem dX2_put_6 : decode cX2_put 6 = .ok (.getfield 38, 3) := by decide +kernel
theorem dX2_put_9 : decode cX2_put 9 = .ok (.if_icmp .ge 24, 3) := by decide +kernel
theorem dX2_put_12 : decode cX2_put 12 = .ok (.aload_n 0, 1) := by decide +kernel
theorem dX2_put_13 : decode cX2_put 13 = .ok (.iload 6, 2) := by decide +kernel
theorem dX2_put_15 : decode cX2_put 15 = .ok (.iload_n 2, 1) := by decide +kernel
theorem dX2_put_16 : decode cX2_put 16 = .ok (.iload_n 3, 1) := by decide +kernel
theorem dX2_put_17 : decode cX2_put 17 = .ok (.iload 4, 2) := by decide +kernel
theorem dX2_put_19 : decode cX2_put 19 = .ok (.iload 5, 2) := by decide +kernel
theorem dX2_put_21 : decode cX2_put 21 = .ok (.invokevirtual 42, 3) := by decide +kernel
theorem dX2_put_24 : decode cX2_put 24 = .ok (.ifCond .ne 9, 3) := by decide +kernel
theorem dX2_put_27 : decode cX2_put 27 = .ok (.iinc 6 1, 3) := by decide +kernel
theorem dX2_put_30 : decode cX2_put 30 = .ok (.goto (-27), 3) := by decide +kernel
theorem dX2_put_33 : decode cX2_put 33 = .ok (.iload 6, 2) := by decide +kernel
theorem dX2_put_35 : decode cX2_put 35 = .ok (.aload_n 0, 1) := by decide +kernel
theorem dX2_put_36 : decode cX2_put 36 = .ok (.getfield 38, 3) := by decide +kernel
theorem dX2_put_39 : decode cX2_put 39 = .ok (.if_icmp .ne 93, 3) := by decide +kernel
theorem dX2_put_42 : decode cX2_put 42 = .ok (.aload_n 0, 1) := by decide +kernel
theorem dX2_put_43 : decode cX2_put 43 = .ok (.getfield 9, 3) := by decide +kernel
theorem dX2_put_46 : decode cX2_put 46 = .ok (.iload 6, 2) := by decide +kernel
theorem dX2_put_48 : decode cX2_put 48 = .ok (.iload_n 2, 1) := by decide +kernel
theorem dX2_put_49 : decode cX2_put 49 = .ok (.iastore, 1) := by decide +kernel
theorem dX2_put_50 : decode cX2_put 50 = .ok (.aload_n 0, 1) := by decide +kernel
theorem dX2_put_51 : decode cX2_put 51 = .ok (.getfield 13, 3) := by decide +kernel
theorem dX2_put_54 : decode cX2_put 54 = .ok (.iload 6, 2) := by decide +kernel
theorem dX2_put_56 : decode cX2_put 56 = .ok (.iload_n 3, 1) := by decide +kernel
theorem dX2_put_57 : decode cX2_put 57 = .ok (.iastore, 1) := by decide +kernel
theorem dX2_put_58 : decode cX2_put 58 = .ok (.aload_n 0, 1) := by decide +kernel
theorem dX2_put_59 : decode cX2_put 59 = .ok (.getfield 16, 3) := by decide +kernel
theorem dX2_put_62 : decode cX2_put 62 = .ok (.iload 6, 2) := by decide +kernel
theorem dX2_put_64 : decode cX2_put 64 = .ok (.iload 4, 2) := by decide +kernel
theorem dX2_put_66 : decode cX2_put 66 = .ok (.iastore, 1) := by decide +kernel
theorem dX2_put_67 : decode cX2_put 67 = .ok (.aload_n 0, 1) := by decide +kernel
theorem dX2_put_68 : decode cX2_put 68 = .ok (.getfield 19, 3) := by decide +kernel
theorem dX2_put_71 : decode cX2_put 71 = .ok (.iload 6, 2) := by decide +kernel
theorem dX2_put_73 : decode cX2_put 73 = .ok (.iload 5, 2) := by decide +kernel
theorem dX2_put_75 : decode cX2_put 75 = .ok (.iastore, 1) := by decide +kernel
theorem dX2_put_76 : decode cX2_put 76 = .ok (.iconst 0, 1) := by decide +kernel
theorem dX2_put_77 : decode cX2_put 77 = .ok (.istore 7, 2) := by decide +kernel
theorem dX2_put_79 : decode cX2_put 79 = .ok (.iload 7, 2) := by decide +kernel
theorem dX2_put_81 : decode cX2_put 81 = .ok (.bipush 8, 2) := by decide +kernel
theorem dX2_put_83 : decode cX2_put 83 = .ok (.if_icmp .ge 39, 3) := by decide +kernel
theorem dX2_put_86 : decode cX2_put 86 = .ok (.aload_n 0, 1) := by decide +kernel
theorem dX2_put_87 : decode cX2_put 87 = .ok (.getfield 22, 3) := by decide +kernel
theorem dX2_put_90 : decode cX2_put 90 = .ok (.bipush 8, 2) := by decide +kernel
theorem dX2_put_92 : decode cX2_put 92 = .ok (.iload 6, 2) := by decide +kernel
theorem dX2_put_94 : decode cX2_put 94 = .ok (.imul, 1) := by decide +kernel
theorem dX2_put_95 : decode cX2_put 95 = .ok (.iload 7, 2) := by decide +kernel
theorem dX2_put_97 : decode cX2_put 97 = .ok (.iadd, 1) := by decide +kernel
theorem dX2_put_98 : decode cX2_put 98 = .ok (.iload_n 2, 1) := by decide +kernel
theorem dX2_put_99 : decode cX2_put 99 = .ok (.bipush 7, 2) := by decide +kernel
theorem dX2_put_101 : decode cX2_put 101 = .ok (.if_icmp .ne 13, 3) := by decide +kernel
theorem dX2_put_104 : decode cX2_put 104 = .ok (.aload_n 0, 1) := by decide +kernel
theorem dX2_put_105 : decode cX2_put 105 = .ok (.getfield 32, 3) := by decide +kernel
theorem dX2_put_108 : decode cX2_put 108 = .ok (.iload 7, 2) := by decide +kernel
theorem dX2_put_110 : decode cX2_put 110 = .ok (.iaload, 1) := by decide +kernel
theorem dX2_put_111 : decode cX2_put 111 = .ok (.goto 4, 3) := by decide +kernel
theorem dX2_put_114 : decode cX2_put 114 = .ok (.iconst 0, 1) := by decide +kernel
theorem dX2_put_115 : decode cX2_put 115 = .ok (.iastore, 1) := by decide +kernel
theorem dX2_put_116 : decode cX2_put 116 = .ok (.iinc 7 1, 3) := by decide +kernel
theorem dX2_put_119 : decode cX2_put 119 = .ok (.goto (-40), 3) := by decide +kernel
theorem dX2_put_122 : decode cX2_put 122 = .ok (.aload_n 0, 1) := by decide +kernel
theorem dX2_put_123 : decode cX2_put 123 = .ok (.dup, 1) := by decide +kernel
theorem dX2_put_124 : decode cX2_put 124 = .ok (.getfield 38, 3) := by decide +kernel
theorem dX2_put_127 : decode cX2_put 127 = .ok (.iconst 1, 1) := by decide +kernel
theorem dX2_put_128 : decode cX2_put 128 = .ok (.iadd, 1) := by decide +kernel
theorem dX2_put_129 : decode cX2_put 129 = .ok (.putfield 38, 3) := by decide +kernel
theorem dX2_put_132 : decode cX2_put 132 = .ok (.aload_n 0, 1) := by decide +kernel
theorem dX2_put_133 : decode cX2_put 133 = .ok (.getfield 35, 3) := by decide +kernel
theorem dX2_put_136 : decode cX2_put 136 = .ok (.iload_n 1, 1) := by decide +kernel
theorem dX2_put_137 : decode cX2_put 137 = .ok (.iload 6, 2) := by decide +kernel
theorem dX2_put_139 : decode cX2_put 139 = .ok (.iconst 1, 1) := by decide +kernel
theorem dX2_put_140 : decode cX2_put 140 = .ok (.iadd, 1) := by decide +kernel
theorem dX2_put_141 : decode cX2_put 141 = .ok (.iastore, 1) := by decide +kernel
theorem dX2_put_142 : decode cX2_put 142 = .ok (.iconst 1, 1) := by decide +kernel
theorem dX2_put_143 : decode cX2_put 143 = .ok (.ireturn, 1) := by decide +kernel
theorem dX2_isRegister_0 : decode cX2_isRegister 0 = .ok (.iload_n 0, 1) := by decide +kernel
theorem dX2_isRegister_1 : decode cX2_isRegister 1 = .ok (.ifCond .lt 13, 3) := by decide +kernel
theorem dX2_isRegister_4 : decode cX2_isRegister 4 = .ok (.iload_n 0, 1) := by decide +kernel
theorem dX2_isRegister_5 : decode cX2_isRegister 5 = .ok (.bipush 64, 2) := by decide +kernel
theorem dX2_isRegister_7 : decode cX2_isRegister 7 = .ok (.if_icmp .ge 7, 3) := by decide +kernel
theorem dX2_isRegister_10 : decode cX2_isRegister 10 = .ok (.iconst 1, 1) := by decide +kernel
theorem dX2_isRegister_11 : decode cX2_isRegister 11 = .ok (.goto 4, 3) := by decide +kernel
theorem dX2_isRegister_14 : decode cX2_isRegister 14 = .ok (.iconst 0, 1) := by decide +kernel
theorem dX2_isRegister_15 : decode cX2_isRegister 15 = .ok (.ireturn, 1) := by decide +kernel
theorem dX2_holds_0 : decode cX2_holds 0 = .ok (.iload_n 1, 1) := by decide +kernel
theorem dX2_holds_1 : decode cX2_holds 1 = .ok (.invokestatic 46, 3) := by decide +kernel
theorem dX2_holds_4 : decode cX2_holds 4 = .ok (.ifCond .eq 16, 3) := by decide +kernel
theorem dX2_holds_7 : decode cX2_holds 7 = .ok (.aload_n 0, 1) := by decide +kernel
theorem dX2_holds_8 : decode cX2_holds 8 = .ok (.getfield 35, 3) := by decide +kernel
theorem dX2_holds_11 : decode cX2_holds 11 = .ok (.iload_n 1, 1) := by decide +kernel
theorem dX2_holds_12 : decode cX2_holds 12 = .ok (.iaload, 1) := by decide +kernel
theorem dX2_holds_13 : decode cX2_holds 13 = .ok (.ifCond .le 7, 3) := by decide +kernel
theorem dX2_holds_16 : decode cX2_holds 16 = .ok (.iconst 1, 1) := by decide +kernel
theorem dX2_holds_17 : decode cX2_holds 17 = .ok (.goto 4, 3) := by decide +kernel
theorem dX2_holds_20 : decode cX2_holds 20 = .ok (.iconst 0, 1) := by decide +kernel
theorem dX2_holds_21 : decode cX2_holds 21 = .ok (.ireturn, 1) := by decide +kernel
theorem dX2_has_0 : decode cX2_has 0 = .ok (.aload_n 0, 1) := by decide +kernel
theorem dX2_has_1 : decode cX2_has 1 = .ok (.iload_n 1, 1) := by decide +kernel
theorem dX2_has_2 : decode cX2_has 2 = .ok (.invokevirtual 50, 3) := by decide +kernel
theorem dX2_has_5 : decode cX2_has 5 = .ok (.ifCond .eq 24, 3) := by decide +kernel
theorem dX2_has_8 : decode cX2_has 8 = .ok (.aload_n 0, 1) := by decide +kernel
theorem dX2_has_9 : decode cX2_has 9 = .ok (.getfield 9, 3) := by decide +kernel
theorem dX2_has_12 : decode cX2_has 12 = .ok (.aload_n 0, 1) := by decide +kernel
theorem dX2_has_13 : decode cX2_has 13 = .ok (.getfield 35, 3) := by decide +kernel
theorem dX2_has_16 : decode cX2_has 16 = .ok (.iload_n 1, 1) := by decide +kernel
theorem dX2_has_17 : decode cX2_has 17 = .ok (.iaload, 1) := by decide +kernel
theorem dX2_has_18 : decode cX2_has 18 = .ok (.iconst 1, 1) := by decide +kernel
theorem dX2_has_19 : decode cX2_has 19 = .ok (.isub, 1) := by decide +kernel
theorem dX2_has_20 : decode cX2_has 20 = .ok (.iaload, 1) := by decide +kernel
theorem dX2_has_21 : decode cX2_has 21 = .ok (.iload_n 2, 1) := by decide +kernel
theorem dX2_has_22 : decode cX2_has 22 = .ok (.if_icmp .ne 7, 3) := by decide +kernel
theorem dX2_has_25 : decode cX2_has 25 = .ok (.iconst 1, 1) := by decide +kernel
theorem dX2_has_26 : decode cX2_has 26 = .ok (.goto 4, 3) := by decide +kernel
theorem dX2_has_29 : decode cX2_has 29 = .ok (.iconst 0, 1) := by decide +kernel
theorem dX2_has_30 : decode cX2_has 30 = .ok (.ireturn, 1) := by decide +kernel
theorem dX2_secret_0 : decode cX2_secret 0 = .ok (.iload_n 1, 1) := by decide +kernel
theorem dX2_secret_1 : decode cX2_secret 1 = .ok (.invokestatic 46, 3) := by decide +kernel
theorem dX2_secret_4 : decode cX2_secret 4 = .ok (.ifCond .ne 5, 3) := by decide +kernel
theorem dX2_secret_7 : decode cX2_secret 7 = .ok (.iconst (-1), 1) := by decide +kernel
theorem dX2_secret_8 : decode cX2_secret 8 = .ok (.ireturn, 1) := by decide +kernel
theorem dX2_secret_9 : decode cX2_secret 9 = .ok (.aload_n 0, 1) := by decide +kernel
theorem dX2_secret_10 : decode cX2_secret 10 = .ok (.dup, 1) := by decide +kernel
theorem dX2_secret_11 : decode cX2_secret 11 = .ok (.getfield 53, 3) := by decide +kernel
theorem dX2_secret_14 : decode cX2_secret 14 = .ok (.iconst 1, 1) := by decide +kernel
theorem dX2_secret_15 : decode cX2_secret 15 = .ok (.iadd, 1) := by decide +kernel
theorem dX2_secret_16 : decode cX2_secret 16 = .ok (.putfield 53, 3) := by decide +kernel
theorem dX2_secret_19 : decode cX2_secret 19 = .ok (.aload_n 0, 1) := by decide +kernel
theorem dX2_secret_20 : decode cX2_secret 20 = .ok (.iload_n 1, 1) := by decide +kernel
theorem dX2_secret_21 : decode cX2_secret 21 = .ok (.iconst 1, 1) := by decide +kernel
theorem dX2_secret_22 : decode cX2_secret 22 = .ok (.aload_n 0, 1) := by decide +kernel
theorem dX2_secret_23 : decode cX2_secret 23 = .ok (.getfield 53, 3) := by decide +kernel
theorem dX2_secret_26 : decode cX2_secret 26 = .ok (.iconst 0, 1) := by decide +kernel
theorem dX2_secret_27 : decode cX2_secret 27 = .ok (.iconst 0, 1) := by decide +kernel
theorem dX2_secret_28 : decode cX2_secret 28 = .ok (.invokevirtual 56, 3) := by decide +kernel
theorem dX2_secret_31 : decode cX2_secret 31 = .ok (.ireturn, 1) := by decide +kernel
theorem dX2_face_0 : decode cX2_face 0 = .ok (.iload_n 1, 1) := by decide +kernel
theorem dX2_face_1 : decode cX2_face 1 = .ok (.invokestatic 46, 3) := by decide +kernel
theorem dX2_face_4 : decode cX2_face 4 = .ok (.ifCond .eq 29, 3) := by decide +kernel
theorem dX2_face_7 : decode cX2_face 7 = .ok (.aload_n 0, 1) := by decide +kernel
theorem dX2_face_8 : decode cX2_face 8 = .ok (.iload_n 2, 1) := by decide +kernel
theorem dX2_face_9 : decode cX2_face 9 = .ok (.iconst 1, 1) := by decide +kernel
theorem dX2_face_10 : decode cX2_face 10 = .ok (.invokevirtual 60, 3) := by decide +kernel
theorem dX2_face_13 : decode cX2_face 13 = .ok (.ifCond .eq 20, 3) := by decide +kernel
theorem dX2_face_16 : decode cX2_face 16 = .ok (.aload_n 0, 1) := by decide +kernel
theorem dX2_face_17 : decode cX2_face 17 = .ok (.iload_n 1, 1) := by decide +kernel
theorem dX2_face_18 : decode cX2_face 18 = .ok (.iconst 2, 1) := by decide +kernel
theorem dX2_face_19 : decode cX2_face 19 = .ok (.aload_n 0, 1) := by decide +kernel
theorem dX2_face_20 : decode cX2_face 20 = .ok (.getfield 35, 3) := by decide +kernel
theorem dX2_face_23 : decode cX2_face 23 = .ok (.iload_n 2, 1) := by decide +kernel
theorem dX2_face_24 : decode cX2_face 24 = .ok (.iaload, 1) := by decide +kernel
theorem dX2_face_25 : decode cX2_face 25 = .ok (.iconst 0, 1) := by decide +kernel
theorem dX2_face_26 : decode cX2_face 26 = .ok (.iconst 0, 1) := by decide +kernel
theorem dX2_face_27 : decode cX2_face 27 = .ok (.invokevirtual 56, 3) := by decide +kernel
theorem dX2_face_30 : decode cX2_face 30 = .ok (.goto 4, 3) := by decide +kernel
theorem dX2_face_33 : decode cX2_face 33 = .ok (.iconst (-1), 1) := by decide +kernel
theorem dX2_face_34 : decode cX2_face 34 = .ok (.ireturn, 1) := by decide +kernel
theorem dX2_share_0 : decode cX2_share 0 = .ok (.iload_n 2, 1) := by decide +kernel
theorem dX2_share_1 : decode cX2_share 1 = .ok (.iload_n 3, 1) := by decide +kernel
theorem dX2_share_2 : decode cX2_share 2 = .ok (.if_icmp .ge 15, 3) := by decide +kernel
theorem dX2_share_5 : decode cX2_share 5 = .ok (.aload_n 0, 1) := by decide +kernel
theorem dX2_share_6 : decode cX2_share 6 = .ok (.iload_n 1, 1) := by decide +kernel
theorem dX2_share_7 : decode cX2_share 7 = .ok (.iconst 3, 1) := by decide +kernel
theorem dX2_share_8 : decode cX2_share 8 = .ok (.iload_n 2, 1) := by decide +kernel
theorem dX2_share_9 : decode cX2_share 9 = .ok (.iload_n 3, 1) := by decide +kernel
theorem dX2_share_10 : decode cX2_share 10 = .ok (.iconst 0, 1) := by decide +kernel
theorem dX2_share_11 : decode cX2_share 11 = .ok (.invokevirtual 56, 3) := by decide +kernel
theorem dX2_share_14 : decode cX2_share 14 = .ok (.goto 12, 3) := by decide +kernel
theorem dX2_share_17 : decode cX2_share 17 = .ok (.aload_n 0, 1) := by decide +kernel
theorem dX2_share_18 : decode cX2_share 18 = .ok (.iload_n 1, 1) := by decide +kernel
theorem dX2_share_19 : decode cX2_share 19 = .ok (.iconst 3, 1) := by decide +kernel
theorem dX2_share_20 : decode cX2_share 20 = .ok (.iload_n 3, 1) := by decide +kernel
theorem dX2_share_21 : decode cX2_share 21 = .ok (.iload_n 2, 1) := by decide +kernel
theorem dX2_share_22 : decode cX2_share 22 = .ok (.iconst 0, 1) := by decide +kernel
theorem dX2_share_23 : decode cX2_share 23 = .ok (.invokevirtual 56, 3) := by decide +kernel
theorem dX2_share_26 : decode cX2_share 26 = .ok (.ireturn, 1) := by decide +kernel
theorem dX2_shared_0 : decode cX2_shared 0 = .ok (.iload_n 1, 1) := by decide +kernel
theorem dX2_shared_1 : decode cX2_shared 1 = .ok (.invokestatic 46, 3) := by decide +kernel
theorem dX2_shared_4 : decode cX2_shared 4 = .ok (.ifCond .eq 41, 3) := by decide +kernel
theorem dX2_shared_7 : decode cX2_shared 7 = .ok (.aload_n 0, 1) := by decide +kernel
theorem dX2_shared_8 : decode cX2_shared 8 = .ok (.iload_n 2, 1) := by decide +kernel
theorem dX2_shared_9 : decode cX2_shared 9 = .ok (.iconst 1, 1) := by decide +kernel
theorem dX2_shared_10 : decode cX2_shared 10 = .ok (.invokevirtual 60, 3) := by decide +kernel
theorem dX2_shared_13 : decode cX2_shared 13 = .ok (.ifCond .eq 32, 3) := by decide +kernel
theorem dX2_shared_16 : decode cX2_shared 16 = .ok (.aload_n 0, 1) := by decide +kernel
theorem dX2_shared_17 : decode cX2_shared 17 = .ok (.iload_n 3, 1) := by decide +kernel
theorem dX2_shared_18 : decode cX2_shared 18 = .ok (.iconst 1, 1) := by decide +kernel
theorem dX2_shared_19 : decode cX2_shared 19 = .ok (.invokevirtual 60, 3) := by decide +kernel
theorem dX2_shared_22 : decode cX2_shared 22 = .ok (.ifCond .eq 23, 3) := by decide +kernel
theorem dX2_shared_25 : decode cX2_shared 25 = .ok (.aload_n 0, 1) := by decide +kernel
theorem dX2_shared_26 : decode cX2_shared 26 = .ok (.iload_n 1, 1) := by decide +kernel
theorem dX2_shared_27 : decode cX2_shared 27 = .ok (.aload_n 0, 1) := by decide +kernel
theorem dX2_shared_28 : decode cX2_shared 28 = .ok (.getfield 35, 3) := by decide +kernel
theorem dX2_shared_31 : decode cX2_shared 31 = .ok (.iload_n 2, 1) := by decide +kernel
theorem dX2_shared_32 : decode cX2_shared 32 = .ok (.iaload, 1) := by decide +kernel
theorem dX2_shared_33 : decode cX2_shared 33 = .ok (.aload_n 0, 1) := by decide +kernel
theorem dX2_shared_34 : decode cX2_shared 34 = .ok (.getfield 35, 3) := by decide +kernel
theorem dX2_shared_37 : decode cX2_shared 37 = .ok (.iload_n 3, 1) := by decide +kernel
theorem dX2_shared_38 : decode cX2_shared 38 = .ok (.iaload, 1) := by decide +kernel
theorem dX2_shared_39 : decode cX2_shared 39 = .ok (.invokevirtual 64, 3) := by decide +kernel
theorem dX2_shared_42 : decode cX2_shared 42 = .ok (.goto 4, 3) := by decide +kernel
theorem dX2_shared_45 : decode cX2_shared 45 = .ok (.iconst (-1), 1) := by decide +kernel
theorem dX2_shared_46 : decode cX2_shared 46 = .ok (.ireturn, 1) := by decide +kernel
theorem dX2_agreed_0 : decode cX2_agreed 0 = .ok (.iload_n 1, 1) := by decide +kernel
theorem dX2_agreed_1 : decode cX2_agreed 1 = .ok (.invokestatic 46, 3) := by decide +kernel
theorem dX2_agreed_4 : decode cX2_agreed 4 = .ok (.ifCond .eq 48, 3) := by decide +kernel
theorem dX2_agreed_7 : decode cX2_agreed 7 = .ok (.aload_n 0, 1) := by decide +kernel
theorem dX2_agreed_8 : decode cX2_agreed 8 = .ok (.iload_n 2, 1) := by decide +kernel
theorem dX2_agreed_9 : decode cX2_agreed 9 = .ok (.iconst 1, 1) := by decide +kernel
theorem dX2_agreed_10 : decode cX2_agreed 10 = .ok (.invokevirtual 60, 3) := by decide +kernel
theorem dX2_agreed_13 : decode cX2_agreed 13 = .ok (.ifCond .eq 39, 3) := by decide +kernel
theorem dX2_agreed_16 : decode cX2_agreed 16 = .ok (.aload_n 0, 1) := by decide +kernel
theorem dX2_agreed_17 : decode cX2_agreed 17 = .ok (.iload_n 3, 1) := by decide +kernel
theorem dX2_agreed_18 : decode cX2_agreed 18 = .ok (.iconst 2, 1) := by decide +kernel
theorem dX2_agreed_19 : decode cX2_agreed 19 = .ok (.invokevirtual 60, 3) := by decide +kernel
theorem dX2_agreed_22 : decode cX2_agreed 22 = .ok (.ifCond .eq 30, 3) := by decide +kernel
theorem dX2_agreed_25 : decode cX2_agreed 25 = .ok (.aload_n 0, 1) := by decide +kernel
theorem dX2_agreed_26 : decode cX2_agreed 26 = .ok (.iload_n 1, 1) := by decide +kernel
theorem dX2_agreed_27 : decode cX2_agreed 27 = .ok (.aload_n 0, 1) := by decide +kernel
theorem dX2_agreed_28 : decode cX2_agreed 28 = .ok (.getfield 35, 3) := by decide +kernel
theorem dX2_agreed_31 : decode cX2_agreed 31 = .ok (.iload_n 2, 1) := by decide +kernel
theorem dX2_agreed_32 : decode cX2_agreed 32 = .ok (.iaload, 1) := by decide +kernel
theorem dX2_agreed_33 : decode cX2_agreed 33 = .ok (.aload_n 0, 1) := by decide +kernel
theorem dX2_agreed_34 : decode cX2_agreed 34 = .ok (.getfield 13, 3) := by decide +kernel
theorem dX2_agreed_37 : decode cX2_agreed 37 = .ok (.aload_n 0, 1) := by decide +kernel
theorem dX2_agreed_38 : decode cX2_agreed 38 = .ok (.getfield 35, 3) := by decide +kernel
theorem dX2_agreed_41 : decode cX2_agreed 41 = .ok (.iload_n 3, 1) := by decide +kernel
theorem dX2_agreed_42 : decode cX2_agreed 42 = .ok (.iaload, 1) := by decide +kernel
theorem dX2_agreed_43 : decode cX2_agreed 43 = .ok (.iconst 1, 1) := by decide +kernel
theorem dX2_agreed_44 : decode cX2_agreed 44 = .ok (.isub, 1) := by decide +kernel
theorem dX2_agreed_45 : decode cX2_agreed 45 = .ok (.iaload, 1) := by decide +kernel
theorem dX2_agreed_46 : decode cX2_agreed 46 = .ok (.invokevirtual 64, 3) := by decide +kernel
theorem dX2_agreed_49 : decode cX2_agreed 49 = .ok (.goto 4, 3) := by decide +kernel
theorem dX2_agreed_52 : decode cX2_agreed 52 = .ok (.iconst (-1), 1) := by decide +kernel
theorem dX2_agreed_53 : decode cX2_agreed 53 = .ok (.ireturn, 1) := by decide +kernel
theorem dX2_mix_0 : decode cX2_mix 0 = .ok (.iload_n 1, 1) := by decide +kernel
theorem dX2_mix_1 : decode cX2_mix 1 = .ok (.invokestatic 46, 3) := by decide +kernel
theorem dX2_mix_4 : decode cX2_mix 4 = .ok (.ifCond .eq 36, 3) := by decide +kernel
theorem dX2_mix_7 : decode cX2_mix 7 = .ok (.iload_n 2, 1) := by decide +kernel
theorem dX2_mix_8 : decode cX2_mix 8 = .ok (.ifCond .lt 32, 3) := by decide +kernel
theorem dX2_mix_11 : decode cX2_mix 11 = .ok (.iload_n 2, 1) := by decide +kernel
theorem dX2_mix_12 : decode cX2_mix 12 = .ok (.bipush 9, 2) := by decide +kernel
theorem dX2_mix_14 : decode cX2_mix 14 = .ok (.if_icmp .gt 26, 3) := by decide +kernel
theorem dX2_mix_17 : decode cX2_mix 17 = .ok (.aload_n 0, 1) := by decide +kernel
theorem dX2_mix_18 : decode cX2_mix 18 = .ok (.iload_n 3, 1) := by decide +kernel
theorem dX2_mix_19 : decode cX2_mix 19 = .ok (.invokevirtual 50, 3) := by decide +kernel
theorem dX2_mix_22 : decode cX2_mix 22 = .ok (.ifCond .eq 18, 3) := by decide +kernel
theorem dX2_mix_25 : decode cX2_mix 25 = .ok (.iload 4, 2) := by decide +kernel
theorem dX2_mix_27 : decode cX2_mix 27 = .ok (.iconst (-1), 1) := by decide +kernel
theorem dX2_mix_28 : decode cX2_mix 28 = .ok (.if_icmp .eq 14, 3) := by decide +kernel
theorem dX2_mix_31 : decode cX2_mix 31 = .ok (.aload_n 0, 1) := by decide +kernel
theorem dX2_mix_32 : decode cX2_mix 32 = .ok (.iload 4, 2) := by decide +kernel
theorem dX2_mix_34 : decode cX2_mix 34 = .ok (.invokevirtual 50, 3) := by decide +kernel
theorem dX2_mix_37 : decode cX2_mix 37 = .ok (.ifCond .ne 5, 3) := by decide +kernel
theorem dX2_mix_40 : decode cX2_mix 40 = .ok (.iconst (-1), 1) := by decide +kernel
theorem dX2_mix_41 : decode cX2_mix 41 = .ok (.ireturn, 1) := by decide +kernel
theorem dX2_mix_42 : decode cX2_mix 42 = .ok (.aload_n 0, 1) := by decide +kernel
theorem dX2_mix_43 : decode cX2_mix 43 = .ok (.iload_n 1, 1) := by decide +kernel
theorem dX2_mix_44 : decode cX2_mix 44 = .ok (.iconst 4, 1) := by decide +kernel
theorem dX2_mix_45 : decode cX2_mix 45 = .ok (.iload_n 2, 1) := by decide +kernel
theorem dX2_mix_46 : decode cX2_mix 46 = .ok (.aload_n 0, 1) := by decide +kernel
theorem dX2_mix_47 : decode cX2_mix 47 = .ok (.getfield 35, 3) := by decide +kernel
theorem dX2_mix_50 : decode cX2_mix 50 = .ok (.iload_n 3, 1) := by decide +kernel
theorem dX2_mix_51 : decode cX2_mix 51 = .ok (.iaload, 1) := by decide +kernel
theorem dX2_mix_52 : decode cX2_mix 52 = .ok (.iload 4, 2) := by decide +kernel
theorem dX2_mix_54 : decode cX2_mix 54 = .ok (.iconst (-1), 1) := by decide +kernel
theorem dX2_mix_55 : decode cX2_mix 55 = .ok (.if_icmp .ne 7, 3) := by decide +kernel
theorem dX2_mix_58 : decode cX2_mix 58 = .ok (.iconst 0, 1) := by decide +kernel
theorem dX2_mix_59 : decode cX2_mix 59 = .ok (.goto 10, 3) := by decide +kernel
theorem dX2_mix_62 : decode cX2_mix 62 = .ok (.aload_n 0, 1) := by decide +kernel
theorem dX2_mix_63 : decode cX2_mix 63 = .ok (.getfield 35, 3) := by decide +kernel
theorem dX2_mix_66 : decode cX2_mix 66 = .ok (.iload 4, 2) := by decide +kernel
theorem dX2_mix_68 : decode cX2_mix 68 = .ok (.iaload, 1) := by decide +kernel
theorem dX2_mix_69 : decode cX2_mix 69 = .ok (.invokevirtual 56, 3) := by decide +kernel
theorem dX2_mix_72 : decode cX2_mix 72 = .ok (.ireturn, 1) := by decide +kernel
theorem dX2_sealed_0 : decode cX2_sealed 0 = .ok (.iload_n 1, 1) := by decide +kernel
theorem dX2_sealed_1 : decode cX2_sealed 1 = .ok (.invokestatic 46, 3) := by decide +kernel
theorem dX2_sealed_4 : decode cX2_sealed 4 = .ok (.ifCond .eq 56, 3) := by decide +kernel
theorem dX2_sealed_7 : decode cX2_sealed 7 = .ok (.aload_n 0, 1) := by decide +kernel
theorem dX2_sealed_8 : decode cX2_sealed 8 = .ok (.iload_n 2, 1) := by decide +kernel
theorem dX2_sealed_9 : decode cX2_sealed 9 = .ok (.invokevirtual 50, 3) := by decide +kernel
theorem dX2_sealed_12 : decode cX2_sealed 12 = .ok (.ifCond .eq 48, 3) := by decide +kernel
theorem dX2_sealed_15 : decode cX2_sealed 15 = .ok (.aload_n 0, 1) := by decide +kernel
theorem dX2_sealed_16 : decode cX2_sealed 16 = .ok (.iload_n 3, 1) := by decide +kernel
theorem dX2_sealed_17 : decode cX2_sealed 17 = .ok (.invokevirtual 50, 3) := by decide +kernel
theorem dX2_sealed_20 : decode cX2_sealed 20 = .ok (.ifCond .eq 40, 3) := by decide +kernel
theorem dX2_sealed_23 : decode cX2_sealed 23 = .ok (.aload_n 0, 1) := by decide +kernel
theorem dX2_sealed_24 : decode cX2_sealed 24 = .ok (.iload 4, 2) := by decide +kernel
theorem dX2_sealed_26 : decode cX2_sealed 26 = .ok (.invokevirtual 50, 3) := by decide +kernel
theorem dX2_sealed_29 : decode cX2_sealed 29 = .ok (.ifCond .eq 31, 3) := by decide +kernel
theorem dX2_sealed_32 : decode cX2_sealed 32 = .ok (.aload_n 0, 1) := by decide +kernel
theorem dX2_sealed_33 : decode cX2_sealed 33 = .ok (.iload_n 1, 1) := by decide +kernel
theorem dX2_sealed_34 : decode cX2_sealed 34 = .ok (.iconst 5, 1) := by decide +kernel
theorem dX2_sealed_35 : decode cX2_sealed 35 = .ok (.aload_n 0, 1) := by decide +kernel
theorem dX2_sealed_36 : decode cX2_sealed 36 = .ok (.getfield 35, 3) := by decide +kernel
theorem dX2_sealed_39 : decode cX2_sealed 39 = .ok (.iload_n 2, 1) := by decide +kernel
theorem dX2_sealed_40 : decode cX2_sealed 40 = .ok (.iaload, 1) := by decide +kernel
theorem dX2_sealed_41 : decode cX2_sealed 41 = .ok (.aload_n 0, 1) := by decide +kernel
theorem dX2_sealed_42 : decode cX2_sealed 42 = .ok (.getfield 35, 3) := by decide +kernel
theorem dX2_sealed_45 : decode cX2_sealed 45 = .ok (.iload_n 3, 1) := by decide +kernel
theorem dX2_sealed_46 : decode cX2_sealed 46 = .ok (.iaload, 1) := by decide +kernel
theorem dX2_sealed_47 : decode cX2_sealed 47 = .ok (.aload_n 0, 1) := by decide +kernel
theorem dX2_sealed_48 : decode cX2_sealed 48 = .ok (.getfield 35, 3) := by decide +kernel
theorem dX2_sealed_51 : decode cX2_sealed 51 = .ok (.iload 4, 2) := by decide +kernel
theorem dX2_sealed_53 : decode cX2_sealed 53 = .ok (.iaload, 1) := by decide +kernel
theorem dX2_sealed_54 : decode cX2_sealed 54 = .ok (.invokevirtual 56, 3) := by decide +kernel
theorem dX2_sealed_57 : decode cX2_sealed 57 = .ok (.goto 4, 3) := by decide +kernel
theorem dX2_sealed_60 : decode cX2_sealed 60 = .ok (.iconst (-1), 1) := by decide +kernel
theorem dX2_sealed_61 : decode cX2_sealed 61 = .ok (.ireturn, 1) := by decide +kernel
theorem dX2_signed_0 : decode cX2_signed 0 = .ok (.iload_n 1, 1) := by decide +kernel
theorem dX2_signed_1 : decode cX2_signed 1 = .ok (.invokestatic 46, 3) := by decide +kernel
theorem dX2_signed_4 : decode cX2_signed 4 = .ok (.ifCond .eq 43, 3) := by decide +kernel
theorem dX2_signed_7 : decode cX2_signed 7 = .ok (.aload_n 0, 1) := by decide +kernel
theorem dX2_signed_8 : decode cX2_signed 8 = .ok (.iload_n 2, 1) := by decide +kernel
theorem dX2_signed_9 : decode cX2_signed 9 = .ok (.iconst 1, 1) := by decide +kernel
theorem dX2_signed_10 : decode cX2_signed 10 = .ok (.invokevirtual 60, 3) := by decide +kernel
theorem dX2_signed_13 : decode cX2_signed 13 = .ok (.ifCond .eq 34, 3) := by decide +kernel
theorem dX2_signed_16 : decode cX2_signed 16 = .ok (.aload_n 0, 1) := by decide +kernel
theorem dX2_signed_17 : decode cX2_signed 17 = .ok (.iload_n 3, 1) := by decide +kernel
theorem dX2_signed_18 : decode cX2_signed 18 = .ok (.invokevirtual 50, 3) := by decide +kernel
theorem dX2_signed_21 : decode cX2_signed 21 = .ok (.ifCond .eq 26, 3) := by decide +kernel
theorem dX2_signed_24 : decode cX2_signed 24 = .ok (.aload_n 0, 1) := by decide +kernel
theorem dX2_signed_25 : decode cX2_signed 25 = .ok (.iload_n 1, 1) := by decide +kernel
theorem dX2_signed_26 : decode cX2_signed 26 = .ok (.bipush 6, 2) := by decide +kernel
theorem dX2_signed_28 : decode cX2_signed 28 = .ok (.aload_n 0, 1) := by decide +kernel
theorem dX2_signed_29 : decode cX2_signed 29 = .ok (.getfield 35, 3) := by decide +kernel
theorem dX2_signed_32 : decode cX2_signed 32 = .ok (.iload_n 2, 1) := by decide +kernel
theorem dX2_signed_33 : decode cX2_signed 33 = .ok (.iaload, 1) := by decide +kernel
theorem dX2_signed_34 : decode cX2_signed 34 = .ok (.aload_n 0, 1) := by decide +kernel
theorem dX2_signed_35 : decode cX2_signed 35 = .ok (.getfield 35, 3) := by decide +kernel
theorem dX2_signed_38 : decode cX2_signed 38 = .ok (.iload_n 3, 1) := by decide +kernel
theorem dX2_signed_39 : decode cX2_signed 39 = .ok (.iaload, 1) := by decide +kernel
theorem dX2_signed_40 : decode cX2_signed 40 = .ok (.iconst 0, 1) := by decide +kernel
theorem dX2_signed_41 : decode cX2_signed 41 = .ok (.invokevirtual 56, 3) := by decide +kernel
theorem dX2_signed_44 : decode cX2_signed 44 = .ok (.goto 4, 3) := by decide +kernel
theorem dX2_signed_47 : decode cX2_signed 47 = .ok (.iconst (-1), 1) := by decide +kernel
theorem dX2_signed_48 : decode cX2_signed 48 = .ok (.ireturn, 1) := by decide +kernel
theorem dX2_row_0 : decode cX2_row 0 = .ok (.iload_n 1, 1) := by decide +kernel
theorem dX2_row_1 : decode cX2_row 1 = .ok (.invokestatic 46, 3) := by decide +kernel
theorem dX2_row_4 : decode cX2_row 4 = .ok (.ifCond .eq 14, 3) := by decide +kernel
theorem dX2_row_7 : decode cX2_row 7 = .ok (.iload_n 2, 1) := by decide +kernel
theorem dX2_row_8 : decode cX2_row 8 = .ok (.iconst 1, 1) := by decide +kernel
theorem dX2_row_9 : decode cX2_row 9 = .ok (.if_icmp .lt 9, 3) := by decide +kernel
theorem dX2_row_12 : decode cX2_row 12 = .ok (.iload_n 2, 1) := by decide +kernel
theorem dX2_row_13 : decode cX2_row 13 = .ok (.bipush 7, 2) := by decide +kernel
theorem dX2_row_15 : decode cX2_row 15 = .ok (.if_icmp .le 5, 3) := by decide +kernel
theorem dX2_row_18 : decode cX2_row 18 = .ok (.iconst (-1), 1) := by decide +kernel
theorem dX2_row_19 : decode cX2_row 19 = .ok (.ireturn, 1) := by decide +kernel
theorem dX2_row_20 : decode cX2_row 20 = .ok (.iconst 0, 1) := by decide +kernel
theorem dX2_row_21 : decode cX2_row 21 = .ok (.istore_n 3, 1) := by decide +kernel
theorem dX2_row_22 : decode cX2_row 22 = .ok (.iload_n 3, 1) := by decide +kernel
theorem dX2_row_23 : decode cX2_row 23 = .ok (.bipush 8, 2) := by decide +kernel
theorem dX2_row_25 : decode cX2_row 25 = .ok (.if_icmp .ge 16, 3) := by decide +kernel
theorem dX2_row_28 : decode cX2_row 28 = .ok (.aload_n 0, 1) := by decide +kernel
theorem dX2_row_29 : decode cX2_row 29 = .ok (.getfield 32, 3) := by decide +kernel
theorem dX2_row_32 : decode cX2_row 32 = .ok (.iload_n 3, 1) := by decide +kernel
theorem dX2_row_33 : decode cX2_row 33 = .ok (.iconst 0, 1) := by decide +kernel
theorem dX2_row_34 : decode cX2_row 34 = .ok (.iastore, 1) := by decide +kernel
theorem dX2_row_35 : decode cX2_row 35 = .ok (.iinc 3 1, 3) := by decide +kernel
theorem dX2_row_38 : decode cX2_row 38 = .ok (.goto (-16), 3) := by decide +kernel
theorem dX2_row_41 : decode cX2_row 41 = .ok (.aload_n 0, 1) := by decide +kernel
theorem dX2_row_42 : decode cX2_row 42 = .ok (.iload_n 1, 1) := by decide +kernel
theorem dX2_row_43 : decode cX2_row 43 = .ok (.bipush 7, 2) := by decide +kernel
theorem dX2_row_45 : decode cX2_row 45 = .ok (.iload_n 2, 1) := by decide +kernel
theorem dX2_row_46 : decode cX2_row 46 = .ok (.iconst 0, 1) := by decide +kernel
theorem dX2_row_47 : decode cX2_row 47 = .ok (.iconst 0, 1) := by decide +kernel
theorem dX2_row_48 : decode cX2_row 48 = .ok (.invokevirtual 56, 3) := by decide +kernel
theorem dX2_row_51 : decode cX2_row 51 = .ok (.ireturn, 1) := by decide +kernel
theorem dX2_copy_0 : decode cX2_copy 0 = .ok (.iconst 0, 1) := by decide +kernel
theorem dX2_copy_1 : decode cX2_copy 1 = .ok (.istore_n 2, 1) := by decide +kernel
theorem dX2_copy_2 : decode cX2_copy 2 = .ok (.iload_n 2, 1) := by decide +kernel
theorem dX2_copy_3 : decode cX2_copy 3 = .ok (.bipush 8, 2) := by decide +kernel
theorem dX2_copy_5 : decode cX2_copy 5 = .ok (.if_icmp .ge 33, 3) := by decide +kernel
theorem dX2_copy_8 : decode cX2_copy 8 = .ok (.aload_n 0, 1) := by decide +kernel
theorem dX2_copy_9 : decode cX2_copy 9 = .ok (.getfield 32, 3) := by decide +kernel
theorem dX2_copy_12 : decode cX2_copy 12 = .ok (.iload_n 2, 1) := by decide +kernel
theorem dX2_copy_13 : decode cX2_copy 13 = .ok (.aload_n 0, 1) := by decide +kernel
theorem dX2_copy_14 : decode cX2_copy 14 = .ok (.getfield 22, 3) := by decide +kernel
theorem dX2_copy_17 : decode cX2_copy 17 = .ok (.bipush 8, 2) := by decide +kernel
theorem dX2_copy_19 : decode cX2_copy 19 = .ok (.aload_n 0, 1) := by decide +kernel
theorem dX2_copy_20 : decode cX2_copy 20 = .ok (.getfield 35, 3) := by decide +kernel
theorem dX2_copy_23 : decode cX2_copy 23 = .ok (.iload_n 1, 1) := by decide +kernel
theorem dX2_copy_24 : decode cX2_copy 24 = .ok (.iaload, 1) := by decide +kernel
theorem dX2_copy_25 : decode cX2_copy 25 = .ok (.iconst 1, 1) := by decide +kernel
theorem dX2_copy_26 : decode cX2_copy 26 = .ok (.isub, 1) := by decide +kernel
theorem dX2_copy_27 : decode cX2_copy 27 = .ok (.imul, 1) := by decide +kernel
theorem dX2_copy_28 : decode cX2_copy 28 = .ok (.iload_n 2, 1) := by decide +kernel
theorem dX2_copy_29 : decode cX2_copy 29 = .ok (.iadd, 1) := by decide +kernel
theorem dX2_copy_30 : decode cX2_copy 30 = .ok (.iaload, 1) := by decide +kernel
theorem dX2_copy_31 : decode cX2_copy 31 = .ok (.iastore, 1) := by decide +kernel
theorem dX2_copy_32 : decode cX2_copy 32 = .ok (.iinc 2 1, 3) := by decide +kernel
theorem dX2_copy_35 : decode cX2_copy 35 = .ok (.goto (-33), 3) := by decide +kernel
theorem dX2_copy_38 : decode cX2_copy 38 = .ok (.return_, 1) := by decide +kernel
theorem dX2_alter_0 : decode cX2_alter 0 = .ok (.iload_n 1, 1) := by decide +kernel
theorem dX2_alter_1 : decode cX2_alter 1 = .ok (.invokestatic 46, 3) := by decide +kernel
theorem dX2_alter_4 : decode cX2_alter 4 = .ok (.ifCond .eq 40, 3) := by decide +kernel
theorem dX2_alter_7 : decode cX2_alter 7 = .ok (.aload_n 0, 1) := by decide +kernel
theorem dX2_alter_8 : decode cX2_alter 8 = .ok (.iload_n 2, 1) := by decide +kernel
theorem dX2_alter_9 : decode cX2_alter 9 = .ok (.bipush 7, 2) := by decide +kernel
theorem dX2_alter_11 : decode cX2_alter 11 = .ok (.invokevirtual 60, 3) := by decide +kernel
theorem dX2_alter_14 : decode cX2_alter 14 = .ok (.ifCond .eq 30, 3) := by decide +kernel
theorem dX2_alter_17 : decode cX2_alter 17 = .ok (.iload_n 3, 1) := by decide +kernel
theorem dX2_alter_18 : decode cX2_alter 18 = .ok (.ifCond .lt 26, 3) := by decide +kernel
theorem dX2_alter_21 : decode cX2_alter 21 = .ok (.iload_n 3, 1) := by decide +kernel
theorem dX2_alter_22 : decode cX2_alter 22 = .ok (.iconst 4, 1) := by decide +kernel
theorem dX2_alter_23 : decode cX2_alter 23 = .ok (.if_icmp .gt 21, 3) := by decide +kernel
theorem dX2_alter_26 : decode cX2_alter 26 = .ok (.iload_n 3, 1) := by decide +kernel
theorem dX2_alter_27 : decode cX2_alter 27 = .ok (.iconst 4, 1) := by decide +kernel
theorem dX2_alter_28 : decode cX2_alter 28 = .ok (.if_icmp .ne 18, 3) := by decide +kernel
theorem dX2_alter_31 : decode cX2_alter 31 = .ok (.iload 4, 2) := by decide +kernel
theorem dX2_alter_33 : decode cX2_alter 33 = .ok (.iconst 1, 1) := by decide +kernel
theorem dX2_alter_34 : decode cX2_alter 34 = .ok (.if_icmp .lt 10, 3) := by decide +kernel
theorem dX2_alter_37 : decode cX2_alter 37 = .ok (.iload 4, 2) := by decide +kernel
theorem dX2_alter_39 : decode cX2_alter 39 = .ok (.bipush 7, 2) := by decide +kernel
theorem dX2_alter_41 : decode cX2_alter 41 = .ok (.if_icmp .le 5, 3) := by decide +kernel
theorem dX2_alter_44 : decode cX2_alter 44 = .ok (.iconst (-1), 1) := by decide +kernel
theorem dX2_alter_45 : decode cX2_alter 45 = .ok (.ireturn, 1) := by decide +kernel
theorem dX2_alter_46 : decode cX2_alter 46 = .ok (.aload_n 0, 1) := by decide +kernel
theorem dX2_alter_47 : decode cX2_alter 47 = .ok (.iload_n 2, 1) := by decide +kernel
theorem dX2_alter_48 : decode cX2_alter 48 = .ok (.invokevirtual 68, 3) := by decide +kernel
theorem dX2_alter_51 : decode cX2_alter 51 = .ok (.iload_n 3, 1) := by decide +kernel
theorem dX2_alter_52 : decode cX2_alter 52 = .ok (.iconst 4, 1) := by decide +kernel
theorem dX2_alter_53 : decode cX2_alter 53 = .ok (.if_icmp .ge 11, 3) := by decide +kernel
theorem dX2_alter_56 : decode cX2_alter 56 = .ok (.aload_n 0, 1) := by decide +kernel
theorem dX2_alter_57 : decode cX2_alter 57 = .ok (.getfield 32, 3) := by decide +kernel
theorem dX2_alter_60 : decode cX2_alter 60 = .ok (.iload_n 3, 1) := by decide +kernel
theorem dX2_alter_61 : decode cX2_alter 61 = .ok (.iload 4, 2) := by decide +kernel
theorem dX2_alter_63 : decode cX2_alter 63 = .ok (.iastore, 1) := by decide +kernel
theorem dX2_alter_64 : decode cX2_alter 64 = .ok (.aload_n 0, 1) := by decide +kernel
theorem dX2_alter_65 : decode cX2_alter 65 = .ok (.iload_n 1, 1) := by decide +kernel
theorem dX2_alter_66 : decode cX2_alter 66 = .ok (.bipush 7, 2) := by decide +kernel
theorem dX2_alter_68 : decode cX2_alter 68 = .ok (.iload_n 3, 1) := by decide +kernel
theorem dX2_alter_69 : decode cX2_alter 69 = .ok (.iconst 4, 1) := by decide +kernel
theorem dX2_alter_70 : decode cX2_alter 70 = .ok (.if_icmp .ne 8, 3) := by decide +kernel
theorem dX2_alter_73 : decode cX2_alter 73 = .ok (.iload 4, 2) := by decide +kernel
theorem dX2_alter_75 : decode cX2_alter 75 = .ok (.goto 16, 3) := by decide +kernel
theorem dX2_alter_78 : decode cX2_alter 78 = .ok (.aload_n 0, 1) := by decide +kernel
theorem dX2_alter_79 : decode cX2_alter 79 = .ok (.getfield 13, 3) := by decide +kernel
theorem dX2_alter_82 : decode cX2_alter 82 = .ok (.aload_n 0, 1) := by decide +kernel
theorem dX2_alter_83 : decode cX2_alter 83 = .ok (.getfield 35, 3) := by decide +kernel
theorem dX2_alter_86 : decode cX2_alter 86 = .ok (.iload_n 2, 1) := by decide +kernel
theorem dX2_alter_87 : decode cX2_alter 87 = .ok (.iaload, 1) := by decide +kernel
theorem dX2_alter_88 : decode cX2_alter 88 = .ok (.iconst 1, 1) := by decide +kernel
theorem dX2_alter_89 : decode cX2_alter 89 = .ok (.isub, 1) := by decide +kernel
theorem dX2_alter_90 : decode cX2_alter 90 = .ok (.iaload, 1) := by decide +kernel
theorem dX2_alter_91 : decode cX2_alter 91 = .ok (.iconst 0, 1) := by decide +kernel
theorem dX2_alter_92 : decode cX2_alter 92 = .ok (.iconst 0, 1) := by decide +kernel
theorem dX2_alter_93 : decode cX2_alter 93 = .ok (.invokevirtual 56, 3) := by decide +kernel
theorem dX2_alter_96 : decode cX2_alter 96 = .ok (.ireturn, 1) := by decide +kernel
theorem dX2_swap_0 : decode cX2_swap 0 = .ok (.iload_n 1, 1) := by decide +kernel
theorem dX2_swap_1 : decode cX2_swap 1 = .ok (.invokestatic 46, 3) := by decide +kernel
theorem dX2_swap_4 : decode cX2_swap 4 = .ok (.ifCond .eq 37, 3) := by decide +kernel
theorem dX2_swap_7 : decode cX2_swap 7 = .ok (.aload_n 0, 1) := by decide +kernel
theorem dX2_swap_8 : decode cX2_swap 8 = .ok (.iload_n 2, 1) := by decide +kernel
theorem dX2_swap_9 : decode cX2_swap 9 = .ok (.bipush 7, 2) := by decide +kernel
theorem dX2_swap_11 : decode cX2_swap 11 = .ok (.invokevirtual 60, 3) := by decide +kernel
theorem dX2_swap_14 : decode cX2_swap 14 = .ok (.ifCond .eq 27, 3) := by decide +kernel
theorem dX2_swap_17 : decode cX2_swap 17 = .ok (.iload_n 3, 1) := by decide +kernel
theorem dX2_swap_18 : decode cX2_swap 18 = .ok (.ifCond .lt 23, 3) := by decide +kernel
theorem dX2_swap_21 : decode cX2_swap 21 = .ok (.iload_n 3, 1) := by decide +kernel
theorem dX2_swap_22 : decode cX2_swap 22 = .ok (.iconst 3, 1) := by decide +kernel
theorem dX2_swap_23 : decode cX2_swap 23 = .ok (.if_icmp .gt 18, 3) := by decide +kernel
theorem dX2_swap_26 : decode cX2_swap 26 = .ok (.iload 4, 2) := by decide +kernel
theorem dX2_swap_28 : decode cX2_swap 28 = .ok (.iconst (-1), 1) := by decide +kernel
theorem dX2_swap_29 : decode cX2_swap 29 = .ok (.if_icmp .eq 14, 3) := by decide +kernel
theorem dX2_swap_32 : decode cX2_swap 32 = .ok (.aload_n 0, 1) := by decide +kernel
theorem dX2_swap_33 : decode cX2_swap 33 = .ok (.iload 4, 2) := by decide +kernel
theorem dX2_swap_35 : decode cX2_swap 35 = .ok (.invokevirtual 50, 3) := by decide +kernel
theorem dX2_swap_38 : decode cX2_swap 38 = .ok (.ifCond .ne 5, 3) := by decide +kernel
theorem dX2_swap_41 : decode cX2_swap 41 = .ok (.iconst (-1), 1) := by decide +kernel
theorem dX2_swap_42 : decode cX2_swap 42 = .ok (.ireturn, 1) := by decide +kernel
theorem dX2_swap_43 : decode cX2_swap 43 = .ok (.aload_n 0, 1) := by decide +kernel
theorem dX2_swap_44 : decode cX2_swap 44 = .ok (.iload_n 2, 1) := by decide +kernel
theorem dX2_swap_45 : decode cX2_swap 45 = .ok (.invokevirtual 68, 3) := by decide +kernel
theorem dX2_swap_48 : decode cX2_swap 48 = .ok (.aload_n 0, 1) := by decide +kernel
theorem dX2_swap_49 : decode cX2_swap 49 = .ok (.getfield 32, 3) := by decide +kernel
theorem dX2_swap_52 : decode cX2_swap 52 = .ok (.iconst 4, 1) := by decide +kernel
theorem dX2_swap_53 : decode cX2_swap 53 = .ok (.iload_n 3, 1) := by decide +kernel
theorem dX2_swap_54 : decode cX2_swap 54 = .ok (.iadd, 1) := by decide +kernel
theorem dX2_swap_55 : decode cX2_swap 55 = .ok (.iload 4, 2) := by decide +kernel
theorem dX2_swap_57 : decode cX2_swap 57 = .ok (.iconst (-1), 1) := by decide +kernel
theorem dX2_swap_58 : decode cX2_swap 58 = .ok (.if_icmp .ne 7, 3) := by decide +kernel
theorem dX2_swap_61 : decode cX2_swap 61 = .ok (.iconst 0, 1) := by decide +kernel
theorem dX2_swap_62 : decode cX2_swap 62 = .ok (.goto 10, 3) := by decide +kernel
theorem dX2_swap_65 : decode cX2_swap 65 = .ok (.aload_n 0, 1) := by decide +kernel
theorem dX2_swap_66 : decode cX2_swap 66 = .ok (.getfield 35, 3) := by decide +kernel
theorem dX2_swap_69 : decode cX2_swap 69 = .ok (.iload 4, 2) := by decide +kernel
theorem dX2_swap_71 : decode cX2_swap 71 = .ok (.iaload, 1) := by decide +kernel
theorem dX2_swap_72 : decode cX2_swap 72 = .ok (.iastore, 1) := by decide +kernel
theorem dX2_swap_73 : decode cX2_swap 73 = .ok (.aload_n 0, 1) := by decide +kernel
theorem dX2_swap_74 : decode cX2_swap 74 = .ok (.iload_n 1, 1) := by decide +kernel
theorem dX2_swap_75 : decode cX2_swap 75 = .ok (.bipush 7, 2) := by decide +kernel
theorem dX2_swap_77 : decode cX2_swap 77 = .ok (.aload_n 0, 1) := by decide +kernel
theorem dX2_swap_78 : decode cX2_swap 78 = .ok (.getfield 13, 3) := by decide +kernel
theorem dX2_swap_81 : decode cX2_swap 81 = .ok (.aload_n 0, 1) := by decide +kernel
theorem dX2_swap_82 : decode cX2_swap 82 = .ok (.getfield 35, 3) := by decide +kernel
theorem dX2_swap_85 : decode cX2_swap 85 = .ok (.iload_n 2, 1) := by decide +kernel
theorem dX2_swap_86 : decode cX2_swap 86 = .ok (.iaload, 1) := by decide +kernel
theorem dX2_swap_87 : decode cX2_swap 87 = .ok (.iconst 1, 1) := by decide +kernel
theorem dX2_swap_88 : decode cX2_swap 88 = .ok (.isub, 1) := by decide +kernel
theorem dX2_swap_89 : decode cX2_swap 89 = .ok (.iaload, 1) := by decide +kernel
theorem dX2_swap_90 : decode cX2_swap 90 = .ok (.iconst 0, 1) := by decide +kernel
theorem dX2_swap_91 : decode cX2_swap 91 = .ok (.iconst 0, 1) := by decide +kernel
theorem dX2_swap_92 : decode cX2_swap 92 = .ok (.invokevirtual 56, 3) := by decide +kernel
theorem dX2_swap_95 : decode cX2_swap 95 = .ok (.ireturn, 1) := by decide +kernel
theorem dX2_partOf_0 : decode cX2_partOf 0 = .ok (.iload_n 2, 1) := by decide +kernel
theorem dX2_partOf_1 : decode cX2_partOf 1 = .ok (.ifCond .lt 9, 3) := by decide +kernel
theorem dX2_partOf_4 : decode cX2_partOf 4 = .ok (.iload_n 2, 1) := by decide +kernel
theorem dX2_partOf_5 : decode cX2_partOf 5 = .ok (.bipush 9, 2) := by decide +kernel
theorem dX2_partOf_7 : decode cX2_partOf 7 = .ok (.if_icmp .le 5, 3) := by decide +kernel
theorem dX2_partOf_10 : decode cX2_partOf 10 = .ok (.iconst 0, 1) := by decide +kernel
theorem dX2_partOf_11 : decode cX2_partOf 11 = .ok (.ireturn, 1) := by decide +kernel
theorem dX2_partOf_12 : decode cX2_partOf 12 = .ok (.iload_n 2, 1) := by decide +kernel
theorem dX2_partOf_13 : decode cX2_partOf 13 = .ok (.iconst 4, 1) := by decide +kernel
theorem dX2_partOf_14 : decode cX2_partOf 14 = .ok (.if_icmp .ge 32, 3) := by decide +kernel
theorem dX2_partOf_17 : decode cX2_partOf 17 = .ok (.aload_n 0, 1) := by decide +kernel
theorem dX2_partOf_18 : decode cX2_partOf 18 = .ok (.getfield 9, 3) := by decide +kernel
theorem dX2_partOf_21 : decode cX2_partOf 21 = .ok (.iload_n 1, 1) := by decide +kernel
theorem dX2_partOf_22 : decode cX2_partOf 22 = .ok (.iaload, 1) := by decide +kernel
theorem dX2_partOf_23 : decode cX2_partOf 23 = .ok (.bipush 7, 2) := by decide +kernel
theorem dX2_partOf_25 : decode cX2_partOf 25 = .ok (.if_icmp .ne 19, 3) := by decide +kernel
theorem dX2_partOf_28 : decode cX2_partOf 28 = .ok (.aload_n 0, 1) := by decide +kernel
theorem dX2_partOf_29 : decode cX2_partOf 29 = .ok (.getfield 22, 3) := by decide +kernel
theorem dX2_partOf_32 : decode cX2_partOf 32 = .ok (.bipush 8, 2) := by decide +kernel
theorem dX2_partOf_34 : decode cX2_partOf 34 = .ok (.iload_n 1, 1) := by decide +kernel
theorem dX2_partOf_35 : decode cX2_partOf 35 = .ok (.imul, 1) := by decide +kernel
theorem dX2_partOf_36 : decode cX2_partOf 36 = .ok (.iconst 4, 1) := by decide +kernel
theorem dX2_partOf_37 : decode cX2_partOf 37 = .ok (.iadd, 1) := by decide +kernel
theorem dX2_partOf_38 : decode cX2_partOf 38 = .ok (.iload_n 2, 1) := by decide +kernel
theorem dX2_partOf_39 : decode cX2_partOf 39 = .ok (.iadd, 1) := by decide +kernel
theorem dX2_partOf_40 : decode cX2_partOf 40 = .ok (.iaload, 1) := by decide +kernel
theorem dX2_partOf_41 : decode cX2_partOf 41 = .ok (.goto 4, 3) := by decide +kernel
theorem dX2_partOf_44 : decode cX2_partOf 44 = .ok (.iconst 0, 1) := by decide +kernel
theorem dX2_partOf_45 : decode cX2_partOf 45 = .ok (.ireturn, 1) := by decide +kernel
theorem dX2_partOf_46 : decode cX2_partOf 46 = .ok (.iload_n 2, 1) := by decide +kernel
theorem dX2_partOf_47 : decode cX2_partOf 47 = .ok (.bipush 7, 2) := by decide +kernel
theorem dX2_partOf_49 : decode cX2_partOf 49 = .ok (.if_icmp .ge 52, 3) := by decide +kernel
theorem dX2_partOf_52 : decode cX2_partOf 52 = .ok (.aload_n 0, 1) := by decide +kernel
theorem dX2_partOf_53 : decode cX2_partOf 53 = .ok (.getfield 9, 3) := by decide +kernel
theorem dX2_partOf_56 : decode cX2_partOf 56 = .ok (.iload_n 1, 1) := by decide +kernel
theorem dX2_partOf_57 : decode cX2_partOf 57 = .ok (.iaload, 1) := by decide +kernel
theorem dX2_partOf_58 : decode cX2_partOf 58 = .ok (.iconst 5, 1) := by decide +kernel
theorem dX2_partOf_59 : decode cX2_partOf 59 = .ok (.if_icmp .eq 7, 3) := by decide +kernel
theorem dX2_partOf_62 : decode cX2_partOf 62 = .ok (.iconst 0, 1) := by decide +kernel
theorem dX2_partOf_63 : decode cX2_partOf 63 = .ok (.goto 37, 3) := by decide +kernel
theorem dX2_partOf_66 : decode cX2_partOf 66 = .ok (.iload_n 2, 1) := by decide +kernel
theorem dX2_partOf_67 : decode cX2_partOf 67 = .ok (.iconst 4, 1) := by decide +kernel
theorem dX2_partOf_68 : decode cX2_partOf 68 = .ok (.if_icmp .ne 12, 3) := by decide +kernel
theorem dX2_partOf_71 : decode cX2_partOf 71 = .ok (.aload_n 0, 1) := by decide +kernel
theorem dX2_partOf_72 : decode cX2_partOf 72 = .ok (.getfield 13, 3) := by decide +kernel
theorem dX2_partOf_75 : decode cX2_partOf 75 = .ok (.iload_n 1, 1) := by decide +kernel
theorem dX2_partOf_76 : decode cX2_partOf 76 = .ok (.iaload, 1) := by decide +kernel
theorem dX2_partOf_77 : decode cX2_partOf 77 = .ok (.goto 23, 3) := by decide +kernel
theorem dX2_partOf_80 : decode cX2_partOf 80 = .ok (.iload_n 2, 1) := by decide +kernel
theorem dX2_partOf_81 : decode cX2_partOf 81 = .ok (.iconst 5, 1) := by decide +kernel
theorem dX2_partOf_82 : decode cX2_partOf 82 = .ok (.if_icmp .ne 12, 3) := by decide +kernel
theorem dX2_partOf_85 : decode cX2_partOf 85 = .ok (.aload_n 0, 1) := by decide +kernel
theorem dX2_partOf_86 : decode cX2_partOf 86 = .ok (.getfield 16, 3) := by decide +kernel
theorem dX2_partOf_89 : decode cX2_partOf 89 = .ok (.iload_n 1, 1) := by decide +kernel
theorem dX2_partOf_90 : decode cX2_partOf 90 = .ok (.iaload, 1) := by decide +kernel
theorem dX2_partOf_91 : decode cX2_partOf 91 = .ok (.goto 9, 3) := by decide +kernel
theorem dX2_partOf_94 : decode cX2_partOf 94 = .ok (.aload_n 0, 1) := by decide +kernel
theorem dX2_partOf_95 : decode cX2_partOf 95 = .ok (.getfield 19, 3) := by decide +kernel
theorem dX2_partOf_98 : decode cX2_partOf 98 = .ok (.iload_n 1, 1) := by decide +kernel
theorem dX2_partOf_99 : decode cX2_partOf 99 = .ok (.iaload, 1) := by decide +kernel
theorem dX2_partOf_100 : decode cX2_partOf 100 = .ok (.ireturn, 1) := by decide +kernel
theorem dX2_partOf_101 : decode cX2_partOf 101 = .ok (.iload_n 2, 1) := by decide +kernel
theorem dX2_partOf_102 : decode cX2_partOf 102 = .ok (.bipush 7, 2) := by decide +kernel
theorem dX2_partOf_104 : decode cX2_partOf 104 = .ok (.if_icmp .ne 25, 3) := by decide +kernel
theorem dX2_partOf_107 : decode cX2_partOf 107 = .ok (.aload_n 0, 1) := by decide +kernel
theorem dX2_partOf_108 : decode cX2_partOf 108 = .ok (.getfield 9, 3) := by decide +kernel
theorem dX2_partOf_111 : decode cX2_partOf 111 = .ok (.iload_n 1, 1) := by decide +kernel
theorem dX2_partOf_112 : decode cX2_partOf 112 = .ok (.iaload, 1) := by decide +kernel
theorem dX2_partOf_113 : decode cX2_partOf 113 = .ok (.bipush 6, 2) := by decide +kernel
theorem dX2_partOf_115 : decode cX2_partOf 115 = .ok (.if_icmp .ne 12, 3) := by decide +kernel
theorem dX2_partOf_118 : decode cX2_partOf 118 = .ok (.aload_n 0, 1) := by decide +kernel
theorem dX2_partOf_119 : decode cX2_partOf 119 = .ok (.getfield 16, 3) := by decide +kernel
theorem dX2_partOf_122 : decode cX2_partOf 122 = .ok (.iload_n 1, 1) := by decide +kernel
theorem dX2_partOf_123 : decode cX2_partOf 123 = .ok (.iaload, 1) := by decide +kernel
theorem dX2_partOf_124 : decode cX2_partOf 124 = .ok (.goto 4, 3) := by decide +kernel
theorem dX2_partOf_127 : decode cX2_partOf 127 = .ok (.iconst 0, 1) := by decide +kernel
theorem dX2_partOf_128 : decode cX2_partOf 128 = .ok (.ireturn, 1) := by decide +kernel
theorem dX2_partOf_129 : decode cX2_partOf 129 = .ok (.aload_n 0, 1) := by decide +kernel
theorem dX2_partOf_130 : decode cX2_partOf 130 = .ok (.getfield 9, 3) := by decide +kernel
theorem dX2_partOf_133 : decode cX2_partOf 133 = .ok (.iload_n 1, 1) := by decide +kernel
theorem dX2_partOf_134 : decode cX2_partOf 134 = .ok (.iaload, 1) := by decide +kernel
theorem dX2_partOf_135 : decode cX2_partOf 135 = .ok (.iconst 4, 1) := by decide +kernel
theorem dX2_partOf_136 : decode cX2_partOf 136 = .ok (.if_icmp .eq 7, 3) := by decide +kernel
theorem dX2_partOf_139 : decode cX2_partOf 139 = .ok (.iconst 0, 1) := by decide +kernel
theorem dX2_partOf_140 : decode cX2_partOf 140 = .ok (.goto 24, 3) := by decide +kernel
theorem dX2_partOf_143 : decode cX2_partOf 143 = .ok (.iload_n 2, 1) := by decide +kernel
theorem dX2_partOf_144 : decode cX2_partOf 144 = .ok (.bipush 8, 2) := by decide +kernel
theorem dX2_partOf_146 : decode cX2_partOf 146 = .ok (.if_icmp .ne 12, 3) := by decide +kernel
theorem dX2_partOf_149 : decode cX2_partOf 149 = .ok (.aload_n 0, 1) := by decide +kernel
theorem dX2_partOf_150 : decode cX2_partOf 150 = .ok (.getfield 16, 3) := by decide +kernel
theorem dX2_partOf_153 : decode cX2_partOf 153 = .ok (.iload_n 1, 1) := by decide +kernel
theorem dX2_partOf_154 : decode cX2_partOf 154 = .ok (.iaload, 1) := by decide +kernel
theorem dX2_partOf_155 : decode cX2_partOf 155 = .ok (.goto 9, 3) := by decide +kernel
theorem dX2_partOf_158 : decode cX2_partOf 158 = .ok (.aload_n 0, 1) := by decide +kernel
theorem dX2_partOf_159 : decode cX2_partOf 159 = .ok (.getfield 19, 3) := by decide +kernel
theorem dX2_partOf_162 : decode cX2_partOf 162 = .ok (.iload_n 1, 1) := by decide +kernel
theorem dX2_partOf_163 : decode cX2_partOf 163 = .ok (.iaload, 1) := by decide +kernel
theorem dX2_partOf_164 : decode cX2_partOf 164 = .ok (.ireturn, 1) := by decide +kernel
theorem dX2_part_0 : decode cX2_part 0 = .ok (.iload_n 1, 1) := by decide +kernel
theorem dX2_part_1 : decode cX2_part 1 = .ok (.invokestatic 46, 3) := by decide +kernel
theorem dX2_part_4 : decode cX2_part 4 = .ok (.ifCond .eq 11, 3) := by decide +kernel
theorem dX2_part_7 : decode cX2_part 7 = .ok (.aload_n 0, 1) := by decide +kernel
theorem dX2_part_8 : decode cX2_part 8 = .ok (.iload_n 2, 1) := by decide +kernel
theorem dX2_part_9 : decode cX2_part 9 = .ok (.invokevirtual 50, 3) := by decide +kernel
theorem dX2_part_12 : decode cX2_part 12 = .ok (.ifCond .ne 5, 3) := by decide +kernel
theorem dX2_part_15 : decode cX2_part 15 = .ok (.iconst (-1), 1) := by decide +kernel
theorem dX2_part_16 : decode cX2_part 16 = .ok (.ireturn, 1) := by decide +kernel
theorem dX2_part_17 : decode cX2_part 17 = .ok (.aload_n 0, 1) := by decide +kernel
theorem dX2_part_18 : decode cX2_part 18 = .ok (.aload_n 0, 1) := by decide +kernel
theorem dX2_part_19 : decode cX2_part 19 = .ok (.getfield 35, 3) := by decide +kernel
theorem dX2_part_22 : decode cX2_part 22 = .ok (.iload_n 2, 1) := by decide +kernel
theorem dX2_part_23 : decode cX2_part 23 = .ok (.iaload, 1) := by decide +kernel
theorem dX2_part_24 : decode cX2_part 24 = .ok (.iconst 1, 1) := by decide +kernel
theorem dX2_part_25 : decode cX2_part 25 = .ok (.isub, 1) := by decide +kernel
theorem dX2_part_26 : decode cX2_part 26 = .ok (.iload_n 3, 1) := by decide +kernel
theorem dX2_part_27 : decode cX2_part 27 = .ok (.invokevirtual 72, 3) := by decide +kernel
theorem dX2_part_30 : decode cX2_part 30 = .ok (.istore 4, 2) := by decide +kernel
theorem dX2_part_32 : decode cX2_part 32 = .ok (.iload 4, 2) := by decide +kernel
theorem dX2_part_34 : decode cX2_part 34 = .ok (.ifCond .ne 5, 3) := by decide +kernel
theorem dX2_part_37 : decode cX2_part 37 = .ok (.iconst (-1), 1) := by decide +kernel
theorem dX2_part_38 : decode cX2_part 38 = .ok (.ireturn, 1) := by decide +kernel
theorem dX2_part_39 : decode cX2_part 39 = .ok (.aload_n 0, 1) := by decide +kernel
theorem dX2_part_40 : decode cX2_part 40 = .ok (.getfield 35, 3) := by decide +kernel
theorem dX2_part_43 : decode cX2_part 43 = .ok (.iload_n 1, 1) := by decide +kernel
theorem dX2_part_44 : decode cX2_part 44 = .ok (.iload 4, 2) := by decide +kernel
theorem dX2_part_46 : decode cX2_part 46 = .ok (.iastore, 1) := by decide +kernel
theorem dX2_part_47 : decode cX2_part 47 = .ok (.iconst 1, 1) := by decide +kernel
theorem dX2_part_48 : decode cX2_part 48 = .ok (.ireturn, 1) := by decide +kernel
theorem dX2_is_0 : decode cX2_is 0 = .ok (.iload_n 1, 1) := by decide +kernel
theorem dX2_is_1 : decode cX2_is 1 = .ok (.ifCond .eq 14, 3) := by decide +kernel
theorem dX2_is_4 : decode cX2_is 4 = .ok (.aload_n 0, 1) := by decide +kernel
theorem dX2_is_5 : decode cX2_is 5 = .ok (.getfield 29, 3) := by decide +kernel
theorem dX2_is_8 : decode cX2_is 8 = .ok (.iload_n 1, 1) := by decide +kernel
theorem dX2_is_9 : decode cX2_is 9 = .ok (.iconst 1, 1) := by decide +kernel
theorem dX2_is_10 : decode cX2_is 10 = .ok (.isub, 1) := by decide +kernel
theorem dX2_is_11 : decode cX2_is 11 = .ok (.baload, 1) := by decide +kernel
theorem dX2_is_12 : decode cX2_is 12 = .ok (.ifCond .eq 7, 3) := by decide +kernel
theorem dX2_is_15 : decode cX2_is 15 = .ok (.iconst 1, 1) := by decide +kernel
theorem dX2_is_16 : decode cX2_is 16 = .ok (.goto 4, 3) := by decide +kernel
theorem dX2_is_19 : decode cX2_is 19 = .ok (.iconst 0, 1) := by decide +kernel
theorem dX2_is_20 : decode cX2_is 20 = .ok (.ireturn, 1) := by decide +kernel
theorem dX2_shows_0 : decode cX2_shows 0 = .ok (.aload_n 0, 1) := by decide +kernel
theorem dX2_shows_1 : decode cX2_shows 1 = .ok (.getfield 29, 3) := by decide +kernel
theorem dX2_shows_4 : decode cX2_shows 4 = .ok (.iload_n 1, 1) := by decide +kernel
theorem dX2_shows_5 : decode cX2_shows 5 = .ok (.iconst 1, 1) := by decide +kernel
theorem dX2_shows_6 : decode cX2_shows 6 = .ok (.isub, 1) := by decide +kernel
theorem dX2_shows_7 : decode cX2_shows 7 = .ok (.baload, 1) := by decide +kernel
theorem dX2_shows_8 : decode cX2_shows 8 = .ok (.istore_n 2, 1) := by decide +kernel
theorem dX2_shows_9 : decode cX2_shows 9 = .ok (.iconst 0, 1) := by decide +kernel
theorem dX2_shows_10 : decode cX2_shows 10 = .ok (.istore_n 3, 1) := by decide +kernel
theorem dX2_shows_11 : decode cX2_shows 11 = .ok (.iload_n 3, 1) := by decide +kernel
theorem dX2_shows_12 : decode cX2_shows 12 = .ok (.aload_n 0, 1) := by decide +kernel
theorem dX2_shows_13 : decode cX2_shows 13 = .ok (.getfield 38, 3) := by decide +kernel
theorem dX2_shows_16 : decode cX2_shows 16 = .ok (.if_icmp .ge 48, 3) := by decide +kernel
theorem dX2_shows_19 : decode cX2_shows 19 = .ok (.iload_n 2, 1) := by decide +kernel
theorem dX2_shows_20 : decode cX2_shows 20 = .ok (.ifCond .ne 44, 3) := by decide +kernel
theorem dX2_shows_23 : decode cX2_shows 23 = .ok (.aload_n 0, 1) := by decide +kernel
theorem dX2_shows_24 : decode cX2_shows 24 = .ok (.getfield 9, 3) := by decide +kernel
theorem dX2_shows_27 : decode cX2_shows 27 = .ok (.iload_n 3, 1) := by decide +kernel
theorem dX2_shows_28 : decode cX2_shows 28 = .ok (.iaload, 1) := by decide +kernel
theorem dX2_shows_29 : decode cX2_shows 29 = .ok (.iconst 2, 1) := by decide +kernel
theorem dX2_shows_30 : decode cX2_shows 30 = .ok (.if_icmp .ne 26, 3) := by decide +kernel
theorem dX2_shows_33 : decode cX2_shows 33 = .ok (.aload_n 0, 1) := by decide +kernel
theorem dX2_shows_34 : decode cX2_shows 34 = .ok (.getfield 13, 3) := by decide +kernel
theorem dX2_shows_37 : decode cX2_shows 37 = .ok (.iload_n 3, 1) := by decide +kernel
theorem dX2_shows_38 : decode cX2_shows 38 = .ok (.iaload, 1) := by decide +kernel
theorem dX2_shows_39 : decode cX2_shows 39 = .ok (.iload_n 1, 1) := by decide +kernel
theorem dX2_shows_40 : decode cX2_shows 40 = .ok (.if_icmp .ne 16, 3) := by decide +kernel
theorem dX2_shows_43 : decode cX2_shows 43 = .ok (.aload_n 0, 1) := by decide +kernel
theorem dX2_shows_44 : decode cX2_shows 44 = .ok (.getfield 29, 3) := by decide +kernel
theorem dX2_shows_47 : decode cX2_shows 47 = .ok (.iload_n 3, 1) := by decide +kernel
theorem dX2_shows_48 : decode cX2_shows 48 = .ok (.baload, 1) := by decide +kernel
theorem dX2_shows_49 : decode cX2_shows 49 = .ok (.ifCond .eq 7, 3) := by decide +kernel
theorem dX2_shows_52 : decode cX2_shows 52 = .ok (.iconst 1, 1) := by decide +kernel
theorem dX2_shows_53 : decode cX2_shows 53 = .ok (.goto 4, 3) := by decide +kernel
theorem dX2_shows_56 : decode cX2_shows 56 = .ok (.iconst 0, 1) := by decide +kernel
theorem dX2_shows_57 : decode cX2_shows 57 = .ok (.istore_n 2, 1) := by decide +kernel
theorem dX2_shows_58 : decode cX2_shows 58 = .ok (.iinc 3 1, 3) := by decide +kernel
theorem dX2_shows_61 : decode cX2_shows 61 = .ok (.goto (-50), 3) := by decide +kernel
theorem dX2_shows_64 : decode cX2_shows 64 = .ok (.iload_n 2, 1) := by decide +kernel
theorem dX2_shows_65 : decode cX2_shows 65 = .ok (.ireturn, 1) := by decide +kernel
theorem dX2_canMake_0 : decode cX2_canMake 0 = .ok (.aload_n 0, 1) := by decide +kernel
theorem dX2_canMake_1 : decode cX2_canMake 1 = .ok (.getfield 9, 3) := by decide +kernel
theorem dX2_canMake_4 : decode cX2_canMake 4 = .ok (.iload_n 1, 1) := by decide +kernel
theorem dX2_canMake_5 : decode cX2_canMake 5 = .ok (.iaload, 1) := by decide +kernel
theorem dX2_canMake_6 : decode cX2_canMake 6 = .ok (.iconst 2, 1) := by decide +kernel
theorem dX2_canMake_7 : decode cX2_canMake 7 = .ok (.if_icmp .ne 14, 3) := by decide +kernel
theorem dX2_canMake_10 : decode cX2_canMake 10 = .ok (.aload_n 0, 1) := by decide +kernel
theorem dX2_canMake_11 : decode cX2_canMake 11 = .ok (.aload_n 0, 1) := by decide +kernel
theorem dX2_canMake_12 : decode cX2_canMake 12 = .ok (.getfield 13, 3) := by decide +kernel
theorem dX2_canMake_15 : decode cX2_canMake 15 = .ok (.iload_n 1, 1) := by decide +kernel
theorem dX2_canMake_16 : decode cX2_canMake 16 = .ok (.iaload, 1) := by decide +kernel
theorem dX2_canMake_17 : decode cX2_canMake 17 = .ok (.invokevirtual 76, 3) := by decide +kernel
theorem dX2_canMake_20 : decode cX2_canMake 20 = .ok (.ireturn, 1) := by decide +kernel
theorem dX2_canMake_21 : decode cX2_canMake 21 = .ok (.aload_n 0, 1) := by decide +kernel
theorem dX2_canMake_22 : decode cX2_canMake 22 = .ok (.getfield 9, 3) := by decide +kernel
theorem dX2_canMake_25 : decode cX2_canMake 25 = .ok (.iload_n 1, 1) := by decide +kernel
theorem dX2_canMake_26 : decode cX2_canMake 26 = .ok (.iaload, 1) := by decide +kernel
theorem dX2_canMake_27 : decode cX2_canMake 27 = .ok (.iconst 3, 1) := by decide +kernel
theorem dX2_canMake_28 : decode cX2_canMake 28 = .ok (.if_icmp .ne 61, 3) := by decide +kernel
theorem dX2_canMake_31 : decode cX2_canMake 31 = .ok (.aload_n 0, 1) := by decide +kernel
theorem dX2_canMake_32 : decode cX2_canMake 32 = .ok (.aload_n 0, 1) := by decide +kernel
theorem dX2_canMake_33 : decode cX2_canMake 33 = .ok (.getfield 13, 3) := by decide +kernel
theorem dX2_canMake_36 : decode cX2_canMake 36 = .ok (.iload_n 1, 1) := by decide +kernel
end
section
theorem dX2_canMake_37 : decode cX2_canMake 37 = .ok (.iaload, 1) := by decide +kernel
theorem dX2_canMake_38 : decode cX2_canMake 38 = .ok (.invokevirtual 76, 3) := by decide +kernel
theorem dX2_canMake_41 : decode cX2_canMake 41 = .ok (.ifCond .eq 16, 3) := by decide +kernel
theorem dX2_canMake_44 : decode cX2_canMake 44 = .ok (.aload_n 0, 1) := by decide +kernel
theorem dX2_canMake_45 : decode cX2_canMake 45 = .ok (.aload_n 0, 1) := by decide +kernel
theorem dX2_canMake_46 : decode cX2_canMake 46 = .ok (.getfield 16, 3) := by decide +kernel
theorem dX2_canMake_49 : decode cX2_canMake 49 = .ok (.iload_n 1, 1) := by decide +kernel
theorem dX2_canMake_50 : decode cX2_canMake 50 = .ok (.iaload, 1) := by decide +kernel
theorem dX2_canMake_51 : decode cX2_canMake 51 = .ok (.invokevirtual 79, 3) := by decide +kernel
theorem dX2_canMake_54 : decode cX2_canMake 54 = .ok (.ifCond .ne 29, 3) := by decide +kernel
theorem dX2_canMake_57 : decode cX2_canMake 57 = .ok (.aload_n 0, 1) := by decide +kernel
theorem dX2_canMake_58 : decode cX2_canMake 58 = .ok (.aload_n 0, 1) := by decide +kernel
theorem dX2_canMake_59 : decode cX2_canMake 59 = .ok (.getfield 16, 3) := by decide +kernel
theorem dX2_canMake_62 : decode cX2_canMake 62 = .ok (.iload_n 1, 1) := by decide +kernel
theorem dX2_canMake_63 : decode cX2_canMake 63 = .ok (.iaload, 1) := by decide +kernel
theorem dX2_canMake_64 : decode cX2_canMake 64 = .ok (.invokevirtual 76, 3) := by decide +kernel
theorem dX2_canMake_67 : decode cX2_canMake 67 = .ok (.ifCond .eq 20, 3) := by decide +kernel
theorem dX2_canMake_70 : decode cX2_canMake 70 = .ok (.aload_n 0, 1) := by decide +kernel
theorem dX2_canMake_71 : decode cX2_canMake 71 = .ok (.aload_n 0, 1) := by decide +kernel
theorem dX2_canMake_72 : decode cX2_canMake 72 = .ok (.getfield 13, 3) := by decide +kernel
theorem dX2_canMake_75 : decode cX2_canMake 75 = .ok (.iload_n 1, 1) := by decide +kernel
theorem dX2_canMake_76 : decode cX2_canMake 76 = .ok (.iaload, 1) := by decide +kernel
theorem dX2_canMake_77 : decode cX2_canMake 77 = .ok (.invokevirtual 79, 3) := by decide +kernel
theorem dX2_canMake_80 : decode cX2_canMake 80 = .ok (.ifCond .eq 7, 3) := by decide +kernel
theorem dX2_canMake_83 : decode cX2_canMake 83 = .ok (.iconst 1, 1) := by decide +kernel
theorem dX2_canMake_84 : decode cX2_canMake 84 = .ok (.goto 4, 3) := by decide +kernel
theorem dX2_canMake_87 : decode cX2_canMake 87 = .ok (.iconst 0, 1) := by decide +kernel
theorem dX2_canMake_88 : decode cX2_canMake 88 = .ok (.ireturn, 1) := by decide +kernel
theorem dX2_canMake_89 : decode cX2_canMake 89 = .ok (.aload_n 0, 1) := by decide +kernel
theorem dX2_canMake_90 : decode cX2_canMake 90 = .ok (.getfield 9, 3) := by decide +kernel
theorem dX2_canMake_93 : decode cX2_canMake 93 = .ok (.iload_n 1, 1) := by decide +kernel
theorem dX2_canMake_94 : decode cX2_canMake 94 = .ok (.iaload, 1) := by decide +kernel
theorem dX2_canMake_95 : decode cX2_canMake 95 = .ok (.iconst 4, 1) := by decide +kernel
theorem dX2_canMake_96 : decode cX2_canMake 96 = .ok (.if_icmp .ne 35, 3) := by decide +kernel
theorem dX2_canMake_99 : decode cX2_canMake 99 = .ok (.aload_n 0, 1) := by decide +kernel
theorem dX2_canMake_100 : decode cX2_canMake 100 = .ok (.aload_n 0, 1) := by decide +kernel
theorem dX2_canMake_101 : decode cX2_canMake 101 = .ok (.getfield 16, 3) := by decide +kernel
theorem dX2_canMake_104 : decode cX2_canMake 104 = .ok (.iload_n 1, 1) := by decide +kernel
theorem dX2_canMake_105 : decode cX2_canMake 105 = .ok (.iaload, 1) := by decide +kernel
theorem dX2_canMake_106 : decode cX2_canMake 106 = .ok (.invokevirtual 76, 3) := by decide +kernel
theorem dX2_canMake_109 : decode cX2_canMake 109 = .ok (.ifCond .eq 20, 3) := by decide +kernel
theorem dX2_canMake_112 : decode cX2_canMake 112 = .ok (.aload_n 0, 1) := by decide +kernel
theorem dX2_canMake_113 : decode cX2_canMake 113 = .ok (.aload_n 0, 1) := by decide +kernel
theorem dX2_canMake_114 : decode cX2_canMake 114 = .ok (.getfield 19, 3) := by decide +kernel
theorem dX2_canMake_117 : decode cX2_canMake 117 = .ok (.iload_n 1, 1) := by decide +kernel
theorem dX2_canMake_118 : decode cX2_canMake 118 = .ok (.iaload, 1) := by decide +kernel
theorem dX2_canMake_119 : decode cX2_canMake 119 = .ok (.invokevirtual 76, 3) := by decide +kernel
theorem dX2_canMake_122 : decode cX2_canMake 122 = .ok (.ifCond .eq 7, 3) := by decide +kernel
theorem dX2_canMake_125 : decode cX2_canMake 125 = .ok (.iconst 1, 1) := by decide +kernel
theorem dX2_canMake_126 : decode cX2_canMake 126 = .ok (.goto 4, 3) := by decide +kernel
theorem dX2_canMake_129 : decode cX2_canMake 129 = .ok (.iconst 0, 1) := by decide +kernel
theorem dX2_canMake_130 : decode cX2_canMake 130 = .ok (.ireturn, 1) := by decide +kernel
theorem dX2_canMake_131 : decode cX2_canMake 131 = .ok (.aload_n 0, 1) := by decide +kernel
theorem dX2_canMake_132 : decode cX2_canMake 132 = .ok (.getfield 9, 3) := by decide +kernel
theorem dX2_canMake_135 : decode cX2_canMake 135 = .ok (.iload_n 1, 1) := by decide +kernel
theorem dX2_canMake_136 : decode cX2_canMake 136 = .ok (.iaload, 1) := by decide +kernel
theorem dX2_canMake_137 : decode cX2_canMake 137 = .ok (.iconst 5, 1) := by decide +kernel
theorem dX2_canMake_138 : decode cX2_canMake 138 = .ok (.if_icmp .ne 48, 3) := by decide +kernel
theorem dX2_canMake_141 : decode cX2_canMake 141 = .ok (.aload_n 0, 1) := by decide +kernel
theorem dX2_canMake_142 : decode cX2_canMake 142 = .ok (.aload_n 0, 1) := by decide +kernel
theorem dX2_canMake_143 : decode cX2_canMake 143 = .ok (.getfield 13, 3) := by decide +kernel
theorem dX2_canMake_146 : decode cX2_canMake 146 = .ok (.iload_n 1, 1) := by decide +kernel
theorem dX2_canMake_147 : decode cX2_canMake 147 = .ok (.iaload, 1) := by decide +kernel
theorem dX2_canMake_148 : decode cX2_canMake 148 = .ok (.invokevirtual 76, 3) := by decide +kernel
theorem dX2_canMake_151 : decode cX2_canMake 151 = .ok (.ifCond .eq 33, 3) := by decide +kernel
theorem dX2_canMake_154 : decode cX2_canMake 154 = .ok (.aload_n 0, 1) := by decide +kernel
theorem dX2_canMake_155 : decode cX2_canMake 155 = .ok (.aload_n 0, 1) := by decide +kernel
theorem dX2_canMake_156 : decode cX2_canMake 156 = .ok (.getfield 16, 3) := by decide +kernel
theorem dX2_canMake_159 : decode cX2_canMake 159 = .ok (.iload_n 1, 1) := by decide +kernel
theorem dX2_canMake_160 : decode cX2_canMake 160 = .ok (.iaload, 1) := by decide +kernel
theorem dX2_canMake_161 : decode cX2_canMake 161 = .ok (.invokevirtual 76, 3) := by decide +kernel
theorem dX2_canMake_164 : decode cX2_canMake 164 = .ok (.ifCond .eq 20, 3) := by decide +kernel
theorem dX2_canMake_167 : decode cX2_canMake 167 = .ok (.aload_n 0, 1) := by decide +kernel
theorem dX2_canMake_168 : decode cX2_canMake 168 = .ok (.aload_n 0, 1) := by decide +kernel
theorem dX2_canMake_169 : decode cX2_canMake 169 = .ok (.getfield 19, 3) := by decide +kernel
theorem dX2_canMake_172 : decode cX2_canMake 172 = .ok (.iload_n 1, 1) := by decide +kernel
theorem dX2_canMake_173 : decode cX2_canMake 173 = .ok (.iaload, 1) := by decide +kernel
theorem dX2_canMake_174 : decode cX2_canMake 174 = .ok (.invokevirtual 76, 3) := by decide +kernel
theorem dX2_canMake_177 : decode cX2_canMake 177 = .ok (.ifCond .eq 7, 3) := by decide +kernel
theorem dX2_canMake_180 : decode cX2_canMake 180 = .ok (.iconst 1, 1) := by decide +kernel
theorem dX2_canMake_181 : decode cX2_canMake 181 = .ok (.goto 4, 3) := by decide +kernel
theorem dX2_canMake_184 : decode cX2_canMake 184 = .ok (.iconst 0, 1) := by decide +kernel
theorem dX2_canMake_185 : decode cX2_canMake 185 = .ok (.ireturn, 1) := by decide +kernel
theorem dX2_canMake_186 : decode cX2_canMake 186 = .ok (.aload_n 0, 1) := by decide +kernel
theorem dX2_canMake_187 : decode cX2_canMake 187 = .ok (.getfield 9, 3) := by decide +kernel
theorem dX2_canMake_190 : decode cX2_canMake 190 = .ok (.iload_n 1, 1) := by decide +kernel
theorem dX2_canMake_191 : decode cX2_canMake 191 = .ok (.iaload, 1) := by decide +kernel
theorem dX2_canMake_192 : decode cX2_canMake 192 = .ok (.bipush 6, 2) := by decide +kernel
theorem dX2_canMake_194 : decode cX2_canMake 194 = .ok (.if_icmp .ne 35, 3) := by decide +kernel
theorem dX2_canMake_197 : decode cX2_canMake 197 = .ok (.aload_n 0, 1) := by decide +kernel
theorem dX2_canMake_198 : decode cX2_canMake 198 = .ok (.aload_n 0, 1) := by decide +kernel
theorem dX2_canMake_199 : decode cX2_canMake 199 = .ok (.getfield 13, 3) := by decide +kernel
theorem dX2_canMake_202 : decode cX2_canMake 202 = .ok (.iload_n 1, 1) := by decide +kernel
theorem dX2_canMake_203 : decode cX2_canMake 203 = .ok (.iaload, 1) := by decide +kernel
theorem dX2_canMake_204 : decode cX2_canMake 204 = .ok (.invokevirtual 76, 3) := by decide +kernel
theorem dX2_canMake_207 : decode cX2_canMake 207 = .ok (.ifCond .eq 20, 3) := by decide +kernel
theorem dX2_canMake_210 : decode cX2_canMake 210 = .ok (.aload_n 0, 1) := by decide +kernel
theorem dX2_canMake_211 : decode cX2_canMake 211 = .ok (.aload_n 0, 1) := by decide +kernel
theorem dX2_canMake_212 : decode cX2_canMake 212 = .ok (.getfield 16, 3) := by decide +kernel
theorem dX2_canMake_215 : decode cX2_canMake 215 = .ok (.iload_n 1, 1) := by decide +kernel
theorem dX2_canMake_216 : decode cX2_canMake 216 = .ok (.iaload, 1) := by decide +kernel
theorem dX2_canMake_217 : decode cX2_canMake 217 = .ok (.invokevirtual 76, 3) := by decide +kernel
theorem dX2_canMake_220 : decode cX2_canMake 220 = .ok (.ifCond .eq 7, 3) := by decide +kernel
theorem dX2_canMake_223 : decode cX2_canMake 223 = .ok (.iconst 1, 1) := by decide +kernel
theorem dX2_canMake_224 : decode cX2_canMake 224 = .ok (.goto 4, 3) := by decide +kernel
theorem dX2_canMake_227 : decode cX2_canMake 227 = .ok (.iconst 0, 1) := by decide +kernel
theorem dX2_canMake_228 : decode cX2_canMake 228 = .ok (.ireturn, 1) := by decide +kernel
theorem dX2_canMake_229 : decode cX2_canMake 229 = .ok (.aload_n 0, 1) := by decide +kernel
theorem dX2_canMake_230 : decode cX2_canMake 230 = .ok (.getfield 9, 3) := by decide +kernel
theorem dX2_canMake_233 : decode cX2_canMake 233 = .ok (.iload_n 1, 1) := by decide +kernel
theorem dX2_canMake_234 : decode cX2_canMake 234 = .ok (.iaload, 1) := by decide +kernel
theorem dX2_canMake_235 : decode cX2_canMake 235 = .ok (.bipush 7, 2) := by decide +kernel
theorem dX2_canMake_237 : decode cX2_canMake 237 = .ok (.if_icmp .ne 7, 3) := by decide +kernel
theorem dX2_canMake_240 : decode cX2_canMake 240 = .ok (.iconst 1, 1) := by decide +kernel
theorem dX2_canMake_241 : decode cX2_canMake 241 = .ok (.goto 4, 3) := by decide +kernel
theorem dX2_canMake_244 : decode cX2_canMake 244 = .ok (.iconst 0, 1) := by decide +kernel
theorem dX2_canMake_245 : decode cX2_canMake 245 = .ok (.istore_n 2, 1) := by decide +kernel
theorem dX2_canMake_246 : decode cX2_canMake 246 = .ok (.iconst 4, 1) := by decide +kernel
theorem dX2_canMake_247 : decode cX2_canMake 247 = .ok (.istore_n 3, 1) := by decide +kernel
theorem dX2_canMake_248 : decode cX2_canMake 248 = .ok (.iload_n 3, 1) := by decide +kernel
theorem dX2_canMake_249 : decode cX2_canMake 249 = .ok (.bipush 8, 2) := by decide +kernel
theorem dX2_canMake_251 : decode cX2_canMake 251 = .ok (.if_icmp .ge 37, 3) := by decide +kernel
theorem dX2_canMake_254 : decode cX2_canMake 254 = .ok (.iload_n 2, 1) := by decide +kernel
theorem dX2_canMake_255 : decode cX2_canMake 255 = .ok (.ifCond .eq 25, 3) := by decide +kernel
theorem dX2_canMake_258 : decode cX2_canMake 258 = .ok (.aload_n 0, 1) := by decide +kernel
theorem dX2_canMake_259 : decode cX2_canMake 259 = .ok (.aload_n 0, 1) := by decide +kernel
theorem dX2_canMake_260 : decode cX2_canMake 260 = .ok (.getfield 22, 3) := by decide +kernel
theorem dX2_canMake_263 : decode cX2_canMake 263 = .ok (.bipush 8, 2) := by decide +kernel
theorem dX2_canMake_265 : decode cX2_canMake 265 = .ok (.iload_n 1, 1) := by decide +kernel
theorem dX2_canMake_266 : decode cX2_canMake 266 = .ok (.imul, 1) := by decide +kernel
theorem dX2_canMake_267 : decode cX2_canMake 267 = .ok (.iload_n 3, 1) := by decide +kernel
theorem dX2_canMake_268 : decode cX2_canMake 268 = .ok (.iadd, 1) := by decide +kernel
theorem dX2_canMake_269 : decode cX2_canMake 269 = .ok (.iaload, 1) := by decide +kernel
theorem dX2_canMake_270 : decode cX2_canMake 270 = .ok (.invokevirtual 76, 3) := by decide +kernel
theorem dX2_canMake_273 : decode cX2_canMake 273 = .ok (.ifCond .eq 7, 3) := by decide +kernel
theorem dX2_canMake_276 : decode cX2_canMake 276 = .ok (.iconst 1, 1) := by decide +kernel
theorem dX2_canMake_277 : decode cX2_canMake 277 = .ok (.goto 4, 3) := by decide +kernel
theorem dX2_canMake_280 : decode cX2_canMake 280 = .ok (.iconst 0, 1) := by decide +kernel
theorem dX2_canMake_281 : decode cX2_canMake 281 = .ok (.istore_n 2, 1) := by decide +kernel
theorem dX2_canMake_282 : decode cX2_canMake 282 = .ok (.iinc 3 1, 3) := by decide +kernel
theorem dX2_canMake_285 : decode cX2_canMake 285 = .ok (.goto (-37), 3) := by decide +kernel
theorem dX2_canMake_288 : decode cX2_canMake 288 = .ok (.iload_n 2, 1) := by decide +kernel
theorem dX2_canMake_289 : decode cX2_canMake 289 = .ok (.ireturn, 1) := by decide +kernel
theorem dX2_learn_0 : decode cX2_learn 0 = .ok (.aload_n 0, 1) := by decide +kernel
theorem dX2_learn_1 : decode cX2_learn 1 = .ok (.iload_n 1, 1) := by decide +kernel
theorem dX2_learn_2 : decode cX2_learn 2 = .ok (.invokevirtual 76, 3) := by decide +kernel
theorem dX2_learn_5 : decode cX2_learn 5 = .ok (.ifCond .eq 5, 3) := by decide +kernel
theorem dX2_learn_8 : decode cX2_learn 8 = .ok (.iconst 0, 1) := by decide +kernel
theorem dX2_learn_9 : decode cX2_learn 9 = .ok (.ireturn, 1) := by decide +kernel
theorem dX2_learn_10 : decode cX2_learn 10 = .ok (.aload_n 0, 1) := by decide +kernel
theorem dX2_learn_11 : decode cX2_learn 11 = .ok (.getfield 29, 3) := by decide +kernel
theorem dX2_learn_14 : decode cX2_learn 14 = .ok (.iload_n 1, 1) := by decide +kernel
theorem dX2_learn_15 : decode cX2_learn 15 = .ok (.iconst 1, 1) := by decide +kernel
theorem dX2_learn_16 : decode cX2_learn 16 = .ok (.isub, 1) := by decide +kernel
theorem dX2_learn_17 : decode cX2_learn 17 = .ok (.iconst 1, 1) := by decide +kernel
theorem dX2_learn_18 : decode cX2_learn 18 = .ok (.bastore, 1) := by decide +kernel
theorem dX2_learn_19 : decode cX2_learn 19 = .ok (.iconst 1, 1) := by decide +kernel
theorem dX2_learn_20 : decode cX2_learn 20 = .ok (.ireturn, 1) := by decide +kernel
theorem dX2_open_0 : decode cX2_open 0 = .ok (.iconst 0, 1) := by decide +kernel
theorem dX2_open_1 : decode cX2_open 1 = .ok (.istore_n 2, 1) := by decide +kernel
theorem dX2_open_2 : decode cX2_open 2 = .ok (.iconst 4, 1) := by decide +kernel
theorem dX2_open_3 : decode cX2_open 3 = .ok (.istore_n 3, 1) := by decide +kernel
theorem dX2_open_4 : decode cX2_open 4 = .ok (.iload_n 3, 1) := by decide +kernel
theorem dX2_open_5 : decode cX2_open 5 = .ok (.bipush 8, 2) := by decide +kernel
theorem dX2_open_7 : decode cX2_open 7 = .ok (.if_icmp .ge 48, 3) := by decide +kernel
theorem dX2_open_10 : decode cX2_open 10 = .ok (.aload_n 0, 1) := by decide +kernel
theorem dX2_open_11 : decode cX2_open 11 = .ok (.getfield 9, 3) := by decide +kernel
theorem dX2_open_14 : decode cX2_open 14 = .ok (.iload_n 1, 1) := by decide +kernel
theorem dX2_open_15 : decode cX2_open 15 = .ok (.iaload, 1) := by decide +kernel
theorem dX2_open_16 : decode cX2_open 16 = .ok (.bipush 7, 2) := by decide +kernel
theorem dX2_open_18 : decode cX2_open 18 = .ok (.if_icmp .ne 37, 3) := by decide +kernel
theorem dX2_open_21 : decode cX2_open 21 = .ok (.aload_n 0, 1) := by decide +kernel
theorem dX2_open_22 : decode cX2_open 22 = .ok (.aload_n 0, 1) := by decide +kernel
theorem dX2_open_23 : decode cX2_open 23 = .ok (.getfield 22, 3) := by decide +kernel
theorem dX2_open_26 : decode cX2_open 26 = .ok (.bipush 8, 2) := by decide +kernel
theorem dX2_open_28 : decode cX2_open 28 = .ok (.iload_n 1, 1) := by decide +kernel
theorem dX2_open_29 : decode cX2_open 29 = .ok (.imul, 1) := by decide +kernel
theorem dX2_open_30 : decode cX2_open 30 = .ok (.iload_n 3, 1) := by decide +kernel
theorem dX2_open_31 : decode cX2_open 31 = .ok (.iadd, 1) := by decide +kernel
theorem dX2_open_32 : decode cX2_open 32 = .ok (.iaload, 1) := by decide +kernel
theorem dX2_open_33 : decode cX2_open 33 = .ok (.invokevirtual 82, 3) := by decide +kernel
theorem dX2_open_36 : decode cX2_open 36 = .ok (.ifCond .ne 7, 3) := by decide +kernel
theorem dX2_open_39 : decode cX2_open 39 = .ok (.iload_n 2, 1) := by decide +kernel
theorem dX2_open_40 : decode cX2_open 40 = .ok (.ifCond .eq 7, 3) := by decide +kernel
theorem dX2_open_43 : decode cX2_open 43 = .ok (.iconst 1, 1) := by decide +kernel
theorem dX2_open_44 : decode cX2_open 44 = .ok (.goto 4, 3) := by decide +kernel
theorem dX2_open_47 : decode cX2_open 47 = .ok (.iconst 0, 1) := by decide +kernel
theorem dX2_open_48 : decode cX2_open 48 = .ok (.istore_n 2, 1) := by decide +kernel
theorem dX2_open_49 : decode cX2_open 49 = .ok (.iinc 3 1, 3) := by decide +kernel
theorem dX2_open_52 : decode cX2_open 52 = .ok (.goto (-48), 3) := by decide +kernel
theorem dX2_open_55 : decode cX2_open 55 = .ok (.aload_n 0, 1) := by decide +kernel
theorem dX2_open_56 : decode cX2_open 56 = .ok (.getfield 9, 3) := by decide +kernel
theorem dX2_open_59 : decode cX2_open 59 = .ok (.iload_n 1, 1) := by decide +kernel
theorem dX2_open_60 : decode cX2_open 60 = .ok (.iaload, 1) := by decide +kernel
theorem dX2_open_61 : decode cX2_open 61 = .ok (.iconst 5, 1) := by decide +kernel
theorem dX2_open_62 : decode cX2_open 62 = .ok (.if_icmp .ne 50, 3) := by decide +kernel
theorem dX2_open_65 : decode cX2_open 65 = .ok (.aload_n 0, 1) := by decide +kernel
theorem dX2_open_66 : decode cX2_open 66 = .ok (.aload_n 0, 1) := by decide +kernel
theorem dX2_open_67 : decode cX2_open 67 = .ok (.getfield 16, 3) := by decide +kernel
theorem dX2_open_70 : decode cX2_open 70 = .ok (.iload_n 1, 1) := by decide +kernel
theorem dX2_open_71 : decode cX2_open 71 = .ok (.iaload, 1) := by decide +kernel
theorem dX2_open_72 : decode cX2_open 72 = .ok (.invokevirtual 82, 3) := by decide +kernel
theorem dX2_open_75 : decode cX2_open 75 = .ok (.istore_n 2, 1) := by decide +kernel
theorem dX2_open_76 : decode cX2_open 76 = .ok (.aload_n 0, 1) := by decide +kernel
theorem dX2_open_77 : decode cX2_open 77 = .ok (.aload_n 0, 1) := by decide +kernel
theorem dX2_open_78 : decode cX2_open 78 = .ok (.getfield 13, 3) := by decide +kernel
theorem dX2_open_81 : decode cX2_open 81 = .ok (.iload_n 1, 1) := by decide +kernel
theorem dX2_open_82 : decode cX2_open 82 = .ok (.iaload, 1) := by decide +kernel
theorem dX2_open_83 : decode cX2_open 83 = .ok (.invokevirtual 76, 3) := by decide +kernel
theorem dX2_open_86 : decode cX2_open 86 = .ok (.ifCond .eq 26, 3) := by decide +kernel
theorem dX2_open_89 : decode cX2_open 89 = .ok (.aload_n 0, 1) := by decide +kernel
theorem dX2_open_90 : decode cX2_open 90 = .ok (.aload_n 0, 1) := by decide +kernel
theorem dX2_open_91 : decode cX2_open 91 = .ok (.getfield 19, 3) := by decide +kernel
theorem dX2_open_94 : decode cX2_open 94 = .ok (.iload_n 1, 1) := by decide +kernel
theorem dX2_open_95 : decode cX2_open 95 = .ok (.iaload, 1) := by decide +kernel
theorem dX2_open_96 : decode cX2_open 96 = .ok (.invokevirtual 82, 3) := by decide +kernel
theorem dX2_open_99 : decode cX2_open 99 = .ok (.ifCond .ne 7, 3) := by decide +kernel
theorem dX2_open_102 : decode cX2_open 102 = .ok (.iload_n 2, 1) := by decide +kernel
theorem dX2_open_103 : decode cX2_open 103 = .ok (.ifCond .eq 7, 3) := by decide +kernel
theorem dX2_open_106 : decode cX2_open 106 = .ok (.iconst 1, 1) := by decide +kernel
theorem dX2_open_107 : decode cX2_open 107 = .ok (.goto 4, 3) := by decide +kernel
theorem dX2_open_110 : decode cX2_open 110 = .ok (.iconst 0, 1) := by decide +kernel
theorem dX2_open_111 : decode cX2_open 111 = .ok (.istore_n 2, 1) := by decide +kernel
theorem dX2_open_112 : decode cX2_open 112 = .ok (.aload_n 0, 1) := by decide +kernel
theorem dX2_open_113 : decode cX2_open 113 = .ok (.getfield 9, 3) := by decide +kernel
theorem dX2_open_116 : decode cX2_open 116 = .ok (.iload_n 1, 1) := by decide +kernel
theorem dX2_open_117 : decode cX2_open 117 = .ok (.iaload, 1) := by decide +kernel
theorem dX2_open_118 : decode cX2_open 118 = .ok (.bipush 6, 2) := by decide +kernel
theorem dX2_open_120 : decode cX2_open 120 = .ok (.if_icmp .ne 16, 3) := by decide +kernel
theorem dX2_open_123 : decode cX2_open 123 = .ok (.aload_n 0, 1) := by decide +kernel
theorem dX2_open_124 : decode cX2_open 124 = .ok (.aload_n 0, 1) := by decide +kernel
theorem dX2_open_125 : decode cX2_open 125 = .ok (.getfield 16, 3) := by decide +kernel
theorem dX2_open_128 : decode cX2_open 128 = .ok (.iload_n 1, 1) := by decide +kernel
theorem dX2_open_129 : decode cX2_open 129 = .ok (.iaload, 1) := by decide +kernel
theorem dX2_open_130 : decode cX2_open 130 = .ok (.invokevirtual 82, 3) := by decide +kernel
theorem dX2_open_133 : decode cX2_open 133 = .ok (.goto 4, 3) := by decide +kernel
theorem dX2_open_136 : decode cX2_open 136 = .ok (.iload_n 2, 1) := by decide +kernel
theorem dX2_open_137 : decode cX2_open 137 = .ok (.ireturn, 1) := by decide +kernel
theorem dX2_derive_0 : decode cX2_derive 0 = .ok (.iconst 0, 1) := by decide +kernel
theorem dX2_derive_1 : decode cX2_derive 1 = .ok (.istore_n 1, 1) := by decide +kernel
theorem dX2_derive_2 : decode cX2_derive 2 = .ok (.iload_n 1, 1) := by decide +kernel
theorem dX2_derive_3 : decode cX2_derive 3 = .ok (.aload_n 0, 1) := by decide +kernel
theorem dX2_derive_4 : decode cX2_derive 4 = .ok (.getfield 38, 3) := by decide +kernel
theorem dX2_derive_7 : decode cX2_derive 7 = .ok (.if_icmp .ge 21, 3) := by decide +kernel
theorem dX2_derive_10 : decode cX2_derive 10 = .ok (.aload_n 0, 1) := by decide +kernel
theorem dX2_derive_11 : decode cX2_derive 11 = .ok (.getfield 29, 3) := by decide +kernel
theorem dX2_derive_14 : decode cX2_derive 14 = .ok (.iload_n 1, 1) := by decide +kernel
theorem dX2_derive_15 : decode cX2_derive 15 = .ok (.aload_n 0, 1) := by decide +kernel
theorem dX2_derive_16 : decode cX2_derive 16 = .ok (.getfield 25, 3) := by decide +kernel
theorem dX2_derive_19 : decode cX2_derive 19 = .ok (.iload_n 1, 1) := by decide +kernel
theorem dX2_derive_20 : decode cX2_derive 20 = .ok (.baload, 1) := by decide +kernel
theorem dX2_derive_21 : decode cX2_derive 21 = .ok (.bastore, 1) := by decide +kernel
theorem dX2_derive_22 : decode cX2_derive 22 = .ok (.iinc 1 1, 3) := by decide +kernel
theorem dX2_derive_25 : decode cX2_derive 25 = .ok (.goto (-23), 3) := by decide +kernel
theorem dX2_derive_28 : decode cX2_derive 28 = .ok (.iconst 1, 1) := by decide +kernel
theorem dX2_derive_29 : decode cX2_derive 29 = .ok (.istore_n 1, 1) := by decide +kernel
theorem dX2_derive_30 : decode cX2_derive 30 = .ok (.iload_n 1, 1) := by decide +kernel
theorem dX2_derive_31 : decode cX2_derive 31 = .ok (.ifCond .eq 88, 3) := by decide +kernel
theorem dX2_derive_34 : decode cX2_derive 34 = .ok (.iconst 0, 1) := by decide +kernel
theorem dX2_derive_35 : decode cX2_derive 35 = .ok (.istore_n 1, 1) := by decide +kernel
theorem dX2_derive_36 : decode cX2_derive 36 = .ok (.iconst 0, 1) := by decide +kernel
theorem dX2_derive_37 : decode cX2_derive 37 = .ok (.istore_n 2, 1) := by decide +kernel
theorem dX2_derive_38 : decode cX2_derive 38 = .ok (.iload_n 2, 1) := by decide +kernel
theorem dX2_derive_39 : decode cX2_derive 39 = .ok (.aload_n 0, 1) := by decide +kernel
theorem dX2_derive_40 : decode cX2_derive 40 = .ok (.getfield 38, 3) := by decide +kernel
theorem dX2_derive_43 : decode cX2_derive 43 = .ok (.if_icmp .ge 73, 3) := by decide +kernel
theorem dX2_derive_46 : decode cX2_derive 46 = .ok (.aload_n 0, 1) := by decide +kernel
theorem dX2_derive_47 : decode cX2_derive 47 = .ok (.getfield 29, 3) := by decide +kernel
theorem dX2_derive_50 : decode cX2_derive 50 = .ok (.iload_n 2, 1) := by decide +kernel
theorem dX2_derive_51 : decode cX2_derive 51 = .ok (.baload, 1) := by decide +kernel
theorem dX2_derive_52 : decode cX2_derive 52 = .ok (.ifCond .ne 31, 3) := by decide +kernel
theorem dX2_derive_55 : decode cX2_derive 55 = .ok (.aload_n 0, 1) := by decide +kernel
theorem dX2_derive_56 : decode cX2_derive 56 = .ok (.iload_n 2, 1) := by decide +kernel
theorem dX2_derive_57 : decode cX2_derive 57 = .ok (.invokevirtual 85, 3) := by decide +kernel
theorem dX2_derive_60 : decode cX2_derive 60 = .ok (.ifCond .eq 23, 3) := by decide +kernel
theorem dX2_derive_63 : decode cX2_derive 63 = .ok (.aload_n 0, 1) := by decide +kernel
theorem dX2_derive_64 : decode cX2_derive 64 = .ok (.iload_n 2, 1) := by decide +kernel
theorem dX2_derive_65 : decode cX2_derive 65 = .ok (.iconst 1, 1) := by decide +kernel
theorem dX2_derive_66 : decode cX2_derive 66 = .ok (.iadd, 1) := by decide +kernel
theorem dX2_derive_67 : decode cX2_derive 67 = .ok (.invokevirtual 82, 3) := by decide +kernel
theorem dX2_derive_70 : decode cX2_derive 70 = .ok (.ifCond .ne 7, 3) := by decide +kernel
theorem dX2_derive_73 : decode cX2_derive 73 = .ok (.iload_n 1, 1) := by decide +kernel
theorem dX2_derive_74 : decode cX2_derive 74 = .ok (.ifCond .eq 7, 3) := by decide +kernel
theorem dX2_derive_77 : decode cX2_derive 77 = .ok (.iconst 1, 1) := by decide +kernel
theorem dX2_derive_78 : decode cX2_derive 78 = .ok (.goto 4, 3) := by decide +kernel
theorem dX2_derive_81 : decode cX2_derive 81 = .ok (.iconst 0, 1) := by decide +kernel
theorem dX2_derive_82 : decode cX2_derive 82 = .ok (.istore_n 1, 1) := by decide +kernel
theorem dX2_derive_83 : decode cX2_derive 83 = .ok (.aload_n 0, 1) := by decide +kernel
theorem dX2_derive_84 : decode cX2_derive 84 = .ok (.getfield 29, 3) := by decide +kernel
theorem dX2_derive_87 : decode cX2_derive 87 = .ok (.iload_n 2, 1) := by decide +kernel
theorem dX2_derive_88 : decode cX2_derive 88 = .ok (.baload, 1) := by decide +kernel
theorem dX2_derive_89 : decode cX2_derive 89 = .ok (.ifCond .eq 21, 3) := by decide +kernel
theorem dX2_derive_92 : decode cX2_derive 92 = .ok (.aload_n 0, 1) := by decide +kernel
theorem dX2_derive_93 : decode cX2_derive 93 = .ok (.iload_n 2, 1) := by decide +kernel
theorem dX2_derive_94 : decode cX2_derive 94 = .ok (.invokevirtual 88, 3) := by decide +kernel
theorem dX2_derive_97 : decode cX2_derive 97 = .ok (.ifCond .ne 7, 3) := by decide +kernel
theorem dX2_derive_100 : decode cX2_derive 100 = .ok (.iload_n 1, 1) := by decide +kernel
theorem dX2_derive_101 : decode cX2_derive 101 = .ok (.ifCond .eq 7, 3) := by decide +kernel
theorem dX2_derive_104 : decode cX2_derive 104 = .ok (.iconst 1, 1) := by decide +kernel
theorem dX2_derive_105 : decode cX2_derive 105 = .ok (.goto 4, 3) := by decide +kernel
theorem dX2_derive_108 : decode cX2_derive 108 = .ok (.iconst 0, 1) := by decide +kernel
theorem dX2_derive_109 : decode cX2_derive 109 = .ok (.istore_n 1, 1) := by decide +kernel
theorem dX2_derive_110 : decode cX2_derive 110 = .ok (.iinc 2 1, 3) := by decide +kernel
theorem dX2_derive_113 : decode cX2_derive 113 = .ok (.goto (-75), 3) := by decide +kernel
theorem dX2_derive_116 : decode cX2_derive 116 = .ok (.goto (-86), 3) := by decide +kernel
theorem dX2_derive_119 : decode cX2_derive 119 = .ok (.return_, 1) := by decide +kernel
theorem dX2_derivedNow_0 : decode cX2_derivedNow 0 = .ok (.aload_n 0, 1) := by decide +kernel
theorem dX2_derivedNow_1 : decode cX2_derivedNow 1 = .ok (.invokevirtual 91, 3) := by decide +kernel
theorem dX2_derivedNow_4 : decode cX2_derivedNow 4 = .ok (.iconst 0, 1) := by decide +kernel
theorem dX2_derivedNow_5 : decode cX2_derivedNow 5 = .ok (.istore_n 1, 1) := by decide +kernel
theorem dX2_derivedNow_6 : decode cX2_derivedNow 6 = .ok (.iconst 0, 1) := by decide +kernel
theorem dX2_derivedNow_7 : decode cX2_derivedNow 7 = .ok (.istore_n 2, 1) := by decide +kernel
theorem dX2_derivedNow_8 : decode cX2_derivedNow 8 = .ok (.iload_n 2, 1) := by decide +kernel
theorem dX2_derivedNow_9 : decode cX2_derivedNow 9 = .ok (.aload_n 0, 1) := by decide +kernel
theorem dX2_derivedNow_10 : decode cX2_derivedNow 10 = .ok (.getfield 38, 3) := by decide +kernel
theorem dX2_derivedNow_13 : decode cX2_derivedNow 13 = .ok (.if_icmp .ge 26, 3) := by decide +kernel
theorem dX2_derivedNow_16 : decode cX2_derivedNow 16 = .ok (.iload_n 1, 1) := by decide +kernel
theorem dX2_derivedNow_17 : decode cX2_derivedNow 17 = .ok (.aload_n 0, 1) := by decide +kernel
theorem dX2_derivedNow_18 : decode cX2_derivedNow 18 = .ok (.getfield 29, 3) := by decide +kernel
theorem dX2_derivedNow_21 : decode cX2_derivedNow 21 = .ok (.iload_n 2, 1) := by decide +kernel
theorem dX2_derivedNow_22 : decode cX2_derivedNow 22 = .ok (.baload, 1) := by decide +kernel
theorem dX2_derivedNow_23 : decode cX2_derivedNow 23 = .ok (.ifCond .eq 7, 3) := by decide +kernel
theorem dX2_derivedNow_26 : decode cX2_derivedNow 26 = .ok (.iconst 1, 1) := by decide +kernel
theorem dX2_derivedNow_27 : decode cX2_derivedNow 27 = .ok (.goto 4, 3) := by decide +kernel
theorem dX2_derivedNow_30 : decode cX2_derivedNow 30 = .ok (.iconst 0, 1) := by decide +kernel
theorem dX2_derivedNow_31 : decode cX2_derivedNow 31 = .ok (.iadd, 1) := by decide +kernel
theorem dX2_derivedNow_32 : decode cX2_derivedNow 32 = .ok (.istore_n 1, 1) := by decide +kernel
theorem dX2_derivedNow_33 : decode cX2_derivedNow 33 = .ok (.iinc 2 1, 3) := by decide +kernel
theorem dX2_derivedNow_36 : decode cX2_derivedNow 36 = .ok (.goto (-28), 3) := by decide +kernel
theorem dX2_derivedNow_39 : decode cX2_derivedNow 39 = .ok (.iload_n 1, 1) := by decide +kernel
theorem dX2_derivedNow_40 : decode cX2_derivedNow 40 = .ok (.ireturn, 1) := by decide +kernel
theorem dX2_give_0 : decode cX2_give 0 = .ok (.aload_n 0, 1) := by decide +kernel
theorem dX2_give_1 : decode cX2_give 1 = .ok (.iload_n 1, 1) := by decide +kernel
theorem dX2_give_2 : decode cX2_give 2 = .ok (.invokevirtual 50, 3) := by decide +kernel
theorem dX2_give_5 : decode cX2_give 5 = .ok (.ifCond .ne 5, 3) := by decide +kernel
theorem dX2_give_8 : decode cX2_give 8 = .ok (.iconst (-1), 1) := by decide +kernel
theorem dX2_give_9 : decode cX2_give 9 = .ok (.ireturn, 1) := by decide +kernel
theorem dX2_give_10 : decode cX2_give 10 = .ok (.aload_n 0, 1) := by decide +kernel
theorem dX2_give_11 : decode cX2_give 11 = .ok (.invokevirtual 94, 3) := by decide +kernel
theorem dX2_give_14 : decode cX2_give 14 = .ok (.istore_n 2, 1) := by decide +kernel
theorem dX2_give_15 : decode cX2_give 15 = .ok (.aload_n 0, 1) := by decide +kernel
theorem dX2_give_16 : decode cX2_give 16 = .ok (.getfield 25, 3) := by decide +kernel
theorem dX2_give_19 : decode cX2_give 19 = .ok (.aload_n 0, 1) := by decide +kernel
theorem dX2_give_20 : decode cX2_give 20 = .ok (.getfield 35, 3) := by decide +kernel
theorem dX2_give_23 : decode cX2_give 23 = .ok (.iload_n 1, 1) := by decide +kernel
theorem dX2_give_24 : decode cX2_give 24 = .ok (.iaload, 1) := by decide +kernel
theorem dX2_give_25 : decode cX2_give 25 = .ok (.iconst 1, 1) := by decide +kernel
theorem dX2_give_26 : decode cX2_give 26 = .ok (.isub, 1) := by decide +kernel
theorem dX2_give_27 : decode cX2_give 27 = .ok (.iconst 1, 1) := by decide +kernel
theorem dX2_give_28 : decode cX2_give 28 = .ok (.bastore, 1) := by decide +kernel
theorem dX2_give_29 : decode cX2_give 29 = .ok (.aload_n 0, 1) := by decide +kernel
theorem dX2_give_30 : decode cX2_give 30 = .ok (.invokevirtual 94, 3) := by decide +kernel
theorem dX2_give_33 : decode cX2_give 33 = .ok (.iload_n 2, 1) := by decide +kernel
theorem dX2_give_34 : decode cX2_give 34 = .ok (.isub, 1) := by decide +kernel
theorem dX2_give_35 : decode cX2_give 35 = .ok (.ireturn, 1) := by decide +kernel
theorem dX2_derived_0 : decode cX2_derived 0 = .ok (.aload_n 0, 1) := by decide +kernel
theorem dX2_derived_1 : decode cX2_derived 1 = .ok (.iload_n 1, 1) := by decide +kernel
theorem dX2_derived_2 : decode cX2_derived 2 = .ok (.invokevirtual 50, 3) := by decide +kernel
theorem dX2_derived_5 : decode cX2_derived 5 = .ok (.ifCond .ne 5, 3) := by decide +kernel
theorem dX2_derived_8 : decode cX2_derived 8 = .ok (.iconst (-1), 1) := by decide +kernel
theorem dX2_derived_9 : decode cX2_derived 9 = .ok (.ireturn, 1) := by decide +kernel
theorem dX2_derived_10 : decode cX2_derived 10 = .ok (.aload_n 0, 1) := by decide +kernel
theorem dX2_derived_11 : decode cX2_derived 11 = .ok (.invokevirtual 91, 3) := by decide +kernel
theorem dX2_derived_14 : decode cX2_derived 14 = .ok (.aload_n 0, 1) := by decide +kernel
theorem dX2_derived_15 : decode cX2_derived 15 = .ok (.getfield 29, 3) := by decide +kernel
theorem dX2_derived_18 : decode cX2_derived 18 = .ok (.aload_n 0, 1) := by decide +kernel
theorem dX2_derived_19 : decode cX2_derived 19 = .ok (.getfield 35, 3) := by decide +kernel
theorem dX2_derived_22 : decode cX2_derived 22 = .ok (.iload_n 1, 1) := by decide +kernel
theorem dX2_derived_23 : decode cX2_derived 23 = .ok (.iaload, 1) := by decide +kernel
theorem dX2_derived_24 : decode cX2_derived 24 = .ok (.iconst 1, 1) := by decide +kernel
theorem dX2_derived_25 : decode cX2_derived 25 = .ok (.isub, 1) := by decide +kernel
theorem dX2_derived_26 : decode cX2_derived 26 = .ok (.baload, 1) := by decide +kernel
theorem dX2_derived_27 : decode cX2_derived 27 = .ok (.ifCond .eq 7, 3) := by decide +kernel
theorem dX2_derived_30 : decode cX2_derived 30 = .ok (.iconst 1, 1) := by decide +kernel
theorem dX2_derived_31 : decode cX2_derived 31 = .ok (.goto 4, 3) := by decide +kernel
theorem dX2_derived_34 : decode cX2_derived 34 = .ok (.iconst 0, 1) := by decide +kernel
theorem dX2_derived_35 : decode cX2_derived 35 = .ok (.ireturn, 1) := by decide +kernel
theorem dX2_same_0 : decode cX2_same 0 = .ok (.aload_n 0, 1) := by decide +kernel
theorem dX2_same_1 : decode cX2_same 1 = .ok (.iload_n 1, 1) := by decide +kernel
theorem dX2_same_2 : decode cX2_same 2 = .ok (.invokevirtual 50, 3) := by decide +kernel
theorem dX2_same_5 : decode cX2_same 5 = .ok (.ifCond .eq 11, 3) := by decide +kernel
theorem dX2_same_8 : decode cX2_same 8 = .ok (.aload_n 0, 1) := by decide +kernel
theorem dX2_same_9 : decode cX2_same 9 = .ok (.iload_n 2, 1) := by decide +kernel
theorem dX2_same_10 : decode cX2_same 10 = .ok (.invokevirtual 50, 3) := by decide +kernel
theorem dX2_same_13 : decode cX2_same 13 = .ok (.ifCond .ne 7, 3) := by decide +kernel
theorem dX2_same_16 : decode cX2_same 16 = .ok (.iconst (-1), 1) := by decide +kernel
theorem dX2_same_17 : decode cX2_same 17 = .ok (.goto 23, 3) := by decide +kernel
theorem dX2_same_20 : decode cX2_same 20 = .ok (.aload_n 0, 1) := by decide +kernel
theorem dX2_same_21 : decode cX2_same 21 = .ok (.getfield 35, 3) := by decide +kernel
theorem dX2_same_24 : decode cX2_same 24 = .ok (.iload_n 1, 1) := by decide +kernel
theorem dX2_same_25 : decode cX2_same 25 = .ok (.iaload, 1) := by decide +kernel
theorem dX2_same_26 : decode cX2_same 26 = .ok (.aload_n 0, 1) := by decide +kernel
theorem dX2_same_27 : decode cX2_same 27 = .ok (.getfield 35, 3) := by decide +kernel
theorem dX2_same_30 : decode cX2_same 30 = .ok (.iload_n 2, 1) := by decide +kernel
theorem dX2_same_31 : decode cX2_same 31 = .ok (.iaload, 1) := by decide +kernel
theorem dX2_same_32 : decode cX2_same 32 = .ok (.if_icmp .ne 7, 3) := by decide +kernel
theorem dX2_same_35 : decode cX2_same 35 = .ok (.iconst 1, 1) := by decide +kernel
theorem dX2_same_36 : decode cX2_same 36 = .ok (.goto 4, 3) := by decide +kernel
theorem dX2_same_39 : decode cX2_same 39 = .ok (.iconst 0, 1) := by decide +kernel
theorem dX2_same_40 : decode cX2_same 40 = .ok (.ireturn, 1) := by decide +kernel
theorem dX2_in_0 : decode cX2_in 0 = .ok (.iload_n 0, 1) := by decide +kernel
theorem dX2_in_1 : decode cX2_in 1 = .ok (.iload_n 1, 1) := by decide +kernel
theorem dX2_in_2 : decode cX2_in 2 = .ok (.if_icmp .lt 12, 3) := by decide +kernel
theorem dX2_in_5 : decode cX2_in 5 = .ok (.iload_n 0, 1) := by decide +kernel
theorem dX2_in_6 : decode cX2_in 6 = .ok (.iload_n 2, 1) := by decide +kernel
theorem dX2_in_7 : decode cX2_in 7 = .ok (.if_icmp .gt 7, 3) := by decide +kernel
theorem dX2_in_10 : decode cX2_in 10 = .ok (.iconst 1, 1) := by decide +kernel
theorem dX2_in_11 : decode cX2_in 11 = .ok (.goto 4, 3) := by decide +kernel
theorem dX2_in_14 : decode cX2_in 14 = .ok (.iconst 0, 1) := by decide +kernel
theorem dX2_in_15 : decode cX2_in 15 = .ok (.ireturn, 1) := by decide +kernel
theorem dX2_isFace_0 : decode cX2_isFace 0 = .ok (.iload_n 1, 1) := by decide +kernel
theorem dX2_isFace_1 : decode cX2_isFace 1 = .ok (.ifCond .le 19, 3) := by decide +kernel
theorem dX2_isFace_4 : decode cX2_isFace 4 = .ok (.aload_n 0, 1) := by decide +kernel
theorem dX2_isFace_5 : decode cX2_isFace 5 = .ok (.getfield 9, 3) := by decide +kernel
theorem dX2_isFace_8 : decode cX2_isFace 8 = .ok (.iload_n 1, 1) := by decide +kernel
theorem dX2_isFace_9 : decode cX2_isFace 9 = .ok (.iconst 1, 1) := by decide +kernel
theorem dX2_isFace_10 : decode cX2_isFace 10 = .ok (.isub, 1) := by decide +kernel
theorem dX2_isFace_11 : decode cX2_isFace 11 = .ok (.iaload, 1) := by decide +kernel
theorem dX2_isFace_12 : decode cX2_isFace 12 = .ok (.iconst 2, 1) := by decide +kernel
theorem dX2_isFace_13 : decode cX2_isFace 13 = .ok (.if_icmp .ne 7, 3) := by decide +kernel
theorem dX2_isFace_16 : decode cX2_isFace 16 = .ok (.iconst 1, 1) := by decide +kernel
theorem dX2_isFace_17 : decode cX2_isFace 17 = .ok (.goto 4, 3) := by decide +kernel
theorem dX2_isFace_20 : decode cX2_isFace 20 = .ok (.iconst 0, 1) := by decide +kernel
theorem dX2_isFace_21 : decode cX2_isFace 21 = .ok (.ireturn, 1) := by decide +kernel
theorem dX2_isBare_0 : decode cX2_isBare 0 = .ok (.iconst 1, 1) := by decide +kernel
theorem dX2_isBare_1 : decode cX2_isBare 1 = .ok (.istore 4, 2) := by decide +kernel
theorem dX2_isBare_3 : decode cX2_isBare 3 = .ok (.iload_n 2, 1) := by decide +kernel
theorem dX2_isBare_4 : decode cX2_isBare 4 = .ok (.istore 5, 2) := by decide +kernel
theorem dX2_isBare_6 : decode cX2_isBare 6 = .ok (.iload 5, 2) := by decide +kernel
theorem dX2_isBare_8 : decode cX2_isBare 8 = .ok (.iload_n 3, 1) := by decide +kernel
theorem dX2_isBare_9 : decode cX2_isBare 9 = .ok (.if_icmp .ge 36, 3) := by decide +kernel
theorem dX2_isBare_12 : decode cX2_isBare 12 = .ok (.iload 4, 2) := by decide +kernel
theorem dX2_isBare_14 : decode cX2_isBare 14 = .ok (.ifCond .eq 22, 3) := by decide +kernel
theorem dX2_isBare_17 : decode cX2_isBare 17 = .ok (.aload_n 0, 1) := by decide +kernel
theorem dX2_isBare_18 : decode cX2_isBare 18 = .ok (.getfield 22, 3) := by decide +kernel
theorem dX2_isBare_21 : decode cX2_isBare 21 = .ok (.bipush 8, 2) := by decide +kernel
theorem dX2_isBare_23 : decode cX2_isBare 23 = .ok (.iload_n 1, 1) := by decide +kernel
theorem dX2_isBare_24 : decode cX2_isBare 24 = .ok (.imul, 1) := by decide +kernel
theorem dX2_isBare_25 : decode cX2_isBare 25 = .ok (.iload 5, 2) := by decide +kernel
theorem dX2_isBare_27 : decode cX2_isBare 27 = .ok (.iadd, 1) := by decide +kernel
theorem dX2_isBare_28 : decode cX2_isBare 28 = .ok (.iaload, 1) := by decide +kernel
theorem dX2_isBare_29 : decode cX2_isBare 29 = .ok (.ifCond .ne 7, 3) := by decide +kernel
theorem dX2_isBare_32 : decode cX2_isBare 32 = .ok (.iconst 1, 1) := by decide +kernel
theorem dX2_isBare_33 : decode cX2_isBare 33 = .ok (.goto 4, 3) := by decide +kernel
theorem dX2_isBare_36 : decode cX2_isBare 36 = .ok (.iconst 0, 1) := by decide +kernel
theorem dX2_isBare_37 : decode cX2_isBare 37 = .ok (.istore 4, 2) := by decide +kernel
theorem dX2_isBare_39 : decode cX2_isBare 39 = .ok (.iinc 5 1, 3) := by decide +kernel
theorem dX2_isBare_42 : decode cX2_isBare 42 = .ok (.goto (-36), 3) := by decide +kernel
theorem dX2_isBare_45 : decode cX2_isBare 45 = .ok (.iload 4, 2) := by decide +kernel
theorem dX2_isBare_47 : decode cX2_isBare 47 = .ok (.ireturn, 1) := by decide +kernel
theorem dX2_isGood_0 : decode cX2_isGood 0 = .ok (.bipush 8, 2) := by decide +kernel
theorem dX2_isGood_2 : decode cX2_isGood 2 = .ok (.iload_n 1, 1) := by decide +kernel
theorem dX2_isGood_3 : decode cX2_isGood 3 = .ok (.imul, 1) := by decide +kernel
theorem dX2_isGood_4 : decode cX2_isGood 4 = .ok (.istore_n 2, 1) := by decide +kernel
theorem dX2_isGood_5 : decode cX2_isGood 5 = .ok (.aload_n 0, 1) := by decide +kernel
theorem dX2_isGood_6 : decode cX2_isGood 6 = .ok (.getfield 22, 3) := by decide +kernel
theorem dX2_isGood_9 : decode cX2_isGood 9 = .ok (.iload_n 2, 1) := by decide +kernel
theorem dX2_isGood_10 : decode cX2_isGood 10 = .ok (.iaload, 1) := by decide +kernel
theorem dX2_isGood_11 : decode cX2_isGood 11 = .ok (.istore_n 3, 1) := by decide +kernel
theorem dX2_isGood_12 : decode cX2_isGood 12 = .ok (.aload_n 0, 1) := by decide +kernel
theorem dX2_isGood_13 : decode cX2_isGood 13 = .ok (.getfield 22, 3) := by decide +kernel
theorem dX2_isGood_16 : decode cX2_isGood 16 = .ok (.iload_n 2, 1) := by decide +kernel
theorem dX2_isGood_17 : decode cX2_isGood 17 = .ok (.iconst 1, 1) := by decide +kernel
theorem dX2_isGood_18 : decode cX2_isGood 18 = .ok (.iadd, 1) := by decide +kernel
theorem dX2_isGood_19 : decode cX2_isGood 19 = .ok (.iaload, 1) := by decide +kernel
theorem dX2_isGood_20 : decode cX2_isGood 20 = .ok (.istore 4, 2) := by decide +kernel
theorem dX2_isGood_22 : decode cX2_isGood 22 = .ok (.aload_n 0, 1) := by decide +kernel
theorem dX2_isGood_23 : decode cX2_isGood 23 = .ok (.getfield 22, 3) := by decide +kernel
theorem dX2_isGood_26 : decode cX2_isGood 26 = .ok (.iload_n 2, 1) := by decide +kernel
theorem dX2_isGood_27 : decode cX2_isGood 27 = .ok (.iconst 2, 1) := by decide +kernel
theorem dX2_isGood_28 : decode cX2_isGood 28 = .ok (.iadd, 1) := by decide +kernel
theorem dX2_isGood_29 : decode cX2_isGood 29 = .ok (.iaload, 1) := by decide +kernel
theorem dX2_isGood_30 : decode cX2_isGood 30 = .ok (.istore 5, 2) := by decide +kernel
theorem dX2_isGood_32 : decode cX2_isGood 32 = .ok (.aload_n 0, 1) := by decide +kernel
theorem dX2_isGood_33 : decode cX2_isGood 33 = .ok (.getfield 22, 3) := by decide +kernel
theorem dX2_isGood_36 : decode cX2_isGood 36 = .ok (.iload_n 2, 1) := by decide +kernel
theorem dX2_isGood_37 : decode cX2_isGood 37 = .ok (.iconst 3, 1) := by decide +kernel
theorem dX2_isGood_38 : decode cX2_isGood 38 = .ok (.iadd, 1) := by decide +kernel
theorem dX2_isGood_39 : decode cX2_isGood 39 = .ok (.iaload, 1) := by decide +kernel
theorem dX2_isGood_40 : decode cX2_isGood 40 = .ok (.istore 6, 2) := by decide +kernel
theorem dX2_isGood_42 : decode cX2_isGood 42 = .ok (.aload_n 0, 1) := by decide +kernel
theorem dX2_isGood_43 : decode cX2_isGood 43 = .ok (.getfield 13, 3) := by decide +kernel
theorem dX2_isGood_46 : decode cX2_isGood 46 = .ok (.iload_n 1, 1) := by decide +kernel
theorem dX2_isGood_47 : decode cX2_isGood 47 = .ok (.iaload, 1) := by decide +kernel
theorem dX2_isGood_48 : decode cX2_isGood 48 = .ok (.tableswitch 398 1 6 #[40, 40, 91, 241, 279, 355], 40) := by decide +kernel
theorem dX2_isGood_88 : decode cX2_isGood 88 = .ok (.iload_n 3, 1) := by decide +kernel
theorem dX2_isGood_89 : decode cX2_isGood 89 = .ok (.iconst 0, 1) := by decide +kernel
theorem dX2_isGood_90 : decode cX2_isGood 90 = .ok (.iconst 5, 1) := by decide +kernel
theorem dX2_isGood_91 : decode cX2_isGood 91 = .ok (.invokestatic 98, 3) := by decide +kernel
theorem dX2_isGood_94 : decode cX2_isGood 94 = .ok (.ifCond .eq 43, 3) := by decide +kernel
theorem dX2_isGood_97 : decode cX2_isGood 97 = .ok (.aload_n 0, 1) := by decide +kernel
theorem dX2_isGood_98 : decode cX2_isGood 98 = .ok (.iload_n 1, 1) := by decide +kernel
theorem dX2_isGood_99 : decode cX2_isGood 99 = .ok (.iconst 2, 1) := by decide +kernel
theorem dX2_isGood_100 : decode cX2_isGood 100 = .ok (.iconst 4, 1) := by decide +kernel
theorem dX2_isGood_101 : decode cX2_isGood 101 = .ok (.invokevirtual 102, 3) := by decide +kernel
theorem dX2_isGood_104 : decode cX2_isGood 104 = .ok (.ifCond .eq 33, 3) := by decide +kernel
theorem dX2_isGood_107 : decode cX2_isGood 107 = .ok (.aload_n 0, 1) := by decide +kernel
theorem dX2_isGood_108 : decode cX2_isGood 108 = .ok (.aload_n 0, 1) := by decide +kernel
theorem dX2_isGood_109 : decode cX2_isGood 109 = .ok (.getfield 22, 3) := by decide +kernel
theorem dX2_isGood_112 : decode cX2_isGood 112 = .ok (.iload_n 2, 1) := by decide +kernel
theorem dX2_isGood_113 : decode cX2_isGood 113 = .ok (.iconst 4, 1) := by decide +kernel
theorem dX2_isGood_114 : decode cX2_isGood 114 = .ok (.iadd, 1) := by decide +kernel
theorem dX2_isGood_115 : decode cX2_isGood 115 = .ok (.iaload, 1) := by decide +kernel
theorem dX2_isGood_116 : decode cX2_isGood 116 = .ok (.invokevirtual 105, 3) := by decide +kernel
theorem dX2_isGood_119 : decode cX2_isGood 119 = .ok (.ifCond .eq 18, 3) := by decide +kernel
theorem dX2_isGood_122 : decode cX2_isGood 122 = .ok (.aload_n 0, 1) := by decide +kernel
theorem dX2_isGood_123 : decode cX2_isGood 123 = .ok (.iload_n 1, 1) := by decide +kernel
theorem dX2_isGood_124 : decode cX2_isGood 124 = .ok (.iconst 5, 1) := by decide +kernel
theorem dX2_isGood_125 : decode cX2_isGood 125 = .ok (.bipush 8, 2) := by decide +kernel
theorem dX2_isGood_127 : decode cX2_isGood 127 = .ok (.invokevirtual 102, 3) := by decide +kernel
theorem dX2_isGood_130 : decode cX2_isGood 130 = .ok (.ifCond .eq 7, 3) := by decide +kernel
theorem dX2_isGood_133 : decode cX2_isGood 133 = .ok (.iconst 1, 1) := by decide +kernel
theorem dX2_isGood_134 : decode cX2_isGood 134 = .ok (.goto 4, 3) := by decide +kernel
theorem dX2_isGood_137 : decode cX2_isGood 137 = .ok (.iconst 0, 1) := by decide +kernel
theorem dX2_isGood_138 : decode cX2_isGood 138 = .ok (.ireturn, 1) := by decide +kernel
theorem dX2_isGood_139 : decode cX2_isGood 139 = .ok (.iload_n 3, 1) := by decide +kernel
theorem dX2_isGood_140 : decode cX2_isGood 140 = .ok (.iconst 0, 1) := by decide +kernel
theorem dX2_isGood_141 : decode cX2_isGood 141 = .ok (.iconst 5, 1) := by decide +kernel
theorem dX2_isGood_142 : decode cX2_isGood 142 = .ok (.invokestatic 98, 3) := by decide +kernel
theorem dX2_isGood_145 : decode cX2_isGood 145 = .ok (.ifCond .eq 142, 3) := by decide +kernel
theorem dX2_isGood_148 : decode cX2_isGood 148 = .ok (.iload 4, 2) := by decide +kernel
theorem dX2_isGood_150 : decode cX2_isGood 150 = .ok (.iconst 0, 1) := by decide +kernel
theorem dX2_isGood_151 : decode cX2_isGood 151 = .ok (.iconst 5, 1) := by decide +kernel
theorem dX2_isGood_152 : decode cX2_isGood 152 = .ok (.invokestatic 98, 3) := by decide +kernel
theorem dX2_isGood_155 : decode cX2_isGood 155 = .ok (.ifCond .eq 132, 3) := by decide +kernel
theorem dX2_isGood_158 : decode cX2_isGood 158 = .ok (.iload 5, 2) := by decide +kernel
theorem dX2_isGood_160 : decode cX2_isGood 160 = .ok (.iconst 0, 1) := by decide +kernel
theorem dX2_isGood_161 : decode cX2_isGood 161 = .ok (.sipush 9999, 3) := by decide +kernel
theorem dX2_isGood_164 : decode cX2_isGood 164 = .ok (.invokestatic 98, 3) := by decide +kernel
theorem dX2_isGood_167 : decode cX2_isGood 167 = .ok (.ifCond .eq 120, 3) := by decide +kernel
theorem dX2_isGood_170 : decode cX2_isGood 170 = .ok (.iload 6, 2) := by decide +kernel
theorem dX2_isGood_172 : decode cX2_isGood 172 = .ok (.iconst 0, 1) := by decide +kernel
theorem dX2_isGood_173 : decode cX2_isGood 173 = .ok (.sipush 9999, 3) := by decide +kernel
theorem dX2_isGood_176 : decode cX2_isGood 176 = .ok (.invokestatic 98, 3) := by decide +kernel
theorem dX2_isGood_179 : decode cX2_isGood 179 = .ok (.ifCond .eq 108, 3) := by decide +kernel
theorem dX2_isGood_182 : decode cX2_isGood 182 = .ok (.aload_n 0, 1) := by decide +kernel
theorem dX2_isGood_183 : decode cX2_isGood 183 = .ok (.aload_n 0, 1) := by decide +kernel
theorem dX2_isGood_184 : decode cX2_isGood 184 = .ok (.getfield 22, 3) := by decide +kernel
theorem dX2_isGood_187 : decode cX2_isGood 187 = .ok (.iload_n 2, 1) := by decide +kernel
theorem dX2_isGood_188 : decode cX2_isGood 188 = .ok (.iconst 4, 1) := by decide +kernel
theorem dX2_isGood_189 : decode cX2_isGood 189 = .ok (.iadd, 1) := by decide +kernel
theorem dX2_isGood_190 : decode cX2_isGood 190 = .ok (.iaload, 1) := by decide +kernel
theorem dX2_isGood_191 : decode cX2_isGood 191 = .ok (.invokevirtual 105, 3) := by decide +kernel
theorem dX2_isGood_194 : decode cX2_isGood 194 = .ok (.ifCond .eq 93, 3) := by decide +kernel
theorem dX2_isGood_197 : decode cX2_isGood 197 = .ok (.aload_n 0, 1) := by decide +kernel
theorem dX2_isGood_198 : decode cX2_isGood 198 = .ok (.aload_n 0, 1) := by decide +kernel
theorem dX2_isGood_199 : decode cX2_isGood 199 = .ok (.getfield 22, 3) := by decide +kernel
theorem dX2_isGood_202 : decode cX2_isGood 202 = .ok (.iload_n 2, 1) := by decide +kernel
theorem dX2_isGood_203 : decode cX2_isGood 203 = .ok (.iconst 5, 1) := by decide +kernel
theorem dX2_isGood_204 : decode cX2_isGood 204 = .ok (.iadd, 1) := by decide +kernel
theorem dX2_isGood_205 : decode cX2_isGood 205 = .ok (.iaload, 1) := by decide +kernel
theorem dX2_isGood_206 : decode cX2_isGood 206 = .ok (.invokevirtual 105, 3) := by decide +kernel
theorem dX2_isGood_209 : decode cX2_isGood 209 = .ok (.ifCond .eq 78, 3) := by decide +kernel
theorem dX2_isGood_212 : decode cX2_isGood 212 = .ok (.aload_n 0, 1) := by decide +kernel
theorem dX2_isGood_213 : decode cX2_isGood 213 = .ok (.getfield 22, 3) := by decide +kernel
theorem dX2_isGood_216 : decode cX2_isGood 216 = .ok (.iload_n 2, 1) := by decide +kernel
theorem dX2_isGood_217 : decode cX2_isGood 217 = .ok (.bipush 6, 2) := by decide +kernel
theorem dX2_isGood_219 : decode cX2_isGood 219 = .ok (.iadd, 1) := by decide +kernel
theorem dX2_isGood_220 : decode cX2_isGood 220 = .ok (.iaload, 1) := by decide +kernel
theorem dX2_isGood_221 : decode cX2_isGood 221 = .ok (.ifCond .ne 18, 3) := by decide +kernel
theorem dX2_isGood_224 : decode cX2_isGood 224 = .ok (.aload_n 0, 1) := by decide +kernel
theorem dX2_isGood_225 : decode cX2_isGood 225 = .ok (.getfield 22, 3) := by decide +kernel
theorem dX2_isGood_228 : decode cX2_isGood 228 = .ok (.iload_n 2, 1) := by decide +kernel
theorem dX2_isGood_229 : decode cX2_isGood 229 = .ok (.bipush 7, 2) := by decide +kernel
theorem dX2_isGood_231 : decode cX2_isGood 231 = .ok (.iadd, 1) := by decide +kernel
theorem dX2_isGood_232 : decode cX2_isGood 232 = .ok (.iaload, 1) := by decide +kernel
theorem dX2_isGood_233 : decode cX2_isGood 233 = .ok (.ifCond .ne 54, 3) := by decide +kernel
theorem dX2_isGood_236 : decode cX2_isGood 236 = .ok (.goto 47, 3) := by decide +kernel
theorem dX2_isGood_239 : decode cX2_isGood 239 = .ok (.aload_n 0, 1) := by decide +kernel
theorem dX2_isGood_240 : decode cX2_isGood 240 = .ok (.aload_n 0, 1) := by decide +kernel
theorem dX2_isGood_241 : decode cX2_isGood 241 = .ok (.getfield 22, 3) := by decide +kernel
theorem dX2_isGood_244 : decode cX2_isGood 244 = .ok (.iload_n 2, 1) := by decide +kernel
theorem dX2_isGood_245 : decode cX2_isGood 245 = .ok (.bipush 6, 2) := by decide +kernel
theorem dX2_isGood_247 : decode cX2_isGood 247 = .ok (.iadd, 1) := by decide +kernel
theorem dX2_isGood_248 : decode cX2_isGood 248 = .ok (.iaload, 1) := by decide +kernel
theorem dX2_isGood_249 : decode cX2_isGood 249 = .ok (.invokevirtual 105, 3) := by decide +kernel
theorem dX2_isGood_252 : decode cX2_isGood 252 = .ok (.ifCond .eq 35, 3) := by decide +kernel
theorem dX2_isGood_255 : decode cX2_isGood 255 = .ok (.aload_n 0, 1) := by decide +kernel
theorem dX2_isGood_256 : decode cX2_isGood 256 = .ok (.getfield 22, 3) := by decide +kernel
theorem dX2_isGood_259 : decode cX2_isGood 259 = .ok (.iload_n 2, 1) := by decide +kernel
theorem dX2_isGood_260 : decode cX2_isGood 260 = .ok (.bipush 7, 2) := by decide +kernel
theorem dX2_isGood_262 : decode cX2_isGood 262 = .ok (.iadd, 1) := by decide +kernel
theorem dX2_isGood_263 : decode cX2_isGood 263 = .ok (.iaload, 1) := by decide +kernel
theorem dX2_isGood_264 : decode cX2_isGood 264 = .ok (.ifCond .eq 19, 3) := by decide +kernel
theorem dX2_isGood_267 : decode cX2_isGood 267 = .ok (.aload_n 0, 1) := by decide +kernel
theorem dX2_isGood_268 : decode cX2_isGood 268 = .ok (.aload_n 0, 1) := by decide +kernel
theorem dX2_isGood_269 : decode cX2_isGood 269 = .ok (.getfield 22, 3) := by decide +kernel
theorem dX2_isGood_272 : decode cX2_isGood 272 = .ok (.iload_n 2, 1) := by decide +kernel
theorem dX2_isGood_273 : decode cX2_isGood 273 = .ok (.bipush 7, 2) := by decide +kernel
theorem dX2_isGood_275 : decode cX2_isGood 275 = .ok (.iadd, 1) := by decide +kernel
theorem dX2_isGood_276 : decode cX2_isGood 276 = .ok (.iaload, 1) := by decide +kernel
theorem dX2_isGood_277 : decode cX2_isGood 277 = .ok (.invokevirtual 105, 3) := by decide +kernel
theorem dX2_isGood_280 : decode cX2_isGood 280 = .ok (.ifCond .eq 7, 3) := by decide +kernel
theorem dX2_isGood_283 : decode cX2_isGood 283 = .ok (.iconst 1, 1) := by decide +kernel
theorem dX2_isGood_284 : decode cX2_isGood 284 = .ok (.goto 4, 3) := by decide +kernel
theorem dX2_isGood_287 : decode cX2_isGood 287 = .ok (.iconst 0, 1) := by decide +kernel
theorem dX2_isGood_288 : decode cX2_isGood 288 = .ok (.ireturn, 1) := by decide +kernel
theorem dX2_isGood_289 : decode cX2_isGood 289 = .ok (.aload_n 0, 1) := by decide +kernel
theorem dX2_isGood_290 : decode cX2_isGood 290 = .ok (.iload_n 1, 1) := by decide +kernel
theorem dX2_isGood_291 : decode cX2_isGood 291 = .ok (.iconst 0, 1) := by decide +kernel
theorem dX2_isGood_292 : decode cX2_isGood 292 = .ok (.iconst 4, 1) := by decide +kernel
theorem dX2_isGood_293 : decode cX2_isGood 293 = .ok (.invokevirtual 102, 3) := by decide +kernel
theorem dX2_isGood_296 : decode cX2_isGood 296 = .ok (.ifCond .eq 29, 3) := by decide +kernel
theorem dX2_isGood_299 : decode cX2_isGood 299 = .ok (.aload_n 0, 1) := by decide +kernel
theorem dX2_isGood_300 : decode cX2_isGood 300 = .ok (.getfield 22, 3) := by decide +kernel
theorem dX2_isGood_303 : decode cX2_isGood 303 = .ok (.iload_n 2, 1) := by decide +kernel
theorem dX2_isGood_304 : decode cX2_isGood 304 = .ok (.iconst 4, 1) := by decide +kernel
theorem dX2_isGood_305 : decode cX2_isGood 305 = .ok (.iadd, 1) := by decide +kernel
theorem dX2_isGood_306 : decode cX2_isGood 306 = .ok (.iaload, 1) := by decide +kernel
theorem dX2_isGood_307 : decode cX2_isGood 307 = .ok (.ifCond .eq 18, 3) := by decide +kernel
theorem dX2_isGood_310 : decode cX2_isGood 310 = .ok (.aload_n 0, 1) := by decide +kernel
theorem dX2_isGood_311 : decode cX2_isGood 311 = .ok (.iload_n 1, 1) := by decide +kernel
theorem dX2_isGood_312 : decode cX2_isGood 312 = .ok (.iconst 5, 1) := by decide +kernel
theorem dX2_isGood_313 : decode cX2_isGood 313 = .ok (.bipush 8, 2) := by decide +kernel
theorem dX2_isGood_315 : decode cX2_isGood 315 = .ok (.invokevirtual 102, 3) := by decide +kernel
theorem dX2_isGood_318 : decode cX2_isGood 318 = .ok (.ifCond .eq 7, 3) := by decide +kernel
theorem dX2_isGood_321 : decode cX2_isGood 321 = .ok (.iconst 1, 1) := by decide +kernel
theorem dX2_isGood_322 : decode cX2_isGood 322 = .ok (.goto 4, 3) := by decide +kernel
theorem dX2_isGood_325 : decode cX2_isGood 325 = .ok (.iconst 0, 1) := by decide +kernel
theorem dX2_isGood_326 : decode cX2_isGood 326 = .ok (.ireturn, 1) := by decide +kernel
theorem dX2_isGood_327 : decode cX2_isGood 327 = .ok (.iload_n 3, 1) := by decide +kernel
theorem dX2_isGood_328 : decode cX2_isGood 328 = .ok (.iconst 0, 1) := by decide +kernel
theorem dX2_isGood_329 : decode cX2_isGood 329 = .ok (.iconst 3, 1) := by decide +kernel
theorem dX2_isGood_330 : decode cX2_isGood 330 = .ok (.invokestatic 98, 3) := by decide +kernel
theorem dX2_isGood_333 : decode cX2_isGood 333 = .ok (.ifCond .eq 68, 3) := by decide +kernel
theorem dX2_isGood_336 : decode cX2_isGood 336 = .ok (.iload 4, 2) := by decide +kernel
theorem dX2_isGood_338 : decode cX2_isGood 338 = .ok (.iconst 1, 1) := by decide +kernel
theorem dX2_isGood_339 : decode cX2_isGood 339 = .ok (.if_icmp .lt 62, 3) := by decide +kernel
theorem dX2_isGood_342 : decode cX2_isGood 342 = .ok (.iload 5, 2) := by decide +kernel
theorem dX2_isGood_344 : decode cX2_isGood 344 = .ok (.iconst 0, 1) := by decide +kernel
theorem dX2_isGood_345 : decode cX2_isGood 345 = .ok (.sipush 9999, 3) := by decide +kernel
theorem dX2_isGood_348 : decode cX2_isGood 348 = .ok (.invokestatic 98, 3) := by decide +kernel
theorem dX2_isGood_351 : decode cX2_isGood 351 = .ok (.ifCond .eq 50, 3) := by decide +kernel
theorem dX2_isGood_354 : decode cX2_isGood 354 = .ok (.iload 6, 2) := by decide +kernel
theorem dX2_isGood_356 : decode cX2_isGood 356 = .ok (.ifCond .ne 45, 3) := by decide +kernel
theorem dX2_isGood_359 : decode cX2_isGood 359 = .ok (.aload_n 0, 1) := by decide +kernel
theorem dX2_isGood_360 : decode cX2_isGood 360 = .ok (.getfield 22, 3) := by decide +kernel
theorem dX2_isGood_363 : decode cX2_isGood 363 = .ok (.iload_n 2, 1) := by decide +kernel
theorem dX2_isGood_364 : decode cX2_isGood 364 = .ok (.iconst 4, 1) := by decide +kernel
theorem dX2_isGood_365 : decode cX2_isGood 365 = .ok (.iadd, 1) := by decide +kernel
theorem dX2_isGood_366 : decode cX2_isGood 366 = .ok (.iaload, 1) := by decide +kernel
theorem dX2_isGood_367 : decode cX2_isGood 367 = .ok (.ifCond .eq 34, 3) := by decide +kernel
theorem dX2_isGood_370 : decode cX2_isGood 370 = .ok (.aload_n 0, 1) := by decide +kernel
theorem dX2_isGood_371 : decode cX2_isGood 371 = .ok (.aload_n 0, 1) := by decide +kernel
theorem dX2_isGood_372 : decode cX2_isGood 372 = .ok (.getfield 22, 3) := by decide +kernel
theorem dX2_isGood_375 : decode cX2_isGood 375 = .ok (.iload_n 2, 1) := by decide +kernel
theorem dX2_isGood_376 : decode cX2_isGood 376 = .ok (.iconst 5, 1) := by decide +kernel
theorem dX2_isGood_377 : decode cX2_isGood 377 = .ok (.iadd, 1) := by decide +kernel
theorem dX2_isGood_378 : decode cX2_isGood 378 = .ok (.iaload, 1) := by decide +kernel
theorem dX2_isGood_379 : decode cX2_isGood 379 = .ok (.invokevirtual 105, 3) := by decide +kernel
theorem dX2_isGood_382 : decode cX2_isGood 382 = .ok (.ifCond .eq 19, 3) := by decide +kernel
theorem dX2_isGood_385 : decode cX2_isGood 385 = .ok (.aload_n 0, 1) := by decide +kernel
theorem dX2_isGood_386 : decode cX2_isGood 386 = .ok (.iload_n 1, 1) := by decide +kernel
theorem dX2_isGood_387 : decode cX2_isGood 387 = .ok (.bipush 6, 2) := by decide +kernel
theorem dX2_isGood_389 : decode cX2_isGood 389 = .ok (.bipush 8, 2) := by decide +kernel
theorem dX2_isGood_391 : decode cX2_isGood 391 = .ok (.invokevirtual 102, 3) := by decide +kernel
theorem dX2_isGood_394 : decode cX2_isGood 394 = .ok (.ifCond .eq 7, 3) := by decide +kernel
theorem dX2_isGood_397 : decode cX2_isGood 397 = .ok (.iconst 1, 1) := by decide +kernel
theorem dX2_isGood_398 : decode cX2_isGood 398 = .ok (.goto 4, 3) := by decide +kernel
theorem dX2_isGood_401 : decode cX2_isGood 401 = .ok (.iconst 0, 1) := by decide +kernel
theorem dX2_isGood_402 : decode cX2_isGood 402 = .ok (.ireturn, 1) := by decide +kernel
theorem dX2_isGood_403 : decode cX2_isGood 403 = .ok (.iload_n 3, 1) := by decide +kernel
theorem dX2_isGood_404 : decode cX2_isGood 404 = .ok (.iconst 0, 1) := by decide +kernel
theorem dX2_isGood_405 : decode cX2_isGood 405 = .ok (.iconst 3, 1) := by decide +kernel
theorem dX2_isGood_406 : decode cX2_isGood 406 = .ok (.invokestatic 98, 3) := by decide +kernel
theorem dX2_isGood_409 : decode cX2_isGood 409 = .ok (.ifCond .eq 35, 3) := by decide +kernel
theorem dX2_isGood_412 : decode cX2_isGood 412 = .ok (.iload 4, 2) := by decide +kernel
theorem dX2_isGood_414 : decode cX2_isGood 414 = .ok (.iconst 1, 1) := by decide +kernel
theorem dX2_isGood_415 : decode cX2_isGood 415 = .ok (.if_icmp .lt 29, 3) := by decide +kernel
theorem dX2_isGood_418 : decode cX2_isGood 418 = .ok (.iload 5, 2) := by decide +kernel
theorem dX2_isGood_420 : decode cX2_isGood 420 = .ok (.iconst 0, 1) := by decide +kernel
theorem dX2_isGood_421 : decode cX2_isGood 421 = .ok (.bipush 63, 2) := by decide +kernel
theorem dX2_isGood_423 : decode cX2_isGood 423 = .ok (.invokestatic 98, 3) := by decide +kernel
theorem dX2_isGood_426 : decode cX2_isGood 426 = .ok (.ifCond .eq 18, 3) := by decide +kernel
theorem dX2_isGood_429 : decode cX2_isGood 429 = .ok (.aload_n 0, 1) := by decide +kernel
theorem dX2_isGood_430 : decode cX2_isGood 430 = .ok (.iload_n 1, 1) := by decide +kernel
theorem dX2_isGood_431 : decode cX2_isGood 431 = .ok (.iconst 3, 1) := by decide +kernel
theorem dX2_isGood_432 : decode cX2_isGood 432 = .ok (.bipush 8, 2) := by decide +kernel
theorem dX2_isGood_434 : decode cX2_isGood 434 = .ok (.invokevirtual 102, 3) := by decide +kernel
theorem dX2_isGood_437 : decode cX2_isGood 437 = .ok (.ifCond .eq 7, 3) := by decide +kernel
theorem dX2_isGood_440 : decode cX2_isGood 440 = .ok (.iconst 1, 1) := by decide +kernel
theorem dX2_isGood_441 : decode cX2_isGood 441 = .ok (.goto 4, 3) := by decide +kernel
theorem dX2_isGood_444 : decode cX2_isGood 444 = .ok (.iconst 0, 1) := by decide +kernel
theorem dX2_isGood_445 : decode cX2_isGood 445 = .ok (.ireturn, 1) := by decide +kernel
theorem dX2_isGood_446 : decode cX2_isGood 446 = .ok (.iload_n 3, 1) := by decide +kernel
theorem dX2_isGood_447 : decode cX2_isGood 447 = .ok (.iconst 0, 1) := by decide +kernel
theorem dX2_isGood_448 : decode cX2_isGood 448 = .ok (.iconst 3, 1) := by decide +kernel
theorem dX2_isGood_449 : decode cX2_isGood 449 = .ok (.invokestatic 98, 3) := by decide +kernel
theorem dX2_isGood_452 : decode cX2_isGood 452 = .ok (.ifCond .eq 46, 3) := by decide +kernel
theorem dX2_isGood_455 : decode cX2_isGood 455 = .ok (.iload 4, 2) := by decide +kernel
theorem dX2_isGood_457 : decode cX2_isGood 457 = .ok (.iconst 0, 1) := by decide +kernel
theorem dX2_isGood_458 : decode cX2_isGood 458 = .ok (.iconst 5, 1) := by decide +kernel
theorem dX2_isGood_459 : decode cX2_isGood 459 = .ok (.invokestatic 98, 3) := by decide +kernel
theorem dX2_isGood_462 : decode cX2_isGood 462 = .ok (.ifCond .eq 36, 3) := by decide +kernel
theorem dX2_isGood_465 : decode cX2_isGood 465 = .ok (.iload 5, 2) := by decide +kernel
theorem dX2_isGood_467 : decode cX2_isGood 467 = .ok (.iconst 1, 1) := by decide +kernel
theorem dX2_isGood_468 : decode cX2_isGood 468 = .ok (.if_icmp .lt 30, 3) := by decide +kernel
theorem dX2_isGood_471 : decode cX2_isGood 471 = .ok (.iload 6, 2) := by decide +kernel
theorem dX2_isGood_473 : decode cX2_isGood 473 = .ok (.iconst 0, 1) := by decide +kernel
theorem dX2_isGood_474 : decode cX2_isGood 474 = .ok (.sipush 9999, 3) := by decide +kernel
theorem dX2_isGood_477 : decode cX2_isGood 477 = .ok (.invokestatic 98, 3) := by decide +kernel
theorem dX2_isGood_480 : decode cX2_isGood 480 = .ok (.ifCond .eq 18, 3) := by decide +kernel
theorem dX2_isGood_483 : decode cX2_isGood 483 = .ok (.aload_n 0, 1) := by decide +kernel
theorem dX2_isGood_484 : decode cX2_isGood 484 = .ok (.iload_n 1, 1) := by decide +kernel
theorem dX2_isGood_485 : decode cX2_isGood 485 = .ok (.iconst 4, 1) := by decide +kernel
theorem dX2_isGood_486 : decode cX2_isGood 486 = .ok (.bipush 8, 2) := by decide +kernel
theorem dX2_isGood_488 : decode cX2_isGood 488 = .ok (.invokevirtual 102, 3) := by decide +kernel
theorem dX2_isGood_491 : decode cX2_isGood 491 = .ok (.ifCond .eq 7, 3) := by decide +kernel
theorem dX2_isGood_494 : decode cX2_isGood 494 = .ok (.iconst 1, 1) := by decide +kernel
theorem dX2_isGood_495 : decode cX2_isGood 495 = .ok (.goto 4, 3) := by decide +kernel
theorem dX2_isGood_498 : decode cX2_isGood 498 = .ok (.iconst 0, 1) := by decide +kernel
theorem dX2_isGood_499 : decode cX2_isGood 499 = .ok (.ireturn, 1) := by decide +kernel
theorem dX2_good_0 : decode cX2_good 0 = .ok (.aload_n 0, 1) := by decide +kernel
theorem dX2_good_1 : decode cX2_good 1 = .ok (.iload_n 1, 1) := by decide +kernel
theorem dX2_good_2 : decode cX2_good 2 = .ok (.bipush 7, 2) := by decide +kernel
theorem dX2_good_4 : decode cX2_good 4 = .ok (.invokevirtual 60, 3) := by decide +kernel
theorem dX2_good_7 : decode cX2_good 7 = .ok (.ifCond .ne 7, 3) := by decide +kernel
theorem dX2_good_10 : decode cX2_good 10 = .ok (.iconst (-1), 1) := by decide +kernel
theorem dX2_good_11 : decode cX2_good 11 = .ok (.goto 23, 3) := by decide +kernel
theorem dX2_good_14 : decode cX2_good 14 = .ok (.aload_n 0, 1) := by decide +kernel
theorem dX2_good_15 : decode cX2_good 15 = .ok (.aload_n 0, 1) := by decide +kernel
theorem dX2_good_16 : decode cX2_good 16 = .ok (.getfield 35, 3) := by decide +kernel
theorem dX2_good_19 : decode cX2_good 19 = .ok (.iload_n 1, 1) := by decide +kernel
theorem dX2_good_20 : decode cX2_good 20 = .ok (.iaload, 1) := by decide +kernel
theorem dX2_good_21 : decode cX2_good 21 = .ok (.iconst 1, 1) := by decide +kernel
theorem dX2_good_22 : decode cX2_good 22 = .ok (.isub, 1) := by decide +kernel
theorem dX2_good_23 : decode cX2_good 23 = .ok (.invokevirtual 108, 3) := by decide +kernel
theorem dX2_good_26 : decode cX2_good 26 = .ok (.ifCond .eq 7, 3) := by decide +kernel
theorem dX2_good_29 : decode cX2_good 29 = .ok (.iconst 1, 1) := by decide +kernel
theorem dX2_good_30 : decode cX2_good 30 = .ok (.goto 4, 3) := by decide +kernel
theorem dX2_good_33 : decode cX2_good 33 = .ok (.iconst 0, 1) := by decide +kernel
theorem dX2_good_34 : decode cX2_good 34 = .ok (.ireturn, 1) := by decide +kernel
theorem dX2_about_0 : decode cX2_about 0 = .ok (.aload_n 0, 1) := by decide +kernel
theorem dX2_about_1 : decode cX2_about 1 = .ok (.iload_n 1, 1) := by decide +kernel
theorem dX2_about_2 : decode cX2_about 2 = .ok (.invokevirtual 50, 3) := by decide +kernel
theorem dX2_about_5 : decode cX2_about 5 = .ok (.ifCond .eq 12, 3) := by decide +kernel
theorem dX2_about_8 : decode cX2_about 8 = .ok (.iload_n 2, 1) := by decide +kernel
theorem dX2_about_9 : decode cX2_about 9 = .ok (.ifCond .lt 8, 3) := by decide +kernel
theorem dX2_about_12 : decode cX2_about 12 = .ok (.iload_n 2, 1) := by decide +kernel
theorem dX2_about_13 : decode cX2_about 13 = .ok (.iconst 5, 1) := by decide +kernel
theorem dX2_about_14 : decode cX2_about 14 = .ok (.if_icmp .le 5, 3) := by decide +kernel
theorem dX2_about_17 : decode cX2_about 17 = .ok (.iconst (-1), 1) := by decide +kernel
theorem dX2_about_18 : decode cX2_about 18 = .ok (.ireturn, 1) := by decide +kernel
theorem dX2_about_19 : decode cX2_about 19 = .ok (.aload_n 0, 1) := by decide +kernel
theorem dX2_about_20 : decode cX2_about 20 = .ok (.getfield 35, 3) := by decide +kernel
theorem dX2_about_23 : decode cX2_about 23 = .ok (.iload_n 1, 1) := by decide +kernel
theorem dX2_about_24 : decode cX2_about 24 = .ok (.iaload, 1) := by decide +kernel
theorem dX2_about_25 : decode cX2_about 25 = .ok (.iconst 1, 1) := by decide +kernel
theorem dX2_about_26 : decode cX2_about 26 = .ok (.isub, 1) := by decide +kernel
theorem dX2_about_27 : decode cX2_about 27 = .ok (.istore_n 3, 1) := by decide +kernel
theorem dX2_about_28 : decode cX2_about 28 = .ok (.iload_n 2, 1) := by decide +kernel
theorem dX2_about_29 : decode cX2_about 29 = .ok (.ifCond .ne 10, 3) := by decide +kernel
theorem dX2_about_32 : decode cX2_about 32 = .ok (.aload_n 0, 1) := by decide +kernel
theorem dX2_about_33 : decode cX2_about 33 = .ok (.getfield 9, 3) := by decide +kernel
theorem dX2_about_36 : decode cX2_about 36 = .ok (.iload_n 3, 1) := by decide +kernel
theorem dX2_about_37 : decode cX2_about 37 = .ok (.iaload, 1) := by decide +kernel
theorem dX2_about_38 : decode cX2_about 38 = .ok (.ireturn, 1) := by decide +kernel
theorem dX2_about_39 : decode cX2_about 39 = .ok (.iload_n 2, 1) := by decide +kernel
theorem dX2_about_40 : decode cX2_about 40 = .ok (.iconst 1, 1) := by decide +kernel
theorem dX2_about_41 : decode cX2_about 41 = .ok (.if_icmp .ne 35, 3) := by decide +kernel
theorem dX2_about_44 : decode cX2_about 44 = .ok (.aload_n 0, 1) := by decide +kernel
theorem dX2_about_45 : decode cX2_about 45 = .ok (.getfield 9, 3) := by decide +kernel
theorem dX2_about_48 : decode cX2_about 48 = .ok (.iload_n 3, 1) := by decide +kernel
theorem dX2_about_49 : decode cX2_about 49 = .ok (.iaload, 1) := by decide +kernel
theorem dX2_about_50 : decode cX2_about 50 = .ok (.iconst 4, 1) := by decide +kernel
theorem dX2_about_51 : decode cX2_about 51 = .ok (.if_icmp .eq 14, 3) := by decide +kernel
theorem dX2_about_54 : decode cX2_about 54 = .ok (.aload_n 0, 1) := by decide +kernel
theorem dX2_about_55 : decode cX2_about 55 = .ok (.getfield 9, 3) := by decide +kernel
theorem dX2_about_58 : decode cX2_about 58 = .ok (.iload_n 3, 1) := by decide +kernel
theorem dX2_about_59 : decode cX2_about 59 = .ok (.iaload, 1) := by decide +kernel
theorem dX2_about_60 : decode cX2_about 60 = .ok (.bipush 7, 2) := by decide +kernel
theorem dX2_about_62 : decode cX2_about 62 = .ok (.if_icmp .ne 12, 3) := by decide +kernel
theorem dX2_about_65 : decode cX2_about 65 = .ok (.aload_n 0, 1) := by decide +kernel
theorem dX2_about_66 : decode cX2_about 66 = .ok (.getfield 13, 3) := by decide +kernel
theorem dX2_about_69 : decode cX2_about 69 = .ok (.iload_n 3, 1) := by decide +kernel
theorem dX2_about_70 : decode cX2_about 70 = .ok (.iaload, 1) := by decide +kernel
theorem dX2_about_71 : decode cX2_about 71 = .ok (.goto 4, 3) := by decide +kernel
theorem dX2_about_74 : decode cX2_about 74 = .ok (.iconst 0, 1) := by decide +kernel
theorem dX2_about_75 : decode cX2_about 75 = .ok (.ireturn, 1) := by decide +kernel
theorem dX2_about_76 : decode cX2_about 76 = .ok (.aload_n 0, 1) := by decide +kernel
theorem dX2_about_77 : decode cX2_about 77 = .ok (.getfield 9, 3) := by decide +kernel
theorem dX2_about_80 : decode cX2_about 80 = .ok (.iload_n 3, 1) := by decide +kernel
theorem dX2_about_81 : decode cX2_about 81 = .ok (.iaload, 1) := by decide +kernel
theorem dX2_about_82 : decode cX2_about 82 = .ok (.bipush 7, 2) := by decide +kernel
theorem dX2_about_84 : decode cX2_about 84 = .ok (.if_icmp .ne 19, 3) := by decide +kernel
theorem dX2_about_87 : decode cX2_about 87 = .ok (.aload_n 0, 1) := by decide +kernel
theorem dX2_about_88 : decode cX2_about 88 = .ok (.getfield 22, 3) := by decide +kernel
theorem dX2_about_91 : decode cX2_about 91 = .ok (.bipush 8, 2) := by decide +kernel
theorem dX2_about_93 : decode cX2_about 93 = .ok (.iload_n 3, 1) := by decide +kernel
theorem dX2_about_94 : decode cX2_about 94 = .ok (.imul, 1) := by decide +kernel
theorem dX2_about_95 : decode cX2_about 95 = .ok (.iload_n 2, 1) := by decide +kernel
theorem dX2_about_96 : decode cX2_about 96 = .ok (.iadd, 1) := by decide +kernel
theorem dX2_about_97 : decode cX2_about 97 = .ok (.iconst 2, 1) := by decide +kernel
theorem dX2_about_98 : decode cX2_about 98 = .ok (.isub, 1) := by decide +kernel
theorem dX2_about_99 : decode cX2_about 99 = .ok (.iaload, 1) := by decide +kernel
theorem dX2_about_100 : decode cX2_about 100 = .ok (.goto 4, 3) := by decide +kernel
theorem dX2_about_103 : decode cX2_about 103 = .ok (.iconst 0, 1) := by decide +kernel
theorem dX2_about_104 : decode cX2_about 104 = .ok (.ireturn, 1) := by decide +kernel
theorem dX2_count_0 : decode cX2_count 0 = .ok (.iload_n 1, 1) := by decide +kernel
theorem dX2_count_1 : decode cX2_count 1 = .ok (.ifCond .ne 10, 3) := by decide +kernel
theorem dX2_count_4 : decode cX2_count 4 = .ok (.aload_n 0, 1) := by decide +kernel
theorem dX2_count_5 : decode cX2_count 5 = .ok (.getfield 38, 3) := by decide +kernel
theorem dX2_count_8 : decode cX2_count 8 = .ok (.goto 16, 3) := by decide +kernel
theorem dX2_count_11 : decode cX2_count 11 = .ok (.iload_n 1, 1) := by decide +kernel
theorem dX2_count_12 : decode cX2_count 12 = .ok (.iconst 1, 1) := by decide +kernel
theorem dX2_count_13 : decode cX2_count 13 = .ok (.if_icmp .ne 10, 3) := by decide +kernel
theorem dX2_count_16 : decode cX2_count 16 = .ok (.aload_n 0, 1) := by decide +kernel
theorem dX2_count_17 : decode cX2_count 17 = .ok (.invokevirtual 94, 3) := by decide +kernel
theorem dX2_count_20 : decode cX2_count 20 = .ok (.goto 4, 3) := by decide +kernel
theorem dX2_count_23 : decode cX2_count 23 = .ok (.iconst (-1), 1) := by decide +kernel
theorem dX2_count_24 : decode cX2_count 24 = .ok (.ireturn, 1) := by decide +kernel
end
section
theorem dL_law_0 : decode cL_law 0 = .ok (.new 7, 3) := by decide +kernel
theorem dL_law_3 : decode cL_law 3 = .ok (.dup, 1) := by decide +kernel
theorem dL_law_4 : decode cL_law 4 = .ok (.invokespecial 9, 3) := by decide +kernel
theorem dL_law_7 : decode cL_law 7 = .ok (.astore_n 1, 1) := by decide +kernel
theorem dL_law_8 : decode cL_law 8 = .ok (.new 10, 3) := by decide +kernel
theorem dL_law_11 : decode cL_law 11 = .ok (.dup, 1) := by decide +kernel
theorem dL_law_12 : decode cL_law 12 = .ok (.invokespecial 12, 3) := by decide +kernel
theorem dL_law_15 : decode cL_law 15 = .ok (.astore_n 2, 1) := by decide +kernel
theorem dL_law_16 : decode cL_law 16 = .ok (.iconst 0, 1) := by decide +kernel
theorem dL_law_17 : decode cL_law 17 = .ok (.istore_n 3, 1) := by decide +kernel
theorem dL_law_18 : decode cL_law 18 = .ok (.iload_n 3, 1) := by decide +kernel
theorem dL_law_19 : decode cL_law 19 = .ok (.aload_n 0, 1) := by decide +kernel
theorem dL_law_20 : decode cL_law 20 = .ok (.arraylength, 1) := by decide +kernel
theorem dL_law_21 : decode cL_law 21 = .ok (.iconst 5, 1) := by decide +kernel
theorem dL_law_22 : decode cL_law 22 = .ok (.isub, 1) := by decide +kernel
theorem dL_law_23 : decode cL_law 23 = .ok (.if_icmp .gt 730, 3) := by decide +kernel
theorem dL_law_26 : decode cL_law 26 = .ok (.aload_n 0, 1) := by decide +kernel
theorem dL_law_27 : decode cL_law 27 = .ok (.iload_n 3, 1) := by decide +kernel
theorem dL_law_28 : decode cL_law 28 = .ok (.iaload, 1) := by decide +kernel
theorem dL_law_29 : decode cL_law 29 = .ok (.bipush 31, 2) := by decide +kernel
theorem dL_law_31 : decode cL_law 31 = .ok (.iand, 1) := by decide +kernel
theorem dL_law_32 : decode cL_law 32 = .ok (.tableswitch 715 0 16 #[84, 107, 140, 183, 226, 279, 332, 375, 408, 461, 514, 557, 580, 603, 636, 659, 692], 84) := by decide +kernel
theorem dL_law_116 : decode cL_law 116 = .ok (.aload_n 1, 1) := by decide +kernel
theorem dL_law_117 : decode cL_law 117 = .ok (.aload_n 0, 1) := by decide +kernel
theorem dL_law_118 : decode cL_law 118 = .ok (.iload_n 3, 1) := by decide +kernel
theorem dL_law_119 : decode cL_law 119 = .ok (.iconst 1, 1) := by decide +kernel
theorem dL_law_120 : decode cL_law 120 = .ok (.iadd, 1) := by decide +kernel
theorem dL_law_121 : decode cL_law 121 = .ok (.iaload, 1) := by decide +kernel
theorem dL_law_122 : decode cL_law 122 = .ok (.invokevirtual 13, 3) := by decide +kernel
theorem dL_law_125 : decode cL_law 125 = .ok (.aload_n 2, 1) := by decide +kernel
theorem dL_law_126 : decode cL_law 126 = .ok (.aload_n 0, 1) := by decide +kernel
theorem dL_law_127 : decode cL_law 127 = .ok (.iload_n 3, 1) := by decide +kernel
theorem dL_law_128 : decode cL_law 128 = .ok (.iconst 1, 1) := by decide +kernel
theorem dL_law_129 : decode cL_law 129 = .ok (.iadd, 1) := by decide +kernel
theorem dL_law_130 : decode cL_law 130 = .ok (.iaload, 1) := by decide +kernel
theorem dL_law_131 : decode cL_law 131 = .ok (.invokevirtual 17, 3) := by decide +kernel
theorem dL_law_134 : decode cL_law 134 = .ok (.if_icmp .eq 613, 3) := by decide +kernel
theorem dL_law_137 : decode cL_law 137 = .ok (.iconst 0, 1) := by decide +kernel
theorem dL_law_138 : decode cL_law 138 = .ok (.ireturn, 1) := by decide +kernel
theorem dL_law_139 : decode cL_law 139 = .ok (.aload_n 1, 1) := by decide +kernel
theorem dL_law_140 : decode cL_law 140 = .ok (.aload_n 0, 1) := by decide +kernel
theorem dL_law_141 : decode cL_law 141 = .ok (.iload_n 3, 1) := by decide +kernel
theorem dL_law_142 : decode cL_law 142 = .ok (.iconst 1, 1) := by decide +kernel
theorem dL_law_143 : decode cL_law 143 = .ok (.iadd, 1) := by decide +kernel
theorem dL_law_144 : decode cL_law 144 = .ok (.iaload, 1) := by decide +kernel
theorem dL_law_145 : decode cL_law 145 = .ok (.aload_n 0, 1) := by decide +kernel
theorem dL_law_146 : decode cL_law 146 = .ok (.iload_n 3, 1) := by decide +kernel
theorem dL_law_147 : decode cL_law 147 = .ok (.iconst 2, 1) := by decide +kernel
theorem dL_law_148 : decode cL_law 148 = .ok (.iadd, 1) := by decide +kernel
theorem dL_law_149 : decode cL_law 149 = .ok (.iaload, 1) := by decide +kernel
theorem dL_law_150 : decode cL_law 150 = .ok (.invokevirtual 18, 3) := by decide +kernel
theorem dL_law_153 : decode cL_law 153 = .ok (.aload_n 2, 1) := by decide +kernel
theorem dL_law_154 : decode cL_law 154 = .ok (.aload_n 0, 1) := by decide +kernel
theorem dL_law_155 : decode cL_law 155 = .ok (.iload_n 3, 1) := by decide +kernel
theorem dL_law_156 : decode cL_law 156 = .ok (.iconst 1, 1) := by decide +kernel
theorem dL_law_157 : decode cL_law 157 = .ok (.iadd, 1) := by decide +kernel
theorem dL_law_158 : decode cL_law 158 = .ok (.iaload, 1) := by decide +kernel
theorem dL_law_159 : decode cL_law 159 = .ok (.aload_n 0, 1) := by decide +kernel
theorem dL_law_160 : decode cL_law 160 = .ok (.iload_n 3, 1) := by decide +kernel
theorem dL_law_161 : decode cL_law 161 = .ok (.iconst 2, 1) := by decide +kernel
theorem dL_law_162 : decode cL_law 162 = .ok (.iadd, 1) := by decide +kernel
theorem dL_law_163 : decode cL_law 163 = .ok (.iaload, 1) := by decide +kernel
theorem dL_law_164 : decode cL_law 164 = .ok (.invokevirtual 22, 3) := by decide +kernel
theorem dL_law_167 : decode cL_law 167 = .ok (.if_icmp .eq 580, 3) := by decide +kernel
theorem dL_law_170 : decode cL_law 170 = .ok (.iconst 0, 1) := by decide +kernel
theorem dL_law_171 : decode cL_law 171 = .ok (.ireturn, 1) := by decide +kernel
theorem dL_law_172 : decode cL_law 172 = .ok (.aload_n 1, 1) := by decide +kernel
theorem dL_law_173 : decode cL_law 173 = .ok (.aload_n 0, 1) := by decide +kernel
theorem dL_law_174 : decode cL_law 174 = .ok (.iload_n 3, 1) := by decide +kernel
theorem dL_law_175 : decode cL_law 175 = .ok (.iconst 1, 1) := by decide +kernel
theorem dL_law_176 : decode cL_law 176 = .ok (.iadd, 1) := by decide +kernel
theorem dL_law_177 : decode cL_law 177 = .ok (.iaload, 1) := by decide +kernel
theorem dL_law_178 : decode cL_law 178 = .ok (.aload_n 0, 1) := by decide +kernel
theorem dL_law_179 : decode cL_law 179 = .ok (.iload_n 3, 1) := by decide +kernel
theorem dL_law_180 : decode cL_law 180 = .ok (.iconst 2, 1) := by decide +kernel
theorem dL_law_181 : decode cL_law 181 = .ok (.iadd, 1) := by decide +kernel
theorem dL_law_182 : decode cL_law 182 = .ok (.iaload, 1) := by decide +kernel
theorem dL_law_183 : decode cL_law 183 = .ok (.aload_n 0, 1) := by decide +kernel
theorem dL_law_184 : decode cL_law 184 = .ok (.iload_n 3, 1) := by decide +kernel
theorem dL_law_185 : decode cL_law 185 = .ok (.iconst 3, 1) := by decide +kernel
theorem dL_law_186 : decode cL_law 186 = .ok (.iadd, 1) := by decide +kernel
theorem dL_law_187 : decode cL_law 187 = .ok (.iaload, 1) := by decide +kernel
theorem dL_law_188 : decode cL_law 188 = .ok (.invokevirtual 23, 3) := by decide +kernel
theorem dL_law_191 : decode cL_law 191 = .ok (.aload_n 2, 1) := by decide +kernel
theorem dL_law_192 : decode cL_law 192 = .ok (.aload_n 0, 1) := by decide +kernel
theorem dL_law_193 : decode cL_law 193 = .ok (.iload_n 3, 1) := by decide +kernel
theorem dL_law_194 : decode cL_law 194 = .ok (.iconst 1, 1) := by decide +kernel
theorem dL_law_195 : decode cL_law 195 = .ok (.iadd, 1) := by decide +kernel
theorem dL_law_196 : decode cL_law 196 = .ok (.iaload, 1) := by decide +kernel
theorem dL_law_197 : decode cL_law 197 = .ok (.aload_n 0, 1) := by decide +kernel
theorem dL_law_198 : decode cL_law 198 = .ok (.iload_n 3, 1) := by decide +kernel
theorem dL_law_199 : decode cL_law 199 = .ok (.iconst 2, 1) := by decide +kernel
theorem dL_law_200 : decode cL_law 200 = .ok (.iadd, 1) := by decide +kernel
theorem dL_law_201 : decode cL_law 201 = .ok (.iaload, 1) := by decide +kernel
theorem dL_law_202 : decode cL_law 202 = .ok (.aload_n 0, 1) := by decide +kernel
theorem dL_law_203 : decode cL_law 203 = .ok (.iload_n 3, 1) := by decide +kernel
theorem dL_law_204 : decode cL_law 204 = .ok (.iconst 3, 1) := by decide +kernel
theorem dL_law_205 : decode cL_law 205 = .ok (.iadd, 1) := by decide +kernel
theorem dL_law_206 : decode cL_law 206 = .ok (.iaload, 1) := by decide +kernel
theorem dL_law_207 : decode cL_law 207 = .ok (.invokevirtual 27, 3) := by decide +kernel
theorem dL_law_210 : decode cL_law 210 = .ok (.if_icmp .eq 537, 3) := by decide +kernel
theorem dL_law_213 : decode cL_law 213 = .ok (.iconst 0, 1) := by decide +kernel
theorem dL_law_214 : decode cL_law 214 = .ok (.ireturn, 1) := by decide +kernel
theorem dL_law_215 : decode cL_law 215 = .ok (.aload_n 1, 1) := by decide +kernel
theorem dL_law_216 : decode cL_law 216 = .ok (.aload_n 0, 1) := by decide +kernel
theorem dL_law_217 : decode cL_law 217 = .ok (.iload_n 3, 1) := by decide +kernel
theorem dL_law_218 : decode cL_law 218 = .ok (.iconst 1, 1) := by decide +kernel
theorem dL_law_219 : decode cL_law 219 = .ok (.iadd, 1) := by decide +kernel
theorem dL_law_220 : decode cL_law 220 = .ok (.iaload, 1) := by decide +kernel
theorem dL_law_221 : decode cL_law 221 = .ok (.aload_n 0, 1) := by decide +kernel
theorem dL_law_222 : decode cL_law 222 = .ok (.iload_n 3, 1) := by decide +kernel
theorem dL_law_223 : decode cL_law 223 = .ok (.iconst 2, 1) := by decide +kernel
theorem dL_law_224 : decode cL_law 224 = .ok (.iadd, 1) := by decide +kernel
theorem dL_law_225 : decode cL_law 225 = .ok (.iaload, 1) := by decide +kernel
theorem dL_law_226 : decode cL_law 226 = .ok (.aload_n 0, 1) := by decide +kernel
theorem dL_law_227 : decode cL_law 227 = .ok (.iload_n 3, 1) := by decide +kernel
theorem dL_law_228 : decode cL_law 228 = .ok (.iconst 3, 1) := by decide +kernel
theorem dL_law_229 : decode cL_law 229 = .ok (.iadd, 1) := by decide +kernel
theorem dL_law_230 : decode cL_law 230 = .ok (.iaload, 1) := by decide +kernel
theorem dL_law_231 : decode cL_law 231 = .ok (.invokevirtual 28, 3) := by decide +kernel
theorem dL_law_234 : decode cL_law 234 = .ok (.aload_n 2, 1) := by decide +kernel
theorem dL_law_235 : decode cL_law 235 = .ok (.aload_n 0, 1) := by decide +kernel
theorem dL_law_236 : decode cL_law 236 = .ok (.iload_n 3, 1) := by decide +kernel
theorem dL_law_237 : decode cL_law 237 = .ok (.iconst 1, 1) := by decide +kernel
theorem dL_law_238 : decode cL_law 238 = .ok (.iadd, 1) := by decide +kernel
theorem dL_law_239 : decode cL_law 239 = .ok (.iaload, 1) := by decide +kernel
theorem dL_law_240 : decode cL_law 240 = .ok (.aload_n 0, 1) := by decide +kernel
theorem dL_law_241 : decode cL_law 241 = .ok (.iload_n 3, 1) := by decide +kernel
theorem dL_law_242 : decode cL_law 242 = .ok (.iconst 2, 1) := by decide +kernel
theorem dL_law_243 : decode cL_law 243 = .ok (.iadd, 1) := by decide +kernel
theorem dL_law_244 : decode cL_law 244 = .ok (.iaload, 1) := by decide +kernel
theorem dL_law_245 : decode cL_law 245 = .ok (.aload_n 0, 1) := by decide +kernel
theorem dL_law_246 : decode cL_law 246 = .ok (.iload_n 3, 1) := by decide +kernel
theorem dL_law_247 : decode cL_law 247 = .ok (.iconst 3, 1) := by decide +kernel
theorem dL_law_248 : decode cL_law 248 = .ok (.iadd, 1) := by decide +kernel
theorem dL_law_249 : decode cL_law 249 = .ok (.iaload, 1) := by decide +kernel
theorem dL_law_250 : decode cL_law 250 = .ok (.invokevirtual 31, 3) := by decide +kernel
theorem dL_law_253 : decode cL_law 253 = .ok (.if_icmp .eq 494, 3) := by decide +kernel
theorem dL_law_256 : decode cL_law 256 = .ok (.iconst 0, 1) := by decide +kernel
theorem dL_law_257 : decode cL_law 257 = .ok (.ireturn, 1) := by decide +kernel
theorem dL_law_258 : decode cL_law 258 = .ok (.aload_n 1, 1) := by decide +kernel
theorem dL_law_259 : decode cL_law 259 = .ok (.aload_n 0, 1) := by decide +kernel
theorem dL_law_260 : decode cL_law 260 = .ok (.iload_n 3, 1) := by decide +kernel
theorem dL_law_261 : decode cL_law 261 = .ok (.iconst 1, 1) := by decide +kernel
theorem dL_law_262 : decode cL_law 262 = .ok (.iadd, 1) := by decide +kernel
theorem dL_law_263 : decode cL_law 263 = .ok (.iaload, 1) := by decide +kernel
theorem dL_law_264 : decode cL_law 264 = .ok (.aload_n 0, 1) := by decide +kernel
theorem dL_law_265 : decode cL_law 265 = .ok (.iload_n 3, 1) := by decide +kernel
theorem dL_law_266 : decode cL_law 266 = .ok (.iconst 2, 1) := by decide +kernel
theorem dL_law_267 : decode cL_law 267 = .ok (.iadd, 1) := by decide +kernel
theorem dL_law_268 : decode cL_law 268 = .ok (.iaload, 1) := by decide +kernel
theorem dL_law_269 : decode cL_law 269 = .ok (.aload_n 0, 1) := by decide +kernel
theorem dL_law_270 : decode cL_law 270 = .ok (.iload_n 3, 1) := by decide +kernel
theorem dL_law_271 : decode cL_law 271 = .ok (.iconst 3, 1) := by decide +kernel
theorem dL_law_272 : decode cL_law 272 = .ok (.iadd, 1) := by decide +kernel
theorem dL_law_273 : decode cL_law 273 = .ok (.iaload, 1) := by decide +kernel
theorem dL_law_274 : decode cL_law 274 = .ok (.aload_n 0, 1) := by decide +kernel
theorem dL_law_275 : decode cL_law 275 = .ok (.iload_n 3, 1) := by decide +kernel
theorem dL_law_276 : decode cL_law 276 = .ok (.iconst 4, 1) := by decide +kernel
theorem dL_law_277 : decode cL_law 277 = .ok (.iadd, 1) := by decide +kernel
theorem dL_law_278 : decode cL_law 278 = .ok (.iaload, 1) := by decide +kernel
theorem dL_law_279 : decode cL_law 279 = .ok (.invokevirtual 32, 3) := by decide +kernel
theorem dL_law_282 : decode cL_law 282 = .ok (.aload_n 2, 1) := by decide +kernel
theorem dL_law_283 : decode cL_law 283 = .ok (.aload_n 0, 1) := by decide +kernel
theorem dL_law_284 : decode cL_law 284 = .ok (.iload_n 3, 1) := by decide +kernel
theorem dL_law_285 : decode cL_law 285 = .ok (.iconst 1, 1) := by decide +kernel
theorem dL_law_286 : decode cL_law 286 = .ok (.iadd, 1) := by decide +kernel
theorem dL_law_287 : decode cL_law 287 = .ok (.iaload, 1) := by decide +kernel
theorem dL_law_288 : decode cL_law 288 = .ok (.aload_n 0, 1) := by decide +kernel
theorem dL_law_289 : decode cL_law 289 = .ok (.iload_n 3, 1) := by decide +kernel
theorem dL_law_290 : decode cL_law 290 = .ok (.iconst 2, 1) := by decide +kernel
theorem dL_law_291 : decode cL_law 291 = .ok (.iadd, 1) := by decide +kernel
theorem dL_law_292 : decode cL_law 292 = .ok (.iaload, 1) := by decide +kernel
theorem dL_law_293 : decode cL_law 293 = .ok (.aload_n 0, 1) := by decide +kernel
theorem dL_law_294 : decode cL_law 294 = .ok (.iload_n 3, 1) := by decide +kernel
theorem dL_law_295 : decode cL_law 295 = .ok (.iconst 3, 1) := by decide +kernel
theorem dL_law_296 : decode cL_law 296 = .ok (.iadd, 1) := by decide +kernel
theorem dL_law_297 : decode cL_law 297 = .ok (.iaload, 1) := by decide +kernel
theorem dL_law_298 : decode cL_law 298 = .ok (.aload_n 0, 1) := by decide +kernel
theorem dL_law_299 : decode cL_law 299 = .ok (.iload_n 3, 1) := by decide +kernel
theorem dL_law_300 : decode cL_law 300 = .ok (.iconst 4, 1) := by decide +kernel
theorem dL_law_301 : decode cL_law 301 = .ok (.iadd, 1) := by decide +kernel
theorem dL_law_302 : decode cL_law 302 = .ok (.iaload, 1) := by decide +kernel
theorem dL_law_303 : decode cL_law 303 = .ok (.invokevirtual 36, 3) := by decide +kernel
theorem dL_law_306 : decode cL_law 306 = .ok (.if_icmp .eq 441, 3) := by decide +kernel
theorem dL_law_309 : decode cL_law 309 = .ok (.iconst 0, 1) := by decide +kernel
theorem dL_law_310 : decode cL_law 310 = .ok (.ireturn, 1) := by decide +kernel
theorem dL_law_311 : decode cL_law 311 = .ok (.aload_n 1, 1) := by decide +kernel
theorem dL_law_312 : decode cL_law 312 = .ok (.aload_n 0, 1) := by decide +kernel
theorem dL_law_313 : decode cL_law 313 = .ok (.iload_n 3, 1) := by decide +kernel
theorem dL_law_314 : decode cL_law 314 = .ok (.iconst 1, 1) := by decide +kernel
theorem dL_law_315 : decode cL_law 315 = .ok (.iadd, 1) := by decide +kernel
theorem dL_law_316 : decode cL_law 316 = .ok (.iaload, 1) := by decide +kernel
theorem dL_law_317 : decode cL_law 317 = .ok (.aload_n 0, 1) := by decide +kernel
theorem dL_law_318 : decode cL_law 318 = .ok (.iload_n 3, 1) := by decide +kernel
theorem dL_law_319 : decode cL_law 319 = .ok (.iconst 2, 1) := by decide +kernel
theorem dL_law_320 : decode cL_law 320 = .ok (.iadd, 1) := by decide +kernel
theorem dL_law_321 : decode cL_law 321 = .ok (.iaload, 1) := by decide +kernel
theorem dL_law_322 : decode cL_law 322 = .ok (.aload_n 0, 1) := by decide +kernel
theorem dL_law_323 : decode cL_law 323 = .ok (.iload_n 3, 1) := by decide +kernel
theorem dL_law_324 : decode cL_law 324 = .ok (.iconst 3, 1) := by decide +kernel
theorem dL_law_325 : decode cL_law 325 = .ok (.iadd, 1) := by decide +kernel
theorem dL_law_326 : decode cL_law 326 = .ok (.iaload, 1) := by decide +kernel
theorem dL_law_327 : decode cL_law 327 = .ok (.aload_n 0, 1) := by decide +kernel
theorem dL_law_328 : decode cL_law 328 = .ok (.iload_n 3, 1) := by decide +kernel
theorem dL_law_329 : decode cL_law 329 = .ok (.iconst 4, 1) := by decide +kernel
theorem dL_law_330 : decode cL_law 330 = .ok (.iadd, 1) := by decide +kernel
theorem dL_law_331 : decode cL_law 331 = .ok (.iaload, 1) := by decide +kernel
theorem dL_law_332 : decode cL_law 332 = .ok (.invokevirtual 37, 3) := by decide +kernel
theorem dL_law_335 : decode cL_law 335 = .ok (.aload_n 2, 1) := by decide +kernel
theorem dL_law_336 : decode cL_law 336 = .ok (.aload_n 0, 1) := by decide +kernel
theorem dL_law_337 : decode cL_law 337 = .ok (.iload_n 3, 1) := by decide +kernel
theorem dL_law_338 : decode cL_law 338 = .ok (.iconst 1, 1) := by decide +kernel
theorem dL_law_339 : decode cL_law 339 = .ok (.iadd, 1) := by decide +kernel
theorem dL_law_340 : decode cL_law 340 = .ok (.iaload, 1) := by decide +kernel
theorem dL_law_341 : decode cL_law 341 = .ok (.aload_n 0, 1) := by decide +kernel
theorem dL_law_342 : decode cL_law 342 = .ok (.iload_n 3, 1) := by decide +kernel
theorem dL_law_343 : decode cL_law 343 = .ok (.iconst 2, 1) := by decide +kernel
theorem dL_law_344 : decode cL_law 344 = .ok (.iadd, 1) := by decide +kernel
theorem dL_law_345 : decode cL_law 345 = .ok (.iaload, 1) := by decide +kernel
theorem dL_law_346 : decode cL_law 346 = .ok (.aload_n 0, 1) := by decide +kernel
theorem dL_law_347 : decode cL_law 347 = .ok (.iload_n 3, 1) := by decide +kernel
theorem dL_law_348 : decode cL_law 348 = .ok (.iconst 3, 1) := by decide +kernel
theorem dL_law_349 : decode cL_law 349 = .ok (.iadd, 1) := by decide +kernel
theorem dL_law_350 : decode cL_law 350 = .ok (.iaload, 1) := by decide +kernel
theorem dL_law_351 : decode cL_law 351 = .ok (.aload_n 0, 1) := by decide +kernel
theorem dL_law_352 : decode cL_law 352 = .ok (.iload_n 3, 1) := by decide +kernel
theorem dL_law_353 : decode cL_law 353 = .ok (.iconst 4, 1) := by decide +kernel
theorem dL_law_354 : decode cL_law 354 = .ok (.iadd, 1) := by decide +kernel
theorem dL_law_355 : decode cL_law 355 = .ok (.iaload, 1) := by decide +kernel
theorem dL_law_356 : decode cL_law 356 = .ok (.invokevirtual 40, 3) := by decide +kernel
theorem dL_law_359 : decode cL_law 359 = .ok (.if_icmp .eq 388, 3) := by decide +kernel
theorem dL_law_362 : decode cL_law 362 = .ok (.iconst 0, 1) := by decide +kernel
theorem dL_law_363 : decode cL_law 363 = .ok (.ireturn, 1) := by decide +kernel
theorem dL_law_364 : decode cL_law 364 = .ok (.aload_n 1, 1) := by decide +kernel
theorem dL_law_365 : decode cL_law 365 = .ok (.aload_n 0, 1) := by decide +kernel
theorem dL_law_366 : decode cL_law 366 = .ok (.iload_n 3, 1) := by decide +kernel
theorem dL_law_367 : decode cL_law 367 = .ok (.iconst 1, 1) := by decide +kernel
theorem dL_law_368 : decode cL_law 368 = .ok (.iadd, 1) := by decide +kernel
theorem dL_law_369 : decode cL_law 369 = .ok (.iaload, 1) := by decide +kernel
theorem dL_law_370 : decode cL_law 370 = .ok (.aload_n 0, 1) := by decide +kernel
theorem dL_law_371 : decode cL_law 371 = .ok (.iload_n 3, 1) := by decide +kernel
theorem dL_law_372 : decode cL_law 372 = .ok (.iconst 2, 1) := by decide +kernel
theorem dL_law_373 : decode cL_law 373 = .ok (.iadd, 1) := by decide +kernel
theorem dL_law_374 : decode cL_law 374 = .ok (.iaload, 1) := by decide +kernel
theorem dL_law_375 : decode cL_law 375 = .ok (.aload_n 0, 1) := by decide +kernel
theorem dL_law_376 : decode cL_law 376 = .ok (.iload_n 3, 1) := by decide +kernel
theorem dL_law_377 : decode cL_law 377 = .ok (.iconst 3, 1) := by decide +kernel
theorem dL_law_378 : decode cL_law 378 = .ok (.iadd, 1) := by decide +kernel
theorem dL_law_379 : decode cL_law 379 = .ok (.iaload, 1) := by decide +kernel
theorem dL_law_380 : decode cL_law 380 = .ok (.invokevirtual 41, 3) := by decide +kernel
theorem dL_law_383 : decode cL_law 383 = .ok (.aload_n 2, 1) := by decide +kernel
theorem dL_law_384 : decode cL_law 384 = .ok (.aload_n 0, 1) := by decide +kernel
theorem dL_law_385 : decode cL_law 385 = .ok (.iload_n 3, 1) := by decide +kernel
theorem dL_law_386 : decode cL_law 386 = .ok (.iconst 1, 1) := by decide +kernel
theorem dL_law_387 : decode cL_law 387 = .ok (.iadd, 1) := by decide +kernel
theorem dL_law_388 : decode cL_law 388 = .ok (.iaload, 1) := by decide +kernel
theorem dL_law_389 : decode cL_law 389 = .ok (.aload_n 0, 1) := by decide +kernel
theorem dL_law_390 : decode cL_law 390 = .ok (.iload_n 3, 1) := by decide +kernel
theorem dL_law_391 : decode cL_law 391 = .ok (.iconst 2, 1) := by decide +kernel
theorem dL_law_392 : decode cL_law 392 = .ok (.iadd, 1) := by decide +kernel
theorem dL_law_393 : decode cL_law 393 = .ok (.iaload, 1) := by decide +kernel
theorem dL_law_394 : decode cL_law 394 = .ok (.aload_n 0, 1) := by decide +kernel
theorem dL_law_395 : decode cL_law 395 = .ok (.iload_n 3, 1) := by decide +kernel
theorem dL_law_396 : decode cL_law 396 = .ok (.iconst 3, 1) := by decide +kernel
theorem dL_law_397 : decode cL_law 397 = .ok (.iadd, 1) := by decide +kernel
theorem dL_law_398 : decode cL_law 398 = .ok (.iaload, 1) := by decide +kernel
theorem dL_law_399 : decode cL_law 399 = .ok (.invokevirtual 44, 3) := by decide +kernel
theorem dL_law_402 : decode cL_law 402 = .ok (.if_icmp .eq 345, 3) := by decide +kernel
theorem dL_law_405 : decode cL_law 405 = .ok (.iconst 0, 1) := by decide +kernel
theorem dL_law_406 : decode cL_law 406 = .ok (.ireturn, 1) := by decide +kernel
theorem dL_law_407 : decode cL_law 407 = .ok (.aload_n 1, 1) := by decide +kernel
theorem dL_law_408 : decode cL_law 408 = .ok (.aload_n 0, 1) := by decide +kernel
theorem dL_law_409 : decode cL_law 409 = .ok (.iload_n 3, 1) := by decide +kernel
theorem dL_law_410 : decode cL_law 410 = .ok (.iconst 1, 1) := by decide +kernel
theorem dL_law_411 : decode cL_law 411 = .ok (.iadd, 1) := by decide +kernel
theorem dL_law_412 : decode cL_law 412 = .ok (.iaload, 1) := by decide +kernel
theorem dL_law_413 : decode cL_law 413 = .ok (.aload_n 0, 1) := by decide +kernel
theorem dL_law_414 : decode cL_law 414 = .ok (.iload_n 3, 1) := by decide +kernel
theorem dL_law_415 : decode cL_law 415 = .ok (.iconst 2, 1) := by decide +kernel
theorem dL_law_416 : decode cL_law 416 = .ok (.iadd, 1) := by decide +kernel
theorem dL_law_417 : decode cL_law 417 = .ok (.iaload, 1) := by decide +kernel
theorem dL_law_418 : decode cL_law 418 = .ok (.invokevirtual 45, 3) := by decide +kernel
theorem dL_law_421 : decode cL_law 421 = .ok (.aload_n 2, 1) := by decide +kernel
theorem dL_law_422 : decode cL_law 422 = .ok (.aload_n 0, 1) := by decide +kernel
theorem dL_law_423 : decode cL_law 423 = .ok (.iload_n 3, 1) := by decide +kernel
theorem dL_law_424 : decode cL_law 424 = .ok (.iconst 1, 1) := by decide +kernel
theorem dL_law_425 : decode cL_law 425 = .ok (.iadd, 1) := by decide +kernel
theorem dL_law_426 : decode cL_law 426 = .ok (.iaload, 1) := by decide +kernel
theorem dL_law_427 : decode cL_law 427 = .ok (.aload_n 0, 1) := by decide +kernel
theorem dL_law_428 : decode cL_law 428 = .ok (.iload_n 3, 1) := by decide +kernel
theorem dL_law_429 : decode cL_law 429 = .ok (.iconst 2, 1) := by decide +kernel
theorem dL_law_430 : decode cL_law 430 = .ok (.iadd, 1) := by decide +kernel
theorem dL_law_431 : decode cL_law 431 = .ok (.iaload, 1) := by decide +kernel
theorem dL_law_432 : decode cL_law 432 = .ok (.invokevirtual 48, 3) := by decide +kernel
theorem dL_law_435 : decode cL_law 435 = .ok (.if_icmp .eq 312, 3) := by decide +kernel
theorem dL_law_438 : decode cL_law 438 = .ok (.iconst 0, 1) := by decide +kernel
theorem dL_law_439 : decode cL_law 439 = .ok (.ireturn, 1) := by decide +kernel
theorem dL_law_440 : decode cL_law 440 = .ok (.aload_n 1, 1) := by decide +kernel
theorem dL_law_441 : decode cL_law 441 = .ok (.aload_n 0, 1) := by decide +kernel
theorem dL_law_442 : decode cL_law 442 = .ok (.iload_n 3, 1) := by decide +kernel
theorem dL_law_443 : decode cL_law 443 = .ok (.iconst 1, 1) := by decide +kernel
theorem dL_law_444 : decode cL_law 444 = .ok (.iadd, 1) := by decide +kernel
theorem dL_law_445 : decode cL_law 445 = .ok (.iaload, 1) := by decide +kernel
theorem dL_law_446 : decode cL_law 446 = .ok (.aload_n 0, 1) := by decide +kernel
theorem dL_law_447 : decode cL_law 447 = .ok (.iload_n 3, 1) := by decide +kernel
theorem dL_law_448 : decode cL_law 448 = .ok (.iconst 2, 1) := by decide +kernel
theorem dL_law_449 : decode cL_law 449 = .ok (.iadd, 1) := by decide +kernel
theorem dL_law_450 : decode cL_law 450 = .ok (.iaload, 1) := by decide +kernel
theorem dL_law_451 : decode cL_law 451 = .ok (.aload_n 0, 1) := by decide +kernel
theorem dL_law_452 : decode cL_law 452 = .ok (.iload_n 3, 1) := by decide +kernel
theorem dL_law_453 : decode cL_law 453 = .ok (.iconst 3, 1) := by decide +kernel
theorem dL_law_454 : decode cL_law 454 = .ok (.iadd, 1) := by decide +kernel
theorem dL_law_455 : decode cL_law 455 = .ok (.iaload, 1) := by decide +kernel
theorem dL_law_456 : decode cL_law 456 = .ok (.aload_n 0, 1) := by decide +kernel
theorem dL_law_457 : decode cL_law 457 = .ok (.iload_n 3, 1) := by decide +kernel
theorem dL_law_458 : decode cL_law 458 = .ok (.iconst 4, 1) := by decide +kernel
theorem dL_law_459 : decode cL_law 459 = .ok (.iadd, 1) := by decide +kernel
theorem dL_law_460 : decode cL_law 460 = .ok (.iaload, 1) := by decide +kernel
theorem dL_law_461 : decode cL_law 461 = .ok (.invokevirtual 49, 3) := by decide +kernel
theorem dL_law_464 : decode cL_law 464 = .ok (.aload_n 2, 1) := by decide +kernel
theorem dL_law_465 : decode cL_law 465 = .ok (.aload_n 0, 1) := by decide +kernel
theorem dL_law_466 : decode cL_law 466 = .ok (.iload_n 3, 1) := by decide +kernel
theorem dL_law_467 : decode cL_law 467 = .ok (.iconst 1, 1) := by decide +kernel
theorem dL_law_468 : decode cL_law 468 = .ok (.iadd, 1) := by decide +kernel
theorem dL_law_469 : decode cL_law 469 = .ok (.iaload, 1) := by decide +kernel
theorem dL_law_470 : decode cL_law 470 = .ok (.aload_n 0, 1) := by decide +kernel
theorem dL_law_471 : decode cL_law 471 = .ok (.iload_n 3, 1) := by decide +kernel
theorem dL_law_472 : decode cL_law 472 = .ok (.iconst 2, 1) := by decide +kernel
theorem dL_law_473 : decode cL_law 473 = .ok (.iadd, 1) := by decide +kernel
theorem dL_law_474 : decode cL_law 474 = .ok (.iaload, 1) := by decide +kernel
theorem dL_law_475 : decode cL_law 475 = .ok (.aload_n 0, 1) := by decide +kernel
theorem dL_law_476 : decode cL_law 476 = .ok (.iload_n 3, 1) := by decide +kernel
theorem dL_law_477 : decode cL_law 477 = .ok (.iconst 3, 1) := by decide +kernel
theorem dL_law_478 : decode cL_law 478 = .ok (.iadd, 1) := by decide +kernel
theorem dL_law_479 : decode cL_law 479 = .ok (.iaload, 1) := by decide +kernel
theorem dL_law_480 : decode cL_law 480 = .ok (.aload_n 0, 1) := by decide +kernel
theorem dL_law_481 : decode cL_law 481 = .ok (.iload_n 3, 1) := by decide +kernel
theorem dL_law_482 : decode cL_law 482 = .ok (.iconst 4, 1) := by decide +kernel
theorem dL_law_483 : decode cL_law 483 = .ok (.iadd, 1) := by decide +kernel
theorem dL_law_484 : decode cL_law 484 = .ok (.iaload, 1) := by decide +kernel
theorem dL_law_485 : decode cL_law 485 = .ok (.invokevirtual 52, 3) := by decide +kernel
theorem dL_law_488 : decode cL_law 488 = .ok (.if_icmp .eq 259, 3) := by decide +kernel
theorem dL_law_491 : decode cL_law 491 = .ok (.iconst 0, 1) := by decide +kernel
theorem dL_law_492 : decode cL_law 492 = .ok (.ireturn, 1) := by decide +kernel
theorem dL_law_493 : decode cL_law 493 = .ok (.aload_n 1, 1) := by decide +kernel
theorem dL_law_494 : decode cL_law 494 = .ok (.aload_n 0, 1) := by decide +kernel
theorem dL_law_495 : decode cL_law 495 = .ok (.iload_n 3, 1) := by decide +kernel
theorem dL_law_496 : decode cL_law 496 = .ok (.iconst 1, 1) := by decide +kernel
theorem dL_law_497 : decode cL_law 497 = .ok (.iadd, 1) := by decide +kernel
theorem dL_law_498 : decode cL_law 498 = .ok (.iaload, 1) := by decide +kernel
theorem dL_law_499 : decode cL_law 499 = .ok (.aload_n 0, 1) := by decide +kernel
theorem dL_law_500 : decode cL_law 500 = .ok (.iload_n 3, 1) := by decide +kernel
theorem dL_law_501 : decode cL_law 501 = .ok (.iconst 2, 1) := by decide +kernel
theorem dL_law_502 : decode cL_law 502 = .ok (.iadd, 1) := by decide +kernel
theorem dL_law_503 : decode cL_law 503 = .ok (.iaload, 1) := by decide +kernel
theorem dL_law_504 : decode cL_law 504 = .ok (.aload_n 0, 1) := by decide +kernel
theorem dL_law_505 : decode cL_law 505 = .ok (.iload_n 3, 1) := by decide +kernel
theorem dL_law_506 : decode cL_law 506 = .ok (.iconst 3, 1) := by decide +kernel
theorem dL_law_507 : decode cL_law 507 = .ok (.iadd, 1) := by decide +kernel
theorem dL_law_508 : decode cL_law 508 = .ok (.iaload, 1) := by decide +kernel
theorem dL_law_509 : decode cL_law 509 = .ok (.aload_n 0, 1) := by decide +kernel
theorem dL_law_510 : decode cL_law 510 = .ok (.iload_n 3, 1) := by decide +kernel
theorem dL_law_511 : decode cL_law 511 = .ok (.iconst 4, 1) := by decide +kernel
theorem dL_law_512 : decode cL_law 512 = .ok (.iadd, 1) := by decide +kernel
theorem dL_law_513 : decode cL_law 513 = .ok (.iaload, 1) := by decide +kernel
theorem dL_law_514 : decode cL_law 514 = .ok (.invokevirtual 53, 3) := by decide +kernel
theorem dL_law_517 : decode cL_law 517 = .ok (.aload_n 2, 1) := by decide +kernel
theorem dL_law_518 : decode cL_law 518 = .ok (.aload_n 0, 1) := by decide +kernel
theorem dL_law_519 : decode cL_law 519 = .ok (.iload_n 3, 1) := by decide +kernel
theorem dL_law_520 : decode cL_law 520 = .ok (.iconst 1, 1) := by decide +kernel
theorem dL_law_521 : decode cL_law 521 = .ok (.iadd, 1) := by decide +kernel
theorem dL_law_522 : decode cL_law 522 = .ok (.iaload, 1) := by decide +kernel
theorem dL_law_523 : decode cL_law 523 = .ok (.aload_n 0, 1) := by decide +kernel
theorem dL_law_524 : decode cL_law 524 = .ok (.iload_n 3, 1) := by decide +kernel
theorem dL_law_525 : decode cL_law 525 = .ok (.iconst 2, 1) := by decide +kernel
theorem dL_law_526 : decode cL_law 526 = .ok (.iadd, 1) := by decide +kernel
theorem dL_law_527 : decode cL_law 527 = .ok (.iaload, 1) := by decide +kernel
theorem dL_law_528 : decode cL_law 528 = .ok (.aload_n 0, 1) := by decide +kernel
theorem dL_law_529 : decode cL_law 529 = .ok (.iload_n 3, 1) := by decide +kernel
theorem dL_law_530 : decode cL_law 530 = .ok (.iconst 3, 1) := by decide +kernel
theorem dL_law_531 : decode cL_law 531 = .ok (.iadd, 1) := by decide +kernel
theorem dL_law_532 : decode cL_law 532 = .ok (.iaload, 1) := by decide +kernel
theorem dL_law_533 : decode cL_law 533 = .ok (.aload_n 0, 1) := by decide +kernel
theorem dL_law_534 : decode cL_law 534 = .ok (.iload_n 3, 1) := by decide +kernel
theorem dL_law_535 : decode cL_law 535 = .ok (.iconst 4, 1) := by decide +kernel
theorem dL_law_536 : decode cL_law 536 = .ok (.iadd, 1) := by decide +kernel
theorem dL_law_537 : decode cL_law 537 = .ok (.iaload, 1) := by decide +kernel
theorem dL_law_538 : decode cL_law 538 = .ok (.invokevirtual 56, 3) := by decide +kernel
theorem dL_law_541 : decode cL_law 541 = .ok (.if_icmp .eq 206, 3) := by decide +kernel
theorem dL_law_544 : decode cL_law 544 = .ok (.iconst 0, 1) := by decide +kernel
theorem dL_law_545 : decode cL_law 545 = .ok (.ireturn, 1) := by decide +kernel
theorem dL_law_546 : decode cL_law 546 = .ok (.aload_n 1, 1) := by decide +kernel
theorem dL_law_547 : decode cL_law 547 = .ok (.aload_n 0, 1) := by decide +kernel
theorem dL_law_548 : decode cL_law 548 = .ok (.iload_n 3, 1) := by decide +kernel
theorem dL_law_549 : decode cL_law 549 = .ok (.iconst 1, 1) := by decide +kernel
theorem dL_law_550 : decode cL_law 550 = .ok (.iadd, 1) := by decide +kernel
theorem dL_law_551 : decode cL_law 551 = .ok (.iaload, 1) := by decide +kernel
theorem dL_law_552 : decode cL_law 552 = .ok (.aload_n 0, 1) := by decide +kernel
theorem dL_law_553 : decode cL_law 553 = .ok (.iload_n 3, 1) := by decide +kernel
theorem dL_law_554 : decode cL_law 554 = .ok (.iconst 2, 1) := by decide +kernel
theorem dL_law_555 : decode cL_law 555 = .ok (.iadd, 1) := by decide +kernel
theorem dL_law_556 : decode cL_law 556 = .ok (.iaload, 1) := by decide +kernel
theorem dL_law_557 : decode cL_law 557 = .ok (.aload_n 0, 1) := by decide +kernel
theorem dL_law_558 : decode cL_law 558 = .ok (.iload_n 3, 1) := by decide +kernel
theorem dL_law_559 : decode cL_law 559 = .ok (.iconst 3, 1) := by decide +kernel
theorem dL_law_560 : decode cL_law 560 = .ok (.iadd, 1) := by decide +kernel
theorem dL_law_561 : decode cL_law 561 = .ok (.iaload, 1) := by decide +kernel
theorem dL_law_562 : decode cL_law 562 = .ok (.invokevirtual 57, 3) := by decide +kernel
theorem dL_law_565 : decode cL_law 565 = .ok (.aload_n 2, 1) := by decide +kernel
theorem dL_law_566 : decode cL_law 566 = .ok (.aload_n 0, 1) := by decide +kernel
theorem dL_law_567 : decode cL_law 567 = .ok (.iload_n 3, 1) := by decide +kernel
theorem dL_law_568 : decode cL_law 568 = .ok (.iconst 1, 1) := by decide +kernel
theorem dL_law_569 : decode cL_law 569 = .ok (.iadd, 1) := by decide +kernel
theorem dL_law_570 : decode cL_law 570 = .ok (.iaload, 1) := by decide +kernel
theorem dL_law_571 : decode cL_law 571 = .ok (.aload_n 0, 1) := by decide +kernel
theorem dL_law_572 : decode cL_law 572 = .ok (.iload_n 3, 1) := by decide +kernel
theorem dL_law_573 : decode cL_law 573 = .ok (.iconst 2, 1) := by decide +kernel
theorem dL_law_574 : decode cL_law 574 = .ok (.iadd, 1) := by decide +kernel
theorem dL_law_575 : decode cL_law 575 = .ok (.iaload, 1) := by decide +kernel
theorem dL_law_576 : decode cL_law 576 = .ok (.aload_n 0, 1) := by decide +kernel
theorem dL_law_577 : decode cL_law 577 = .ok (.iload_n 3, 1) := by decide +kernel
theorem dL_law_578 : decode cL_law 578 = .ok (.iconst 3, 1) := by decide +kernel
theorem dL_law_579 : decode cL_law 579 = .ok (.iadd, 1) := by decide +kernel
theorem dL_law_580 : decode cL_law 580 = .ok (.iaload, 1) := by decide +kernel
theorem dL_law_581 : decode cL_law 581 = .ok (.invokevirtual 60, 3) := by decide +kernel
theorem dL_law_584 : decode cL_law 584 = .ok (.if_icmp .eq 163, 3) := by decide +kernel
theorem dL_law_587 : decode cL_law 587 = .ok (.iconst 0, 1) := by decide +kernel
theorem dL_law_588 : decode cL_law 588 = .ok (.ireturn, 1) := by decide +kernel
theorem dL_law_589 : decode cL_law 589 = .ok (.aload_n 1, 1) := by decide +kernel
theorem dL_law_590 : decode cL_law 590 = .ok (.aload_n 0, 1) := by decide +kernel
theorem dL_law_591 : decode cL_law 591 = .ok (.iload_n 3, 1) := by decide +kernel
theorem dL_law_592 : decode cL_law 592 = .ok (.iconst 1, 1) := by decide +kernel
theorem dL_law_593 : decode cL_law 593 = .ok (.iadd, 1) := by decide +kernel
theorem dL_law_594 : decode cL_law 594 = .ok (.iaload, 1) := by decide +kernel
theorem dL_law_595 : decode cL_law 595 = .ok (.invokevirtual 61, 3) := by decide +kernel
theorem dL_law_598 : decode cL_law 598 = .ok (.aload_n 2, 1) := by decide +kernel
theorem dL_law_599 : decode cL_law 599 = .ok (.aload_n 0, 1) := by decide +kernel
theorem dL_law_600 : decode cL_law 600 = .ok (.iload_n 3, 1) := by decide +kernel
theorem dL_law_601 : decode cL_law 601 = .ok (.iconst 1, 1) := by decide +kernel
theorem dL_law_602 : decode cL_law 602 = .ok (.iadd, 1) := by decide +kernel
theorem dL_law_603 : decode cL_law 603 = .ok (.iaload, 1) := by decide +kernel
theorem dL_law_604 : decode cL_law 604 = .ok (.invokevirtual 64, 3) := by decide +kernel
theorem dL_law_607 : decode cL_law 607 = .ok (.if_icmp .eq 140, 3) := by decide +kernel
theorem dL_law_610 : decode cL_law 610 = .ok (.iconst 0, 1) := by decide +kernel
theorem dL_law_611 : decode cL_law 611 = .ok (.ireturn, 1) := by decide +kernel
theorem dL_law_612 : decode cL_law 612 = .ok (.aload_n 1, 1) := by decide +kernel
theorem dL_law_613 : decode cL_law 613 = .ok (.aload_n 0, 1) := by decide +kernel
theorem dL_law_614 : decode cL_law 614 = .ok (.iload_n 3, 1) := by decide +kernel
theorem dL_law_615 : decode cL_law 615 = .ok (.iconst 1, 1) := by decide +kernel
theorem dL_law_616 : decode cL_law 616 = .ok (.iadd, 1) := by decide +kernel
theorem dL_law_617 : decode cL_law 617 = .ok (.iaload, 1) := by decide +kernel
theorem dL_law_618 : decode cL_law 618 = .ok (.invokevirtual 65, 3) := by decide +kernel
theorem dL_law_621 : decode cL_law 621 = .ok (.aload_n 2, 1) := by decide +kernel
theorem dL_law_622 : decode cL_law 622 = .ok (.aload_n 0, 1) := by decide +kernel
theorem dL_law_623 : decode cL_law 623 = .ok (.iload_n 3, 1) := by decide +kernel
theorem dL_law_624 : decode cL_law 624 = .ok (.iconst 1, 1) := by decide +kernel
theorem dL_law_625 : decode cL_law 625 = .ok (.iadd, 1) := by decide +kernel
theorem dL_law_626 : decode cL_law 626 = .ok (.iaload, 1) := by decide +kernel
theorem dL_law_627 : decode cL_law 627 = .ok (.invokevirtual 68, 3) := by decide +kernel
theorem dL_law_630 : decode cL_law 630 = .ok (.if_icmp .eq 117, 3) := by decide +kernel
theorem dL_law_633 : decode cL_law 633 = .ok (.iconst 0, 1) := by decide +kernel
theorem dL_law_634 : decode cL_law 634 = .ok (.ireturn, 1) := by decide +kernel
theorem dL_law_635 : decode cL_law 635 = .ok (.aload_n 1, 1) := by decide +kernel
theorem dL_law_636 : decode cL_law 636 = .ok (.aload_n 0, 1) := by decide +kernel
theorem dL_law_637 : decode cL_law 637 = .ok (.iload_n 3, 1) := by decide +kernel
theorem dL_law_638 : decode cL_law 638 = .ok (.iconst 1, 1) := by decide +kernel
theorem dL_law_639 : decode cL_law 639 = .ok (.iadd, 1) := by decide +kernel
theorem dL_law_640 : decode cL_law 640 = .ok (.iaload, 1) := by decide +kernel
theorem dL_law_641 : decode cL_law 641 = .ok (.aload_n 0, 1) := by decide +kernel
theorem dL_law_642 : decode cL_law 642 = .ok (.iload_n 3, 1) := by decide +kernel
theorem dL_law_643 : decode cL_law 643 = .ok (.iconst 2, 1) := by decide +kernel
theorem dL_law_644 : decode cL_law 644 = .ok (.iadd, 1) := by decide +kernel
theorem dL_law_645 : decode cL_law 645 = .ok (.iaload, 1) := by decide +kernel
theorem dL_law_646 : decode cL_law 646 = .ok (.invokevirtual 69, 3) := by decide +kernel
theorem dL_law_649 : decode cL_law 649 = .ok (.aload_n 2, 1) := by decide +kernel
theorem dL_law_650 : decode cL_law 650 = .ok (.aload_n 0, 1) := by decide +kernel
theorem dL_law_651 : decode cL_law 651 = .ok (.iload_n 3, 1) := by decide +kernel
theorem dL_law_652 : decode cL_law 652 = .ok (.iconst 1, 1) := by decide +kernel
theorem dL_law_653 : decode cL_law 653 = .ok (.iadd, 1) := by decide +kernel
theorem dL_law_654 : decode cL_law 654 = .ok (.iaload, 1) := by decide +kernel
theorem dL_law_655 : decode cL_law 655 = .ok (.aload_n 0, 1) := by decide +kernel
theorem dL_law_656 : decode cL_law 656 = .ok (.iload_n 3, 1) := by decide +kernel
theorem dL_law_657 : decode cL_law 657 = .ok (.iconst 2, 1) := by decide +kernel
theorem dL_law_658 : decode cL_law 658 = .ok (.iadd, 1) := by decide +kernel
theorem dL_law_659 : decode cL_law 659 = .ok (.iaload, 1) := by decide +kernel
theorem dL_law_660 : decode cL_law 660 = .ok (.invokevirtual 72, 3) := by decide +kernel
theorem dL_law_663 : decode cL_law 663 = .ok (.if_icmp .eq 84, 3) := by decide +kernel
theorem dL_law_666 : decode cL_law 666 = .ok (.iconst 0, 1) := by decide +kernel
theorem dL_law_667 : decode cL_law 667 = .ok (.ireturn, 1) := by decide +kernel
theorem dL_law_668 : decode cL_law 668 = .ok (.aload_n 1, 1) := by decide +kernel
theorem dL_law_669 : decode cL_law 669 = .ok (.aload_n 0, 1) := by decide +kernel
theorem dL_law_670 : decode cL_law 670 = .ok (.iload_n 3, 1) := by decide +kernel
theorem dL_law_671 : decode cL_law 671 = .ok (.iconst 1, 1) := by decide +kernel
theorem dL_law_672 : decode cL_law 672 = .ok (.iadd, 1) := by decide +kernel
theorem dL_law_673 : decode cL_law 673 = .ok (.iaload, 1) := by decide +kernel
theorem dL_law_674 : decode cL_law 674 = .ok (.invokevirtual 73, 3) := by decide +kernel
theorem dL_law_677 : decode cL_law 677 = .ok (.aload_n 2, 1) := by decide +kernel
theorem dL_law_678 : decode cL_law 678 = .ok (.aload_n 0, 1) := by decide +kernel
theorem dL_law_679 : decode cL_law 679 = .ok (.iload_n 3, 1) := by decide +kernel
theorem dL_law_680 : decode cL_law 680 = .ok (.iconst 1, 1) := by decide +kernel
theorem dL_law_681 : decode cL_law 681 = .ok (.iadd, 1) := by decide +kernel
theorem dL_law_682 : decode cL_law 682 = .ok (.iaload, 1) := by decide +kernel
theorem dL_law_683 : decode cL_law 683 = .ok (.invokevirtual 76, 3) := by decide +kernel
theorem dL_law_686 : decode cL_law 686 = .ok (.if_icmp .eq 61, 3) := by decide +kernel
theorem dL_law_689 : decode cL_law 689 = .ok (.iconst 0, 1) := by decide +kernel
theorem dL_law_690 : decode cL_law 690 = .ok (.ireturn, 1) := by decide +kernel
theorem dL_law_691 : decode cL_law 691 = .ok (.aload_n 1, 1) := by decide +kernel
theorem dL_law_692 : decode cL_law 692 = .ok (.aload_n 0, 1) := by decide +kernel
theorem dL_law_693 : decode cL_law 693 = .ok (.iload_n 3, 1) := by decide +kernel
theorem dL_law_694 : decode cL_law 694 = .ok (.iconst 1, 1) := by decide +kernel
theorem dL_law_695 : decode cL_law 695 = .ok (.iadd, 1) := by decide +kernel
theorem dL_law_696 : decode cL_law 696 = .ok (.iaload, 1) := by decide +kernel
theorem dL_law_697 : decode cL_law 697 = .ok (.aload_n 0, 1) := by decide +kernel
theorem dL_law_698 : decode cL_law 698 = .ok (.iload_n 3, 1) := by decide +kernel
theorem dL_law_699 : decode cL_law 699 = .ok (.iconst 2, 1) := by decide +kernel
theorem dL_law_700 : decode cL_law 700 = .ok (.iadd, 1) := by decide +kernel
theorem dL_law_701 : decode cL_law 701 = .ok (.iaload, 1) := by decide +kernel
theorem dL_law_702 : decode cL_law 702 = .ok (.invokevirtual 77, 3) := by decide +kernel
theorem dL_law_705 : decode cL_law 705 = .ok (.aload_n 2, 1) := by decide +kernel
theorem dL_law_706 : decode cL_law 706 = .ok (.aload_n 0, 1) := by decide +kernel
theorem dL_law_707 : decode cL_law 707 = .ok (.iload_n 3, 1) := by decide +kernel
theorem dL_law_708 : decode cL_law 708 = .ok (.iconst 1, 1) := by decide +kernel
theorem dL_law_709 : decode cL_law 709 = .ok (.iadd, 1) := by decide +kernel
theorem dL_law_710 : decode cL_law 710 = .ok (.iaload, 1) := by decide +kernel
theorem dL_law_711 : decode cL_law 711 = .ok (.aload_n 0, 1) := by decide +kernel
theorem dL_law_712 : decode cL_law 712 = .ok (.iload_n 3, 1) := by decide +kernel
theorem dL_law_713 : decode cL_law 713 = .ok (.iconst 2, 1) := by decide +kernel
theorem dL_law_714 : decode cL_law 714 = .ok (.iadd, 1) := by decide +kernel
theorem dL_law_715 : decode cL_law 715 = .ok (.iaload, 1) := by decide +kernel
theorem dL_law_716 : decode cL_law 716 = .ok (.invokevirtual 80, 3) := by decide +kernel
theorem dL_law_719 : decode cL_law 719 = .ok (.if_icmp .eq 28, 3) := by decide +kernel
theorem dL_law_722 : decode cL_law 722 = .ok (.iconst 0, 1) := by decide +kernel
theorem dL_law_723 : decode cL_law 723 = .ok (.ireturn, 1) := by decide +kernel
theorem dL_law_724 : decode cL_law 724 = .ok (.aload_n 1, 1) := by decide +kernel
theorem dL_law_725 : decode cL_law 725 = .ok (.aload_n 0, 1) := by decide +kernel
theorem dL_law_726 : decode cL_law 726 = .ok (.iload_n 3, 1) := by decide +kernel
theorem dL_law_727 : decode cL_law 727 = .ok (.iconst 1, 1) := by decide +kernel
theorem dL_law_728 : decode cL_law 728 = .ok (.iadd, 1) := by decide +kernel
theorem dL_law_729 : decode cL_law 729 = .ok (.iaload, 1) := by decide +kernel
theorem dL_law_730 : decode cL_law 730 = .ok (.invokevirtual 81, 3) := by decide +kernel
theorem dL_law_733 : decode cL_law 733 = .ok (.aload_n 2, 1) := by decide +kernel
theorem dL_law_734 : decode cL_law 734 = .ok (.aload_n 0, 1) := by decide +kernel
theorem dL_law_735 : decode cL_law 735 = .ok (.iload_n 3, 1) := by decide +kernel
theorem dL_law_736 : decode cL_law 736 = .ok (.iconst 1, 1) := by decide +kernel
theorem dL_law_737 : decode cL_law 737 = .ok (.iadd, 1) := by decide +kernel
theorem dL_law_738 : decode cL_law 738 = .ok (.iaload, 1) := by decide +kernel
theorem dL_law_739 : decode cL_law 739 = .ok (.invokevirtual 84, 3) := by decide +kernel
theorem dL_law_742 : decode cL_law 742 = .ok (.if_icmp .eq 5, 3) := by decide +kernel
theorem dL_law_745 : decode cL_law 745 = .ok (.iconst 0, 1) := by decide +kernel
theorem dL_law_746 : decode cL_law 746 = .ok (.ireturn, 1) := by decide +kernel
theorem dL_law_747 : decode cL_law 747 = .ok (.iinc 3 5, 3) := by decide +kernel
theorem dL_law_750 : decode cL_law 750 = .ok (.goto (-732), 3) := by decide +kernel
theorem dL_law_753 : decode cL_law 753 = .ok (.iconst 1, 1) := by decide +kernel
theorem dL_law_754 : decode cL_law 754 = .ok (.ireturn, 1) := by decide +kernel
end
section
def xW : List Cond := lw_tbl.filter goodWord
theorem wZ_L : Cond.initialized "TermSpreadLaw" ∈ xW := List.mem_filter.mpr ⟨List.mem_append_right _ (List.mem_of_getElem? (i := 0) rfl), rfl⟩
theorem wZ_X1 : Cond.initialized "TermSpread" ∈ xW := List.mem_filter.mpr ⟨List.mem_append_right _ (List.mem_of_getElem? (i := 1) rfl), rfl⟩
theorem wZ_X2 : Cond.initialized "TermSpreadModel" ∈ xW := List.mem_filter.mpr ⟨List.mem_append_right _ (List.mem_of_getElem? (i := 2) rfl), rfl⟩
theorem wZ_X0 : Cond.initialized "TermSpread$Term" ∈ xW := List.mem_filter.mpr ⟨List.mem_append_right _ (List.mem_of_getElem? (i := 3) rfl), rfl⟩
theorem wZ_J : Cond.initialized "java/lang/Math" ∈ xW := List.mem_filter.mpr ⟨List.mem_append_right _ (List.mem_of_getElem? (i := 4) rfl), rfl⟩
theorem wKL_7 : Cond.classLink "TermSpreadLaw" 7 "TermSpread" ∈ xW := List.mem_filter.mpr ⟨List.mem_append_right _ (List.mem_of_getElem? (i := 5) rfl), rfl⟩
theorem wN_X1 : Cond.instantiable "TermSpread" 5 ∈ xW := List.mem_filter.mpr ⟨List.mem_append_right _ (List.mem_of_getElem? (i := 6) rfl), rfl⟩
theorem wML_9 : Cond.methodLink "TermSpreadLaw" 9 yX1_init ∈ xW := List.mem_filter.mpr ⟨List.mem_append_right _ (List.mem_of_getElem? (i := 7) rfl), rfl⟩
theorem wI_yX1_init : Cond.instanceMethod yX1_init ∈ xW := List.mem_filter.mpr ⟨List.mem_append_right _ (List.mem_of_getElem? (i := 8) rfl), rfl⟩
theorem wC_yX1_init : Cond.code yX1_init cX1_init 1 none ∈ xW := List.mem_filter.mpr ⟨List.mem_append_right _ (List.mem_of_getElem? (i := 9) rfl), rfl⟩
theorem wMX1_1 : Cond.methodLink "TermSpread" 1 ⟨"java/lang/Object", "<init>", "()V"⟩ ∈ xW := List.mem_filter.mpr ⟨List.mem_append_right _ (List.mem_of_getElem? (i := 10) rfl), rfl⟩
theorem wI_yO : Cond.instanceMethod ⟨"java/lang/Object", "<init>", "()V"⟩ ∈ xW := List.mem_filter.mpr ⟨List.mem_append_right _ (List.mem_of_getElem? (i := 11) rfl), rfl⟩
theorem wC_yO : Cond.code ⟨"java/lang/Object", "<init>", "()V"⟩ object_method_1_code 1 none ∈ xW := List.mem_filter.mpr ⟨List.mem_append_right _ (List.mem_of_getElem? (i := 12) rfl), rfl⟩
theorem wKX1_9 : Cond.classLink "TermSpread" 9 "TermSpread$Term" ∈ xW := List.mem_filter.mpr ⟨List.mem_append_right _ (List.mem_of_getElem? (i := 13) rfl), rfl⟩
theorem wFX1_11 : Cond.fieldLink "TermSpread" 11 "TermSpread" "registers" "[LTermSpread$Term;" ∈ xW := List.mem_filter.mpr ⟨List.mem_append_right _ (List.mem_of_getElem? (i := 15) rfl), rfl⟩
theorem wFX1_15 : Cond.fieldLink "TermSpread" 15 "TermSpread" "made" "[LTermSpread$Term;" ∈ xW := List.mem_filter.mpr ⟨List.mem_append_right _ (List.mem_of_getElem? (i := 16) rfl), rfl⟩
theorem wFX1_18 : Cond.fieldLink "TermSpread" 18 "TermSpread" "madeCount" "I" ∈ xW := List.mem_filter.mpr ⟨List.mem_append_right _ (List.mem_of_getElem? (i := 17) rfl), rfl⟩
theorem wFX1_22 : Cond.fieldLink "TermSpread" 22 "TermSpread" "derivedCount" "I" ∈ xW := List.mem_filter.mpr ⟨List.mem_append_right _ (List.mem_of_getElem? (i := 18) rfl), rfl⟩
theorem wFX1_25 : Cond.fieldLink "TermSpread" 25 "TermSpread" "zeros" "[I" ∈ xW := List.mem_filter.mpr ⟨List.mem_append_right _ (List.mem_of_getElem? (i := 19) rfl), rfl⟩
theorem wA_int : Cond.arrayClass .int ∈ xW := List.mem_filter.mpr ⟨List.mem_append_right _ (List.mem_of_getElem? (i := 31) rfl), rfl⟩
theorem wML_13 : Cond.methodLink "TermSpreadLaw" 13 yX1_secret ∈ xW := List.mem_filter.mpr ⟨List.mem_append_right _ (List.mem_of_getElem? (i := 32) rfl), rfl⟩
theorem wI_yX1_secret : Cond.instanceMethod yX1_secret ∈ xW := List.mem_filter.mpr ⟨List.mem_append_right _ (List.mem_of_getElem? (i := 33) rfl), rfl⟩
theorem wT_yX1_secret : Cond.selects yX1_secret.cls yX1_secret yX1_secret ∈ xW := List.mem_filter.mpr ⟨List.mem_append_right _ (List.mem_of_getElem? (i := 34) rfl), rfl⟩
theorem wC_yX1_secret : Cond.code yX1_secret cX1_secret 2 (some FieldType.int) ∈ xW := List.mem_filter.mpr ⟨List.mem_append_right _ (List.mem_of_getElem? (i := 35) rfl), rfl⟩
theorem wMX1_29 : Cond.methodLink "TermSpread" 29 yX1_plainTerm ∈ xW := List.mem_filter.mpr ⟨List.mem_append_right _ (List.mem_of_getElem? (i := 36) rfl), rfl⟩
theorem wI_yX1_plainTerm : Cond.instanceMethod yX1_plainTerm ∈ xW := List.mem_filter.mpr ⟨List.mem_append_right _ (List.mem_of_getElem? (i := 38) rfl), rfl⟩
theorem wC_yX1_plainTerm : Cond.code yX1_plainTerm cX1_plainTerm 7 (some (FieldType.object "TermSpread$Term")) ∈ xW := List.mem_filter.mpr ⟨List.mem_append_right _ (List.mem_of_getElem? (i := 39) rfl), rfl⟩
theorem wN_X0 : Cond.instantiable "TermSpread$Term" 7 ∈ xW := List.mem_filter.mpr ⟨List.mem_append_right _ (List.mem_of_getElem? (i := 40) rfl), rfl⟩
theorem wMX1_112 : Cond.methodLink "TermSpread" 112 yX0_init ∈ xW := List.mem_filter.mpr ⟨List.mem_append_right _ (List.mem_of_getElem? (i := 41) rfl), rfl⟩
theorem wI_yX0_init : Cond.instanceMethod yX0_init ∈ xW := List.mem_filter.mpr ⟨List.mem_append_right _ (List.mem_of_getElem? (i := 42) rfl), rfl⟩
theorem wC_yX0_init : Cond.code yX0_init cX0_init 5 none ∈ xW := List.mem_filter.mpr ⟨List.mem_append_right _ (List.mem_of_getElem? (i := 43) rfl), rfl⟩
theorem wMX0_3 : Cond.methodLink "TermSpread$Term" 3 ⟨"java/lang/Object", "<init>", "()V"⟩ ∈ xW := List.mem_filter.mpr ⟨List.mem_append_right _ (List.mem_of_getElem? (i := 44) rfl), rfl⟩
theorem wFX0_9 : Cond.fieldLink "TermSpread$Term" 9 "TermSpread$Term" "sort" "I" ∈ xW := List.mem_filter.mpr ⟨List.mem_append_right _ (List.mem_of_getElem? (i := 45) rfl), rfl⟩
theorem wFX1_78 : Cond.fieldLink "TermSpread" 78 "TermSpread$Term" "sort" "I" ∈ xW := List.mem_filter.mpr ⟨List.mem_append_right _ (List.mem_of_getElem? (i := 46) rfl), rfl⟩
theorem wFX0_15 : Cond.fieldLink "TermSpread$Term" 15 "TermSpread$Term" "label" "I" ∈ xW := List.mem_filter.mpr ⟨List.mem_append_right _ (List.mem_of_getElem? (i := 47) rfl), rfl⟩
theorem wFX1_102 : Cond.fieldLink "TermSpread" 102 "TermSpread$Term" "label" "I" ∈ xW := List.mem_filter.mpr ⟨List.mem_append_right _ (List.mem_of_getElem? (i := 48) rfl), rfl⟩
theorem wFX0_18 : Cond.fieldLink "TermSpread$Term" 18 "TermSpread$Term" "numbers" "[I" ∈ xW := List.mem_filter.mpr ⟨List.mem_append_right _ (List.mem_of_getElem? (i := 49) rfl), rfl⟩
theorem wFX0_22 : Cond.fieldLink "TermSpread$Term" 22 "TermSpread$Term" "parts" "[LTermSpread$Term;" ∈ xW := List.mem_filter.mpr ⟨List.mem_append_right _ (List.mem_of_getElem? (i := 50) rfl), rfl⟩
theorem wFX0_26 : Cond.fieldLink "TermSpread$Term" 26 "TermSpread$Term" "place" "I" ∈ xW := List.mem_filter.mpr ⟨List.mem_append_right _ (List.mem_of_getElem? (i := 51) rfl), rfl⟩
theorem wFX1_115 : Cond.fieldLink "TermSpread" 115 "TermSpread$Term" "place" "I" ∈ xW := List.mem_filter.mpr ⟨List.mem_append_right _ (List.mem_of_getElem? (i := 52) rfl), rfl⟩
theorem wFX0_29 : Cond.fieldLink "TermSpread$Term" 29 "TermSpread$Term" "isDerived" "Z" ∈ xW := List.mem_filter.mpr ⟨List.mem_append_right _ (List.mem_of_getElem? (i := 53) rfl), rfl⟩
theorem wFX1_84 : Cond.fieldLink "TermSpread" 84 "TermSpread$Term" "isDerived" "Z" ∈ xW := List.mem_filter.mpr ⟨List.mem_append_right _ (List.mem_of_getElem? (i := 54) rfl), rfl⟩
theorem wFX0_33 : Cond.fieldLink "TermSpread$Term" 33 "TermSpread$Term" "isFaceDerived" "Z" ∈ xW := List.mem_filter.mpr ⟨List.mem_append_right _ (List.mem_of_getElem? (i := 55) rfl), rfl⟩
theorem wFX1_132 : Cond.fieldLink "TermSpread" 132 "TermSpread$Term" "isFaceDerived" "Z" ∈ xW := List.mem_filter.mpr ⟨List.mem_append_right _ (List.mem_of_getElem? (i := 56) rfl), rfl⟩
theorem wMX1_33 : Cond.methodLink "TermSpread" 33 yX1_makeInto ∈ xW := List.mem_filter.mpr ⟨List.mem_append_right _ (List.mem_of_getElem? (i := 72) rfl), rfl⟩
theorem wI_yX1_makeInto : Cond.instanceMethod yX1_makeInto ∈ xW := List.mem_filter.mpr ⟨List.mem_append_right _ (List.mem_of_getElem? (i := 74) rfl), rfl⟩
theorem wC_yX1_makeInto : Cond.code yX1_makeInto cX1_makeInto 4 (some FieldType.int) ∈ xW := List.mem_filter.mpr ⟨List.mem_append_right _ (List.mem_of_getElem? (i := 75) rfl), rfl⟩
theorem wMX1_109 : Cond.methodLink "TermSpread" 109 yX1_isRegister ∈ xW := List.mem_filter.mpr ⟨List.mem_append_right _ (List.mem_of_getElem? (i := 76) rfl), rfl⟩
theorem wS_yX1_isRegister : Cond.static yX1_isRegister ∈ xW := List.mem_filter.mpr ⟨List.mem_append_right _ (List.mem_of_getElem? (i := 77) rfl), rfl⟩
theorem wC_yX1_isRegister : Cond.code yX1_isRegister cX1_isRegister 1 (some FieldType.boolean) ∈ xW := List.mem_filter.mpr ⟨List.mem_append_right _ (List.mem_of_getElem? (i := 78) rfl), rfl⟩
theorem wMX1_118 : Cond.methodLink "TermSpread" 118 yX1_findLike ∈ xW := List.mem_filter.mpr ⟨List.mem_append_right _ (List.mem_of_getElem? (i := 79) rfl), rfl⟩
theorem wI_yX1_findLike : Cond.instanceMethod yX1_findLike ∈ xW := List.mem_filter.mpr ⟨List.mem_append_right _ (List.mem_of_getElem? (i := 81) rfl), rfl⟩
theorem wC_yX1_findLike : Cond.code yX1_findLike cX1_findLike 4 (some (FieldType.object "TermSpread$Term")) ∈ xW := List.mem_filter.mpr ⟨List.mem_append_right _ (List.mem_of_getElem? (i := 82) rfl), rfl⟩
theorem wMX1_125 : Cond.methodLink "TermSpread" 125 yX0_isMadeLike ∈ xW := List.mem_filter.mpr ⟨List.mem_append_right _ (List.mem_of_getElem? (i := 83) rfl), rfl⟩
theorem wI_yX0_isMadeLike : Cond.instanceMethod yX0_isMadeLike ∈ xW := List.mem_filter.mpr ⟨List.mem_append_right _ (List.mem_of_getElem? (i := 84) rfl), rfl⟩
theorem wT_yX0_isMadeLike : Cond.selects yX0_isMadeLike.cls yX0_isMadeLike yX0_isMadeLike ∈ xW := List.mem_filter.mpr ⟨List.mem_append_right _ (List.mem_of_getElem? (i := 85) rfl), rfl⟩
theorem wC_yX0_isMadeLike : Cond.code yX0_isMadeLike cX0_isMadeLike 3 (some FieldType.boolean) ∈ xW := List.mem_filter.mpr ⟨List.mem_append_right _ (List.mem_of_getElem? (i := 86) rfl), rfl⟩
theorem wMX0_43 : Cond.methodLink "TermSpread$Term" 43 yX0_partAt ∈ xW := List.mem_filter.mpr ⟨List.mem_append_right _ (List.mem_of_getElem? (i := 87) rfl), rfl⟩
theorem wI_yX0_partAt : Cond.instanceMethod yX0_partAt ∈ xW := List.mem_filter.mpr ⟨List.mem_append_right _ (List.mem_of_getElem? (i := 88) rfl), rfl⟩
theorem wT_yX0_partAt : Cond.selects yX0_partAt.cls yX0_partAt yX0_partAt ∈ xW := List.mem_filter.mpr ⟨List.mem_append_right _ (List.mem_of_getElem? (i := 89) rfl), rfl⟩
theorem wC_yX0_partAt : Cond.code yX0_partAt cX0_partAt 2 (some (FieldType.object "TermSpread$Term")) ∈ xW := List.mem_filter.mpr ⟨List.mem_append_right _ (List.mem_of_getElem? (i := 90) rfl), rfl⟩
theorem wMX0_39 : Cond.methodLink "TermSpread$Term" 39 yX0_numberAt ∈ xW := List.mem_filter.mpr ⟨List.mem_append_right _ (List.mem_of_getElem? (i := 91) rfl), rfl⟩
theorem wI_yX0_numberAt : Cond.instanceMethod yX0_numberAt ∈ xW := List.mem_filter.mpr ⟨List.mem_append_right _ (List.mem_of_getElem? (i := 92) rfl), rfl⟩
theorem wT_yX0_numberAt : Cond.selects yX0_numberAt.cls yX0_numberAt yX0_numberAt ∈ xW := List.mem_filter.mpr ⟨List.mem_append_right _ (List.mem_of_getElem? (i := 93) rfl), rfl⟩
theorem wC_yX0_numberAt : Cond.code yX0_numberAt cX0_numberAt 2 (some FieldType.int) ∈ xW := List.mem_filter.mpr ⟨List.mem_append_right _ (List.mem_of_getElem? (i := 94) rfl), rfl⟩
theorem wMX1_122 : Cond.methodLink "TermSpread" 122 yX1_keep ∈ xW := List.mem_filter.mpr ⟨List.mem_append_right _ (List.mem_of_getElem? (i := 95) rfl), rfl⟩
theorem wI_yX1_keep : Cond.instanceMethod yX1_keep ∈ xW := List.mem_filter.mpr ⟨List.mem_append_right _ (List.mem_of_getElem? (i := 97) rfl), rfl⟩
theorem wC_yX1_keep : Cond.code yX1_keep cX1_keep 2 (some (FieldType.object "TermSpread$Term")) ∈ xW := List.mem_filter.mpr ⟨List.mem_append_right _ (List.mem_of_getElem? (i := 98) rfl), rfl⟩
theorem wMX1_128 : Cond.methodLink "TermSpread" 128 yX0_canBeMadeByAttacker ∈ xW := List.mem_filter.mpr ⟨List.mem_append_right _ (List.mem_of_getElem? (i := 99) rfl), rfl⟩
theorem wI_yX0_canBeMadeByAttacker : Cond.instanceMethod yX0_canBeMadeByAttacker ∈ xW := List.mem_filter.mpr ⟨List.mem_append_right _ (List.mem_of_getElem? (i := 100) rfl), rfl⟩
theorem wT_yX0_canBeMadeByAttacker : Cond.selects yX0_canBeMadeByAttacker.cls yX0_canBeMadeByAttacker yX0_canBeMadeByAttacker ∈ xW := List.mem_filter.mpr ⟨List.mem_append_right _ (List.mem_of_getElem? (i := 101) rfl), rfl⟩
theorem wC_yX0_canBeMadeByAttacker : Cond.code yX0_canBeMadeByAttacker cX0_canBeMadeByAttacker 2 (some FieldType.boolean) ∈ xW := List.mem_filter.mpr ⟨List.mem_append_right _ (List.mem_of_getElem? (i := 102) rfl), rfl⟩
theorem wMX0_47 : Cond.methodLink "TermSpread$Term" 47 yX0_canAgree ∈ xW := List.mem_filter.mpr ⟨List.mem_append_right _ (List.mem_of_getElem? (i := 103) rfl), rfl⟩
theorem wS_yX0_canAgree : Cond.static yX0_canAgree ∈ xW := List.mem_filter.mpr ⟨List.mem_append_right _ (List.mem_of_getElem? (i := 104) rfl), rfl⟩
theorem wC_yX0_canAgree : Cond.code yX0_canAgree cX0_canAgree 2 (some FieldType.boolean) ∈ xW := List.mem_filter.mpr ⟨List.mem_append_right _ (List.mem_of_getElem? (i := 105) rfl), rfl⟩
theorem wMX0_51 : Cond.methodLink "TermSpread$Term" 51 yX0_isPartIn ∈ xW := List.mem_filter.mpr ⟨List.mem_append_right _ (List.mem_of_getElem? (i := 106) rfl), rfl⟩
theorem wI_yX0_isPartIn : Cond.instanceMethod yX0_isPartIn ∈ xW := List.mem_filter.mpr ⟨List.mem_append_right _ (List.mem_of_getElem? (i := 107) rfl), rfl⟩
theorem wT_yX0_isPartIn : Cond.selects yX0_isPartIn.cls yX0_isPartIn yX0_isPartIn ∈ xW := List.mem_filter.mpr ⟨List.mem_append_right _ (List.mem_of_getElem? (i := 108) rfl), rfl⟩
theorem wC_yX0_isPartIn : Cond.code yX0_isPartIn cX0_isPartIn 3 (some FieldType.boolean) ∈ xW := List.mem_filter.mpr ⟨List.mem_append_right _ (List.mem_of_getElem? (i := 109) rfl), rfl⟩
theorem wMX1_88 : Cond.methodLink "TermSpread" 88 yX1_derive ∈ xW := List.mem_filter.mpr ⟨List.mem_append_right _ (List.mem_of_getElem? (i := 110) rfl), rfl⟩
theorem wI_yX1_derive : Cond.instanceMethod yX1_derive ∈ xW := List.mem_filter.mpr ⟨List.mem_append_right _ (List.mem_of_getElem? (i := 112) rfl), rfl⟩
theorem wC_yX1_derive : Cond.code yX1_derive cX1_derive 3 none ∈ xW := List.mem_filter.mpr ⟨List.mem_append_right _ (List.mem_of_getElem? (i := 113) rfl), rfl⟩
theorem wMX1_45 : Cond.methodLink "TermSpread" 45 yX0_partAt ∈ xW := List.mem_filter.mpr ⟨List.mem_append_right _ (List.mem_of_getElem? (i := 114) rfl), rfl⟩
theorem wMX1_81 : Cond.methodLink "TermSpread" 81 yX1_putInto ∈ xW := List.mem_filter.mpr ⟨List.mem_append_right _ (List.mem_of_getElem? (i := 115) rfl), rfl⟩
theorem wI_yX1_putInto : Cond.instanceMethod yX1_putInto ∈ xW := List.mem_filter.mpr ⟨List.mem_append_right _ (List.mem_of_getElem? (i := 117) rfl), rfl⟩
theorem wC_yX1_putInto : Cond.code yX1_putInto cX1_putInto 3 (some FieldType.int) ∈ xW := List.mem_filter.mpr ⟨List.mem_append_right _ (List.mem_of_getElem? (i := 118) rfl), rfl⟩
theorem wML_18 : Cond.methodLink "TermSpreadLaw" 18 yX1_face ∈ xW := List.mem_filter.mpr ⟨List.mem_append_right _ (List.mem_of_getElem? (i := 119) rfl), rfl⟩
theorem wI_yX1_face : Cond.instanceMethod yX1_face ∈ xW := List.mem_filter.mpr ⟨List.mem_append_right _ (List.mem_of_getElem? (i := 120) rfl), rfl⟩
theorem wT_yX1_face : Cond.selects yX1_face.cls yX1_face yX1_face ∈ xW := List.mem_filter.mpr ⟨List.mem_append_right _ (List.mem_of_getElem? (i := 121) rfl), rfl⟩
theorem wC_yX1_face : Cond.code yX1_face cX1_face 4 (some FieldType.int) ∈ xW := List.mem_filter.mpr ⟨List.mem_append_right _ (List.mem_of_getElem? (i := 122) rfl), rfl⟩
theorem wMX1_37 : Cond.methodLink "TermSpread" 37 yX1_termOfSort ∈ xW := List.mem_filter.mpr ⟨List.mem_append_right _ (List.mem_of_getElem? (i := 123) rfl), rfl⟩
theorem wI_yX1_termOfSort : Cond.instanceMethod yX1_termOfSort ∈ xW := List.mem_filter.mpr ⟨List.mem_append_right _ (List.mem_of_getElem? (i := 125) rfl), rfl⟩
theorem wC_yX1_termOfSort : Cond.code yX1_termOfSort cX1_termOfSort 4 (some (FieldType.object "TermSpread$Term")) ∈ xW := List.mem_filter.mpr ⟨List.mem_append_right _ (List.mem_of_getElem? (i := 126) rfl), rfl⟩
theorem wMX1_49 : Cond.methodLink "TermSpread" 49 yX1_termIn ∈ xW := List.mem_filter.mpr ⟨List.mem_append_right _ (List.mem_of_getElem? (i := 127) rfl), rfl⟩
theorem wI_yX1_termIn : Cond.instanceMethod yX1_termIn ∈ xW := List.mem_filter.mpr ⟨List.mem_append_right _ (List.mem_of_getElem? (i := 129) rfl), rfl⟩
theorem wC_yX1_termIn : Cond.code yX1_termIn cX1_termIn 2 (some (FieldType.object "TermSpread$Term")) ∈ xW := List.mem_filter.mpr ⟨List.mem_append_right _ (List.mem_of_getElem? (i := 130) rfl), rfl⟩
theorem wML_23 : Cond.methodLink "TermSpreadLaw" 23 yX1_shared ∈ xW := List.mem_filter.mpr ⟨List.mem_append_right _ (List.mem_of_getElem? (i := 131) rfl), rfl⟩
theorem wI_yX1_shared : Cond.instanceMethod yX1_shared ∈ xW := List.mem_filter.mpr ⟨List.mem_append_right _ (List.mem_of_getElem? (i := 132) rfl), rfl⟩
theorem wT_yX1_shared : Cond.selects yX1_shared.cls yX1_shared yX1_shared ∈ xW := List.mem_filter.mpr ⟨List.mem_append_right _ (List.mem_of_getElem? (i := 133) rfl), rfl⟩
theorem wC_yX1_shared : Cond.code yX1_shared cX1_shared 4 (some FieldType.int) ∈ xW := List.mem_filter.mpr ⟨List.mem_append_right _ (List.mem_of_getElem? (i := 134) rfl), rfl⟩
theorem wMX1_41 : Cond.methodLink "TermSpread" 41 yX1_makeSharedInto ∈ xW := List.mem_filter.mpr ⟨List.mem_append_right _ (List.mem_of_getElem? (i := 135) rfl), rfl⟩
theorem wI_yX1_makeSharedInto : Cond.instanceMethod yX1_makeSharedInto ∈ xW := List.mem_filter.mpr ⟨List.mem_append_right _ (List.mem_of_getElem? (i := 137) rfl), rfl⟩
theorem wC_yX1_makeSharedInto : Cond.code yX1_makeSharedInto cX1_makeSharedInto 5 (some FieldType.int) ∈ xW := List.mem_filter.mpr ⟨List.mem_append_right _ (List.mem_of_getElem? (i := 138) rfl), rfl⟩
theorem wML_28 : Cond.methodLink "TermSpreadLaw" 28 yX1_agreed ∈ xW := List.mem_filter.mpr ⟨List.mem_append_right _ (List.mem_of_getElem? (i := 139) rfl), rfl⟩
theorem wI_yX1_agreed : Cond.instanceMethod yX1_agreed ∈ xW := List.mem_filter.mpr ⟨List.mem_append_right _ (List.mem_of_getElem? (i := 140) rfl), rfl⟩
theorem wT_yX1_agreed : Cond.selects yX1_agreed.cls yX1_agreed yX1_agreed ∈ xW := List.mem_filter.mpr ⟨List.mem_append_right _ (List.mem_of_getElem? (i := 141) rfl), rfl⟩
theorem wC_yX1_agreed : Cond.code yX1_agreed cX1_agreed 5 (some FieldType.int) ∈ xW := List.mem_filter.mpr ⟨List.mem_append_right _ (List.mem_of_getElem? (i := 142) rfl), rfl⟩
theorem wML_32 : Cond.methodLink "TermSpreadLaw" 32 yX1_mix ∈ xW := List.mem_filter.mpr ⟨List.mem_append_right _ (List.mem_of_getElem? (i := 143) rfl), rfl⟩
theorem wI_yX1_mix : Cond.instanceMethod yX1_mix ∈ xW := List.mem_filter.mpr ⟨List.mem_append_right _ (List.mem_of_getElem? (i := 144) rfl), rfl⟩
theorem wT_yX1_mix : Cond.selects yX1_mix.cls yX1_mix yX1_mix ∈ xW := List.mem_filter.mpr ⟨List.mem_append_right _ (List.mem_of_getElem? (i := 145) rfl), rfl⟩
theorem wC_yX1_mix : Cond.code yX1_mix cX1_mix 6 (some FieldType.int) ∈ xW := List.mem_filter.mpr ⟨List.mem_append_right _ (List.mem_of_getElem? (i := 146) rfl), rfl⟩
theorem wMX1_52 : Cond.methodLink "TermSpread" 52 yX1_isTermOrNothing ∈ xW := List.mem_filter.mpr ⟨List.mem_append_right _ (List.mem_of_getElem? (i := 147) rfl), rfl⟩
theorem wI_yX1_isTermOrNothing : Cond.instanceMethod yX1_isTermOrNothing ∈ xW := List.mem_filter.mpr ⟨List.mem_append_right _ (List.mem_of_getElem? (i := 149) rfl), rfl⟩
theorem wC_yX1_isTermOrNothing : Cond.code yX1_isTermOrNothing cX1_isTermOrNothing 2 (some FieldType.boolean) ∈ xW := List.mem_filter.mpr ⟨List.mem_append_right _ (List.mem_of_getElem? (i := 150) rfl), rfl⟩
theorem wML_37 : Cond.methodLink "TermSpreadLaw" 37 yX1_sealed ∈ xW := List.mem_filter.mpr ⟨List.mem_append_right _ (List.mem_of_getElem? (i := 151) rfl), rfl⟩
theorem wI_yX1_sealed : Cond.instanceMethod yX1_sealed ∈ xW := List.mem_filter.mpr ⟨List.mem_append_right _ (List.mem_of_getElem? (i := 152) rfl), rfl⟩
theorem wT_yX1_sealed : Cond.selects yX1_sealed.cls yX1_sealed yX1_sealed ∈ xW := List.mem_filter.mpr ⟨List.mem_append_right _ (List.mem_of_getElem? (i := 153) rfl), rfl⟩
theorem wC_yX1_sealed : Cond.code yX1_sealed cX1_sealed 8 (some FieldType.int) ∈ xW := List.mem_filter.mpr ⟨List.mem_append_right _ (List.mem_of_getElem? (i := 154) rfl), rfl⟩
theorem wML_41 : Cond.methodLink "TermSpreadLaw" 41 yX1_signed ∈ xW := List.mem_filter.mpr ⟨List.mem_append_right _ (List.mem_of_getElem? (i := 155) rfl), rfl⟩
theorem wI_yX1_signed : Cond.instanceMethod yX1_signed ∈ xW := List.mem_filter.mpr ⟨List.mem_append_right _ (List.mem_of_getElem? (i := 156) rfl), rfl⟩
theorem wT_yX1_signed : Cond.selects yX1_signed.cls yX1_signed yX1_signed ∈ xW := List.mem_filter.mpr ⟨List.mem_append_right _ (List.mem_of_getElem? (i := 157) rfl), rfl⟩
theorem wC_yX1_signed : Cond.code yX1_signed cX1_signed 6 (some FieldType.int) ∈ xW := List.mem_filter.mpr ⟨List.mem_append_right _ (List.mem_of_getElem? (i := 158) rfl), rfl⟩
theorem wML_45 : Cond.methodLink "TermSpreadLaw" 45 yX1_row ∈ xW := List.mem_filter.mpr ⟨List.mem_append_right _ (List.mem_of_getElem? (i := 159) rfl), rfl⟩
theorem wI_yX1_row : Cond.instanceMethod yX1_row ∈ xW := List.mem_filter.mpr ⟨List.mem_append_right _ (List.mem_of_getElem? (i := 160) rfl), rfl⟩
theorem wT_yX1_row : Cond.selects yX1_row.cls yX1_row yX1_row ∈ xW := List.mem_filter.mpr ⟨List.mem_append_right _ (List.mem_of_getElem? (i := 161) rfl), rfl⟩
theorem wC_yX1_row : Cond.code yX1_row cX1_row 3 (some FieldType.int) ∈ xW := List.mem_filter.mpr ⟨List.mem_append_right _ (List.mem_of_getElem? (i := 162) rfl), rfl⟩
theorem wMX1_56 : Cond.methodLink "TermSpread" 56 yX1_isKind ∈ xW := List.mem_filter.mpr ⟨List.mem_append_right _ (List.mem_of_getElem? (i := 163) rfl), rfl⟩
theorem wS_yX1_isKind : Cond.static yX1_isKind ∈ xW := List.mem_filter.mpr ⟨List.mem_append_right _ (List.mem_of_getElem? (i := 164) rfl), rfl⟩
theorem wC_yX1_isKind : Cond.code yX1_isKind cX1_isKind 1 (some FieldType.boolean) ∈ xW := List.mem_filter.mpr ⟨List.mem_append_right _ (List.mem_of_getElem? (i := 165) rfl), rfl⟩
theorem wML_49 : Cond.methodLink "TermSpreadLaw" 49 yX1_alter ∈ xW := List.mem_filter.mpr ⟨List.mem_append_right _ (List.mem_of_getElem? (i := 166) rfl), rfl⟩
theorem wI_yX1_alter : Cond.instanceMethod yX1_alter ∈ xW := List.mem_filter.mpr ⟨List.mem_append_right _ (List.mem_of_getElem? (i := 167) rfl), rfl⟩
theorem wT_yX1_alter : Cond.selects yX1_alter.cls yX1_alter yX1_alter ∈ xW := List.mem_filter.mpr ⟨List.mem_append_right _ (List.mem_of_getElem? (i := 168) rfl), rfl⟩
theorem wC_yX1_alter : Cond.code yX1_alter cX1_alter 6 (some FieldType.int) ∈ xW := List.mem_filter.mpr ⟨List.mem_append_right _ (List.mem_of_getElem? (i := 169) rfl), rfl⟩
theorem wMX1_59 : Cond.methodLink "TermSpread" 59 yX1_isSlot ∈ xW := List.mem_filter.mpr ⟨List.mem_append_right _ (List.mem_of_getElem? (i := 170) rfl), rfl⟩
theorem wS_yX1_isSlot : Cond.static yX1_isSlot ∈ xW := List.mem_filter.mpr ⟨List.mem_append_right _ (List.mem_of_getElem? (i := 171) rfl), rfl⟩
theorem wC_yX1_isSlot : Cond.code yX1_isSlot cX1_isSlot 1 (some FieldType.boolean) ∈ xW := List.mem_filter.mpr ⟨List.mem_append_right _ (List.mem_of_getElem? (i := 172) rfl), rfl⟩
theorem wMX1_62 : Cond.methodLink "TermSpread" 62 yX0_withNumber ∈ xW := List.mem_filter.mpr ⟨List.mem_append_right _ (List.mem_of_getElem? (i := 173) rfl), rfl⟩
theorem wI_yX0_withNumber : Cond.instanceMethod yX0_withNumber ∈ xW := List.mem_filter.mpr ⟨List.mem_append_right _ (List.mem_of_getElem? (i := 174) rfl), rfl⟩
theorem wT_yX0_withNumber : Cond.selects yX0_withNumber.cls yX0_withNumber yX0_withNumber ∈ xW := List.mem_filter.mpr ⟨List.mem_append_right _ (List.mem_of_getElem? (i := 175) rfl), rfl⟩
theorem wC_yX0_withNumber : Cond.code yX0_withNumber cX0_withNumber 5 (some (FieldType.object "TermSpread$Term")) ∈ xW := List.mem_filter.mpr ⟨List.mem_append_right _ (List.mem_of_getElem? (i := 176) rfl), rfl⟩
theorem wKX0_10 : Cond.classLink "TermSpread$Term" 10 "TermSpread$Term" ∈ xW := List.mem_filter.mpr ⟨List.mem_append_right _ (List.mem_of_getElem? (i := 177) rfl), rfl⟩
theorem wMX0_36 : Cond.methodLink "TermSpread$Term" 36 yX0_init ∈ xW := List.mem_filter.mpr ⟨List.mem_append_right _ (List.mem_of_getElem? (i := 178) rfl), rfl⟩
theorem wMX1_65 : Cond.methodLink "TermSpread" 65 yX0_withLabel ∈ xW := List.mem_filter.mpr ⟨List.mem_append_right _ (List.mem_of_getElem? (i := 179) rfl), rfl⟩
theorem wI_yX0_withLabel : Cond.instanceMethod yX0_withLabel ∈ xW := List.mem_filter.mpr ⟨List.mem_append_right _ (List.mem_of_getElem? (i := 180) rfl), rfl⟩
theorem wT_yX0_withLabel : Cond.selects yX0_withLabel.cls yX0_withLabel yX0_withLabel ∈ xW := List.mem_filter.mpr ⟨List.mem_append_right _ (List.mem_of_getElem? (i := 181) rfl), rfl⟩
theorem wC_yX0_withLabel : Cond.code yX0_withLabel cX0_withLabel 2 (some (FieldType.object "TermSpread$Term")) ∈ xW := List.mem_filter.mpr ⟨List.mem_append_right _ (List.mem_of_getElem? (i := 182) rfl), rfl⟩
theorem wML_53 : Cond.methodLink "TermSpreadLaw" 53 yX1_swap ∈ xW := List.mem_filter.mpr ⟨List.mem_append_right _ (List.mem_of_getElem? (i := 183) rfl), rfl⟩
theorem wI_yX1_swap : Cond.instanceMethod yX1_swap ∈ xW := List.mem_filter.mpr ⟨List.mem_append_right _ (List.mem_of_getElem? (i := 184) rfl), rfl⟩
theorem wT_yX1_swap : Cond.selects yX1_swap.cls yX1_swap yX1_swap ∈ xW := List.mem_filter.mpr ⟨List.mem_append_right _ (List.mem_of_getElem? (i := 185) rfl), rfl⟩
theorem wC_yX1_swap : Cond.code yX1_swap cX1_swap 6 (some FieldType.int) ∈ xW := List.mem_filter.mpr ⟨List.mem_append_right _ (List.mem_of_getElem? (i := 186) rfl), rfl⟩
theorem wMX1_68 : Cond.methodLink "TermSpread" 68 yX0_withPart ∈ xW := List.mem_filter.mpr ⟨List.mem_append_right _ (List.mem_of_getElem? (i := 187) rfl), rfl⟩
theorem wI_yX0_withPart : Cond.instanceMethod yX0_withPart ∈ xW := List.mem_filter.mpr ⟨List.mem_append_right _ (List.mem_of_getElem? (i := 188) rfl), rfl⟩
theorem wT_yX0_withPart : Cond.selects yX0_withPart.cls yX0_withPart yX0_withPart ∈ xW := List.mem_filter.mpr ⟨List.mem_append_right _ (List.mem_of_getElem? (i := 189) rfl), rfl⟩
theorem wC_yX0_withPart : Cond.code yX0_withPart cX0_withPart 5 (some (FieldType.object "TermSpread$Term")) ∈ xW := List.mem_filter.mpr ⟨List.mem_append_right _ (List.mem_of_getElem? (i := 190) rfl), rfl⟩
theorem wML_57 : Cond.methodLink "TermSpreadLaw" 57 yX1_part ∈ xW := List.mem_filter.mpr ⟨List.mem_append_right _ (List.mem_of_getElem? (i := 191) rfl), rfl⟩
theorem wI_yX1_part : Cond.instanceMethod yX1_part ∈ xW := List.mem_filter.mpr ⟨List.mem_append_right _ (List.mem_of_getElem? (i := 192) rfl), rfl⟩
theorem wT_yX1_part : Cond.selects yX1_part.cls yX1_part yX1_part ∈ xW := List.mem_filter.mpr ⟨List.mem_append_right _ (List.mem_of_getElem? (i := 193) rfl), rfl⟩
theorem wC_yX1_part : Cond.code yX1_part cX1_part 5 (some FieldType.int) ∈ xW := List.mem_filter.mpr ⟨List.mem_append_right _ (List.mem_of_getElem? (i := 194) rfl), rfl⟩
theorem wFX1_72 : Cond.fieldLink "TermSpread" 72 "TermSpread" "PART_SORTS" "[I" ∈ xW := List.mem_filter.mpr ⟨List.mem_append_right _ (List.mem_of_getElem? (i := 195) rfl), rfl⟩
theorem wFX1_75 : Cond.fieldLink "TermSpread" 75 "TermSpread" "PART_SLOTS" "[I" ∈ xW := List.mem_filter.mpr ⟨List.mem_append_right _ (List.mem_of_getElem? (i := 197) rfl), rfl⟩
theorem wML_61 : Cond.methodLink "TermSpreadLaw" 61 yX1_give ∈ xW := List.mem_filter.mpr ⟨List.mem_append_right _ (List.mem_of_getElem? (i := 199) rfl), rfl⟩
theorem wI_yX1_give : Cond.instanceMethod yX1_give ∈ xW := List.mem_filter.mpr ⟨List.mem_append_right _ (List.mem_of_getElem? (i := 200) rfl), rfl⟩
theorem wT_yX1_give : Cond.selects yX1_give.cls yX1_give yX1_give ∈ xW := List.mem_filter.mpr ⟨List.mem_append_right _ (List.mem_of_getElem? (i := 201) rfl), rfl⟩
theorem wC_yX1_give : Cond.code yX1_give cX1_give 4 (some FieldType.int) ∈ xW := List.mem_filter.mpr ⟨List.mem_append_right _ (List.mem_of_getElem? (i := 202) rfl), rfl⟩
theorem wMX1_92 : Cond.methodLink "TermSpread" 92 yX1_spread ∈ xW := List.mem_filter.mpr ⟨List.mem_append_right _ (List.mem_of_getElem? (i := 203) rfl), rfl⟩
theorem wI_yX1_spread : Cond.instanceMethod yX1_spread ∈ xW := List.mem_filter.mpr ⟨List.mem_append_right _ (List.mem_of_getElem? (i := 205) rfl), rfl⟩
theorem wC_yX1_spread : Cond.code yX1_spread cX1_spread 4 none ∈ xW := List.mem_filter.mpr ⟨List.mem_append_right _ (List.mem_of_getElem? (i := 206) rfl), rfl⟩
theorem wMX1_135 : Cond.methodLink "TermSpread" 135 yX1_takeAllApart ∈ xW := List.mem_filter.mpr ⟨List.mem_append_right _ (List.mem_of_getElem? (i := 207) rfl), rfl⟩
theorem wI_yX1_takeAllApart : Cond.instanceMethod yX1_takeAllApart ∈ xW := List.mem_filter.mpr ⟨List.mem_append_right _ (List.mem_of_getElem? (i := 209) rfl), rfl⟩
theorem wC_yX1_takeAllApart : Cond.code yX1_takeAllApart cX1_takeAllApart 3 none ∈ xW := List.mem_filter.mpr ⟨List.mem_append_right _ (List.mem_of_getElem? (i := 210) rfl), rfl⟩
theorem wMX1_141 : Cond.methodLink "TermSpread" 141 ⟨"java/lang/Math", "min", "(II)I"⟩ ∈ xW := List.mem_filter.mpr ⟨List.mem_append_right _ (List.mem_of_getElem? (i := 211) rfl), rfl⟩
theorem wS_yJ : Cond.static ⟨"java/lang/Math", "min", "(II)I"⟩ ∈ xW := List.mem_filter.mpr ⟨List.mem_append_right _ (List.mem_of_getElem? (i := 212) rfl), rfl⟩
theorem wC_yJ : Cond.code ⟨"java/lang/Math", "min", "(II)I"⟩ prog_5_method_69_code 2 (some FieldType.int) ∈ xW := List.mem_filter.mpr ⟨List.mem_append_right _ (List.mem_of_getElem? (i := 213) rfl), rfl⟩
theorem wMX1_147 : Cond.methodLink "TermSpread" 147 yX1_takeApart ∈ xW := List.mem_filter.mpr ⟨List.mem_append_right _ (List.mem_of_getElem? (i := 214) rfl), rfl⟩
theorem wI_yX1_takeApart : Cond.instanceMethod yX1_takeApart ∈ xW := List.mem_filter.mpr ⟨List.mem_append_right _ (List.mem_of_getElem? (i := 216) rfl), rfl⟩
theorem wC_yX1_takeApart : Cond.code yX1_takeApart cX1_takeApart 3 none ∈ xW := List.mem_filter.mpr ⟨List.mem_append_right _ (List.mem_of_getElem? (i := 217) rfl), rfl⟩
theorem wMX1_150 : Cond.methodLink "TermSpread" 150 yX0_isPartIn ∈ xW := List.mem_filter.mpr ⟨List.mem_append_right _ (List.mem_of_getElem? (i := 218) rfl), rfl⟩
theorem wMX1_138 : Cond.methodLink "TermSpread" 138 yX1_putAllTogether ∈ xW := List.mem_filter.mpr ⟨List.mem_append_right _ (List.mem_of_getElem? (i := 219) rfl), rfl⟩
theorem wI_yX1_putAllTogether : Cond.instanceMethod yX1_putAllTogether ∈ xW := List.mem_filter.mpr ⟨List.mem_append_right _ (List.mem_of_getElem? (i := 221) rfl), rfl⟩
theorem wC_yX1_putAllTogether : Cond.code yX1_putAllTogether cX1_putAllTogether 3 none ∈ xW := List.mem_filter.mpr ⟨List.mem_append_right _ (List.mem_of_getElem? (i := 222) rfl), rfl⟩
theorem wML_65 : Cond.methodLink "TermSpreadLaw" 65 yX1_derived ∈ xW := List.mem_filter.mpr ⟨List.mem_append_right _ (List.mem_of_getElem? (i := 223) rfl), rfl⟩
theorem wI_yX1_derived : Cond.instanceMethod yX1_derived ∈ xW := List.mem_filter.mpr ⟨List.mem_append_right _ (List.mem_of_getElem? (i := 224) rfl), rfl⟩
theorem wT_yX1_derived : Cond.selects yX1_derived.cls yX1_derived yX1_derived ∈ xW := List.mem_filter.mpr ⟨List.mem_append_right _ (List.mem_of_getElem? (i := 225) rfl), rfl⟩
theorem wC_yX1_derived : Cond.code yX1_derived cX1_derived 3 (some FieldType.int) ∈ xW := List.mem_filter.mpr ⟨List.mem_append_right _ (List.mem_of_getElem? (i := 226) rfl), rfl⟩
theorem wML_69 : Cond.methodLink "TermSpreadLaw" 69 yX1_same ∈ xW := List.mem_filter.mpr ⟨List.mem_append_right _ (List.mem_of_getElem? (i := 227) rfl), rfl⟩
theorem wI_yX1_same : Cond.instanceMethod yX1_same ∈ xW := List.mem_filter.mpr ⟨List.mem_append_right _ (List.mem_of_getElem? (i := 228) rfl), rfl⟩
theorem wT_yX1_same : Cond.selects yX1_same.cls yX1_same yX1_same ∈ xW := List.mem_filter.mpr ⟨List.mem_append_right _ (List.mem_of_getElem? (i := 229) rfl), rfl⟩
theorem wC_yX1_same : Cond.code yX1_same cX1_same 5 (some FieldType.int) ∈ xW := List.mem_filter.mpr ⟨List.mem_append_right _ (List.mem_of_getElem? (i := 230) rfl), rfl⟩
theorem wML_73 : Cond.methodLink "TermSpreadLaw" 73 yX1_good ∈ xW := List.mem_filter.mpr ⟨List.mem_append_right _ (List.mem_of_getElem? (i := 231) rfl), rfl⟩
theorem wI_yX1_good : Cond.instanceMethod yX1_good ∈ xW := List.mem_filter.mpr ⟨List.mem_append_right _ (List.mem_of_getElem? (i := 232) rfl), rfl⟩
theorem wT_yX1_good : Cond.selects yX1_good.cls yX1_good yX1_good ∈ xW := List.mem_filter.mpr ⟨List.mem_append_right _ (List.mem_of_getElem? (i := 233) rfl), rfl⟩
theorem wC_yX1_good : Cond.code yX1_good cX1_good 3 (some FieldType.int) ∈ xW := List.mem_filter.mpr ⟨List.mem_append_right _ (List.mem_of_getElem? (i := 234) rfl), rfl⟩
theorem wMX1_95 : Cond.methodLink "TermSpread" 95 yX1_hasGoodNumbers ∈ xW := List.mem_filter.mpr ⟨List.mem_append_right _ (List.mem_of_getElem? (i := 235) rfl), rfl⟩
theorem wS_yX1_hasGoodNumbers : Cond.static yX1_hasGoodNumbers ∈ xW := List.mem_filter.mpr ⟨List.mem_append_right _ (List.mem_of_getElem? (i := 236) rfl), rfl⟩
theorem wC_yX1_hasGoodNumbers : Cond.code yX1_hasGoodNumbers cX1_hasGoodNumbers 4 (some FieldType.boolean) ∈ xW := List.mem_filter.mpr ⟨List.mem_append_right _ (List.mem_of_getElem? (i := 237) rfl), rfl⟩
theorem wMX1_153 : Cond.methodLink "TermSpread" 153 yX1_placeInTable ∈ xW := List.mem_filter.mpr ⟨List.mem_append_right _ (List.mem_of_getElem? (i := 238) rfl), rfl⟩
theorem wS_yX1_placeInTable : Cond.static yX1_placeInTable ∈ xW := List.mem_filter.mpr ⟨List.mem_append_right _ (List.mem_of_getElem? (i := 239) rfl), rfl⟩
theorem wC_yX1_placeInTable : Cond.code yX1_placeInTable cX1_placeInTable 2 (some FieldType.int) ∈ xW := List.mem_filter.mpr ⟨List.mem_append_right _ (List.mem_of_getElem? (i := 240) rfl), rfl⟩
theorem wFX1_156 : Cond.fieldLink "TermSpread" 156 "TermSpread" "LEAST_NUMBERS" "[I" ∈ xW := List.mem_filter.mpr ⟨List.mem_append_right _ (List.mem_of_getElem? (i := 241) rfl), rfl⟩
theorem wFX1_159 : Cond.fieldLink "TermSpread" 159 "TermSpread" "MOST_NUMBERS" "[I" ∈ xW := List.mem_filter.mpr ⟨List.mem_append_right _ (List.mem_of_getElem? (i := 243) rfl), rfl⟩
theorem wMX1_105 : Cond.methodLink "TermSpread" 105 yX0_numberAt ∈ xW := List.mem_filter.mpr ⟨List.mem_append_right _ (List.mem_of_getElem? (i := 245) rfl), rfl⟩
theorem wMX1_99 : Cond.methodLink "TermSpread" 99 yX1_hasGoodTerms ∈ xW := List.mem_filter.mpr ⟨List.mem_append_right _ (List.mem_of_getElem? (i := 246) rfl), rfl⟩
theorem wS_yX1_hasGoodTerms : Cond.static yX1_hasGoodTerms ∈ xW := List.mem_filter.mpr ⟨List.mem_append_right _ (List.mem_of_getElem? (i := 247) rfl), rfl⟩
theorem wC_yX1_hasGoodTerms : Cond.code yX1_hasGoodTerms cX1_hasGoodTerms 5 (some FieldType.boolean) ∈ xW := List.mem_filter.mpr ⟨List.mem_append_right _ (List.mem_of_getElem? (i := 248) rfl), rfl⟩
theorem wFX1_162 : Cond.fieldLink "TermSpread" 162 "TermSpread" "WANTED_TERMS" "[I" ∈ xW := List.mem_filter.mpr ⟨List.mem_append_right _ (List.mem_of_getElem? (i := 249) rfl), rfl⟩
theorem wMX1_165 : Cond.methodLink "TermSpread" 165 yX1_fits ∈ xW := List.mem_filter.mpr ⟨List.mem_append_right _ (List.mem_of_getElem? (i := 251) rfl), rfl⟩
theorem wS_yX1_fits : Cond.static yX1_fits ∈ xW := List.mem_filter.mpr ⟨List.mem_append_right _ (List.mem_of_getElem? (i := 252) rfl), rfl⟩
theorem wC_yX1_fits : Cond.code yX1_fits cX1_fits 2 (some FieldType.boolean) ∈ xW := List.mem_filter.mpr ⟨List.mem_append_right _ (List.mem_of_getElem? (i := 253) rfl), rfl⟩
theorem wML_77 : Cond.methodLink "TermSpreadLaw" 77 yX1_about ∈ xW := List.mem_filter.mpr ⟨List.mem_append_right _ (List.mem_of_getElem? (i := 254) rfl), rfl⟩
theorem wI_yX1_about : Cond.instanceMethod yX1_about ∈ xW := List.mem_filter.mpr ⟨List.mem_append_right _ (List.mem_of_getElem? (i := 255) rfl), rfl⟩
theorem wT_yX1_about : Cond.selects yX1_about.cls yX1_about yX1_about ∈ xW := List.mem_filter.mpr ⟨List.mem_append_right _ (List.mem_of_getElem? (i := 256) rfl), rfl⟩
theorem wC_yX1_about : Cond.code yX1_about cX1_about 4 (some FieldType.int) ∈ xW := List.mem_filter.mpr ⟨List.mem_append_right _ (List.mem_of_getElem? (i := 257) rfl), rfl⟩
theorem wML_81 : Cond.methodLink "TermSpreadLaw" 81 yX1_count ∈ xW := List.mem_filter.mpr ⟨List.mem_append_right _ (List.mem_of_getElem? (i := 258) rfl), rfl⟩
theorem wI_yX1_count : Cond.instanceMethod yX1_count ∈ xW := List.mem_filter.mpr ⟨List.mem_append_right _ (List.mem_of_getElem? (i := 259) rfl), rfl⟩
theorem wT_yX1_count : Cond.selects yX1_count.cls yX1_count yX1_count ∈ xW := List.mem_filter.mpr ⟨List.mem_append_right _ (List.mem_of_getElem? (i := 260) rfl), rfl⟩
theorem wC_yX1_count : Cond.code yX1_count cX1_count 2 (some FieldType.int) ∈ xW := List.mem_filter.mpr ⟨List.mem_append_right _ (List.mem_of_getElem? (i := 261) rfl), rfl⟩
theorem wKL_10 : Cond.classLink "TermSpreadLaw" 10 "TermSpreadModel" ∈ xW := List.mem_filter.mpr ⟨List.mem_append_right _ (List.mem_of_getElem? (i := 262) rfl), rfl⟩
theorem wN_X2 : Cond.instantiable "TermSpreadModel" 11 ∈ xW := List.mem_filter.mpr ⟨List.mem_append_right _ (List.mem_of_getElem? (i := 263) rfl), rfl⟩
theorem wML_12 : Cond.methodLink "TermSpreadLaw" 12 yX2_init ∈ xW := List.mem_filter.mpr ⟨List.mem_append_right _ (List.mem_of_getElem? (i := 264) rfl), rfl⟩
theorem wI_yX2_init : Cond.instanceMethod yX2_init ∈ xW := List.mem_filter.mpr ⟨List.mem_append_right _ (List.mem_of_getElem? (i := 265) rfl), rfl⟩
theorem wC_yX2_init : Cond.code yX2_init cX2_init 1 none ∈ xW := List.mem_filter.mpr ⟨List.mem_append_right _ (List.mem_of_getElem? (i := 266) rfl), rfl⟩
theorem wMX2_1 : Cond.methodLink "TermSpreadModel" 1 ⟨"java/lang/Object", "<init>", "()V"⟩ ∈ xW := List.mem_filter.mpr ⟨List.mem_append_right _ (List.mem_of_getElem? (i := 267) rfl), rfl⟩
theorem wFX2_38 : Cond.fieldLink "TermSpreadModel" 38 "TermSpreadModel" "terms" "I" ∈ xW := List.mem_filter.mpr ⟨List.mem_append_right _ (List.mem_of_getElem? (i := 268) rfl), rfl⟩
theorem wFX2_9 : Cond.fieldLink "TermSpreadModel" 9 "TermSpreadModel" "sort" "[I" ∈ xW := List.mem_filter.mpr ⟨List.mem_append_right _ (List.mem_of_getElem? (i := 269) rfl), rfl⟩
theorem wFX2_13 : Cond.fieldLink "TermSpreadModel" 13 "TermSpreadModel" "one" "[I" ∈ xW := List.mem_filter.mpr ⟨List.mem_append_right _ (List.mem_of_getElem? (i := 270) rfl), rfl⟩
theorem wFX2_16 : Cond.fieldLink "TermSpreadModel" 16 "TermSpreadModel" "two" "[I" ∈ xW := List.mem_filter.mpr ⟨List.mem_append_right _ (List.mem_of_getElem? (i := 271) rfl), rfl⟩
theorem wFX2_19 : Cond.fieldLink "TermSpreadModel" 19 "TermSpreadModel" "three" "[I" ∈ xW := List.mem_filter.mpr ⟨List.mem_append_right _ (List.mem_of_getElem? (i := 272) rfl), rfl⟩
theorem wFX2_22 : Cond.fieldLink "TermSpreadModel" 22 "TermSpreadModel" "cells" "[I" ∈ xW := List.mem_filter.mpr ⟨List.mem_append_right _ (List.mem_of_getElem? (i := 273) rfl), rfl⟩
theorem wFX2_25 : Cond.fieldLink "TermSpreadModel" 25 "TermSpreadModel" "given" "[Z" ∈ xW := List.mem_filter.mpr ⟨List.mem_append_right _ (List.mem_of_getElem? (i := 274) rfl), rfl⟩
theorem wFX2_29 : Cond.fieldLink "TermSpreadModel" 29 "TermSpreadModel" "known" "[Z" ∈ xW := List.mem_filter.mpr ⟨List.mem_append_right _ (List.mem_of_getElem? (i := 275) rfl), rfl⟩
theorem wFX2_32 : Cond.fieldLink "TermSpreadModel" 32 "TermSpreadModel" "line" "[I" ∈ xW := List.mem_filter.mpr ⟨List.mem_append_right _ (List.mem_of_getElem? (i := 276) rfl), rfl⟩
theorem wFX2_35 : Cond.fieldLink "TermSpreadModel" 35 "TermSpreadModel" "register" "[I" ∈ xW := List.mem_filter.mpr ⟨List.mem_append_right _ (List.mem_of_getElem? (i := 277) rfl), rfl⟩
theorem wFX2_53 : Cond.fieldLink "TermSpreadModel" 53 "TermSpreadModel" "secrets" "I" ∈ xW := List.mem_filter.mpr ⟨List.mem_append_right _ (List.mem_of_getElem? (i := 278) rfl), rfl⟩
theorem wA_boolean : Cond.arrayClass .boolean ∈ xW := List.mem_filter.mpr ⟨List.mem_append_right _ (List.mem_of_getElem? (i := 302) rfl), rfl⟩
theorem wML_17 : Cond.methodLink "TermSpreadLaw" 17 yX2_secret ∈ xW := List.mem_filter.mpr ⟨List.mem_append_right _ (List.mem_of_getElem? (i := 303) rfl), rfl⟩
theorem wI_yX2_secret : Cond.instanceMethod yX2_secret ∈ xW := List.mem_filter.mpr ⟨List.mem_append_right _ (List.mem_of_getElem? (i := 304) rfl), rfl⟩
theorem wT_yX2_secret : Cond.selects yX2_secret.cls yX2_secret yX2_secret ∈ xW := List.mem_filter.mpr ⟨List.mem_append_right _ (List.mem_of_getElem? (i := 305) rfl), rfl⟩
theorem wC_yX2_secret : Cond.code yX2_secret cX2_secret 2 (some FieldType.int) ∈ xW := List.mem_filter.mpr ⟨List.mem_append_right _ (List.mem_of_getElem? (i := 306) rfl), rfl⟩
theorem wMX2_46 : Cond.methodLink "TermSpreadModel" 46 yX2_isRegister ∈ xW := List.mem_filter.mpr ⟨List.mem_append_right _ (List.mem_of_getElem? (i := 307) rfl), rfl⟩
theorem wS_yX2_isRegister : Cond.static yX2_isRegister ∈ xW := List.mem_filter.mpr ⟨List.mem_append_right _ (List.mem_of_getElem? (i := 308) rfl), rfl⟩
theorem wC_yX2_isRegister : Cond.code yX2_isRegister cX2_isRegister 1 (some FieldType.boolean) ∈ xW := List.mem_filter.mpr ⟨List.mem_append_right _ (List.mem_of_getElem? (i := 309) rfl), rfl⟩
theorem wMX2_56 : Cond.methodLink "TermSpreadModel" 56 yX2_put ∈ xW := List.mem_filter.mpr ⟨List.mem_append_right _ (List.mem_of_getElem? (i := 310) rfl), rfl⟩
theorem wI_yX2_put : Cond.instanceMethod yX2_put ∈ xW := List.mem_filter.mpr ⟨List.mem_append_right _ (List.mem_of_getElem? (i := 312) rfl), rfl⟩
theorem wC_yX2_put : Cond.code yX2_put cX2_put 8 (some FieldType.int) ∈ xW := List.mem_filter.mpr ⟨List.mem_append_right _ (List.mem_of_getElem? (i := 313) rfl), rfl⟩
theorem wMX2_42 : Cond.methodLink "TermSpreadModel" 42 yX2_isLike ∈ xW := List.mem_filter.mpr ⟨List.mem_append_right _ (List.mem_of_getElem? (i := 314) rfl), rfl⟩
theorem wI_yX2_isLike : Cond.instanceMethod yX2_isLike ∈ xW := List.mem_filter.mpr ⟨List.mem_append_right _ (List.mem_of_getElem? (i := 316) rfl), rfl⟩
theorem wC_yX2_isLike : Cond.code yX2_isLike cX2_isLike 8 (some FieldType.boolean) ∈ xW := List.mem_filter.mpr ⟨List.mem_append_right _ (List.mem_of_getElem? (i := 317) rfl), rfl⟩
theorem wML_22 : Cond.methodLink "TermSpreadLaw" 22 yX2_face ∈ xW := List.mem_filter.mpr ⟨List.mem_append_right _ (List.mem_of_getElem? (i := 318) rfl), rfl⟩
theorem wI_yX2_face : Cond.instanceMethod yX2_face ∈ xW := List.mem_filter.mpr ⟨List.mem_append_right _ (List.mem_of_getElem? (i := 319) rfl), rfl⟩
theorem wT_yX2_face : Cond.selects yX2_face.cls yX2_face yX2_face ∈ xW := List.mem_filter.mpr ⟨List.mem_append_right _ (List.mem_of_getElem? (i := 320) rfl), rfl⟩
theorem wC_yX2_face : Cond.code yX2_face cX2_face 3 (some FieldType.int) ∈ xW := List.mem_filter.mpr ⟨List.mem_append_right _ (List.mem_of_getElem? (i := 321) rfl), rfl⟩
theorem wMX2_60 : Cond.methodLink "TermSpreadModel" 60 yX2_has ∈ xW := List.mem_filter.mpr ⟨List.mem_append_right _ (List.mem_of_getElem? (i := 322) rfl), rfl⟩
theorem wI_yX2_has : Cond.instanceMethod yX2_has ∈ xW := List.mem_filter.mpr ⟨List.mem_append_right _ (List.mem_of_getElem? (i := 324) rfl), rfl⟩
theorem wC_yX2_has : Cond.code yX2_has cX2_has 3 (some FieldType.boolean) ∈ xW := List.mem_filter.mpr ⟨List.mem_append_right _ (List.mem_of_getElem? (i := 325) rfl), rfl⟩
theorem wMX2_50 : Cond.methodLink "TermSpreadModel" 50 yX2_holds ∈ xW := List.mem_filter.mpr ⟨List.mem_append_right _ (List.mem_of_getElem? (i := 326) rfl), rfl⟩
theorem wI_yX2_holds : Cond.instanceMethod yX2_holds ∈ xW := List.mem_filter.mpr ⟨List.mem_append_right _ (List.mem_of_getElem? (i := 328) rfl), rfl⟩
theorem wC_yX2_holds : Cond.code yX2_holds cX2_holds 2 (some FieldType.boolean) ∈ xW := List.mem_filter.mpr ⟨List.mem_append_right _ (List.mem_of_getElem? (i := 329) rfl), rfl⟩
theorem wML_27 : Cond.methodLink "TermSpreadLaw" 27 yX2_shared ∈ xW := List.mem_filter.mpr ⟨List.mem_append_right _ (List.mem_of_getElem? (i := 330) rfl), rfl⟩
theorem wI_yX2_shared : Cond.instanceMethod yX2_shared ∈ xW := List.mem_filter.mpr ⟨List.mem_append_right _ (List.mem_of_getElem? (i := 331) rfl), rfl⟩
theorem wT_yX2_shared : Cond.selects yX2_shared.cls yX2_shared yX2_shared ∈ xW := List.mem_filter.mpr ⟨List.mem_append_right _ (List.mem_of_getElem? (i := 332) rfl), rfl⟩
theorem wC_yX2_shared : Cond.code yX2_shared cX2_shared 4 (some FieldType.int) ∈ xW := List.mem_filter.mpr ⟨List.mem_append_right _ (List.mem_of_getElem? (i := 333) rfl), rfl⟩
theorem wMX2_64 : Cond.methodLink "TermSpreadModel" 64 yX2_share ∈ xW := List.mem_filter.mpr ⟨List.mem_append_right _ (List.mem_of_getElem? (i := 334) rfl), rfl⟩
theorem wI_yX2_share : Cond.instanceMethod yX2_share ∈ xW := List.mem_filter.mpr ⟨List.mem_append_right _ (List.mem_of_getElem? (i := 336) rfl), rfl⟩
theorem wC_yX2_share : Cond.code yX2_share cX2_share 4 (some FieldType.int) ∈ xW := List.mem_filter.mpr ⟨List.mem_append_right _ (List.mem_of_getElem? (i := 337) rfl), rfl⟩
theorem wML_31 : Cond.methodLink "TermSpreadLaw" 31 yX2_agreed ∈ xW := List.mem_filter.mpr ⟨List.mem_append_right _ (List.mem_of_getElem? (i := 338) rfl), rfl⟩
theorem wI_yX2_agreed : Cond.instanceMethod yX2_agreed ∈ xW := List.mem_filter.mpr ⟨List.mem_append_right _ (List.mem_of_getElem? (i := 339) rfl), rfl⟩
theorem wT_yX2_agreed : Cond.selects yX2_agreed.cls yX2_agreed yX2_agreed ∈ xW := List.mem_filter.mpr ⟨List.mem_append_right _ (List.mem_of_getElem? (i := 340) rfl), rfl⟩
theorem wC_yX2_agreed : Cond.code yX2_agreed cX2_agreed 4 (some FieldType.int) ∈ xW := List.mem_filter.mpr ⟨List.mem_append_right _ (List.mem_of_getElem? (i := 341) rfl), rfl⟩
theorem wML_36 : Cond.methodLink "TermSpreadLaw" 36 yX2_mix ∈ xW := List.mem_filter.mpr ⟨List.mem_append_right _ (List.mem_of_getElem? (i := 342) rfl), rfl⟩
theorem wI_yX2_mix : Cond.instanceMethod yX2_mix ∈ xW := List.mem_filter.mpr ⟨List.mem_append_right _ (List.mem_of_getElem? (i := 343) rfl), rfl⟩
theorem wT_yX2_mix : Cond.selects yX2_mix.cls yX2_mix yX2_mix ∈ xW := List.mem_filter.mpr ⟨List.mem_append_right _ (List.mem_of_getElem? (i := 344) rfl), rfl⟩
theorem wC_yX2_mix : Cond.code yX2_mix cX2_mix 5 (some FieldType.int) ∈ xW := List.mem_filter.mpr ⟨List.mem_append_right _ (List.mem_of_getElem? (i := 345) rfl), rfl⟩
theorem wML_40 : Cond.methodLink "TermSpreadLaw" 40 yX2_sealed ∈ xW := List.mem_filter.mpr ⟨List.mem_append_right _ (List.mem_of_getElem? (i := 346) rfl), rfl⟩
theorem wI_yX2_sealed : Cond.instanceMethod yX2_sealed ∈ xW := List.mem_filter.mpr ⟨List.mem_append_right _ (List.mem_of_getElem? (i := 347) rfl), rfl⟩
theorem wT_yX2_sealed : Cond.selects yX2_sealed.cls yX2_sealed yX2_sealed ∈ xW := List.mem_filter.mpr ⟨List.mem_append_right _ (List.mem_of_getElem? (i := 348) rfl), rfl⟩
theorem wC_yX2_sealed : Cond.code yX2_sealed cX2_sealed 5 (some FieldType.int) ∈ xW := List.mem_filter.mpr ⟨List.mem_append_right _ (List.mem_of_getElem? (i := 349) rfl), rfl⟩
theorem wML_44 : Cond.methodLink "TermSpreadLaw" 44 yX2_signed ∈ xW := List.mem_filter.mpr ⟨List.mem_append_right _ (List.mem_of_getElem? (i := 350) rfl), rfl⟩
theorem wI_yX2_signed : Cond.instanceMethod yX2_signed ∈ xW := List.mem_filter.mpr ⟨List.mem_append_right _ (List.mem_of_getElem? (i := 351) rfl), rfl⟩
theorem wT_yX2_signed : Cond.selects yX2_signed.cls yX2_signed yX2_signed ∈ xW := List.mem_filter.mpr ⟨List.mem_append_right _ (List.mem_of_getElem? (i := 352) rfl), rfl⟩
theorem wC_yX2_signed : Cond.code yX2_signed cX2_signed 4 (some FieldType.int) ∈ xW := List.mem_filter.mpr ⟨List.mem_append_right _ (List.mem_of_getElem? (i := 353) rfl), rfl⟩
theorem wML_48 : Cond.methodLink "TermSpreadLaw" 48 yX2_row ∈ xW := List.mem_filter.mpr ⟨List.mem_append_right _ (List.mem_of_getElem? (i := 354) rfl), rfl⟩
theorem wI_yX2_row : Cond.instanceMethod yX2_row ∈ xW := List.mem_filter.mpr ⟨List.mem_append_right _ (List.mem_of_getElem? (i := 355) rfl), rfl⟩
theorem wT_yX2_row : Cond.selects yX2_row.cls yX2_row yX2_row ∈ xW := List.mem_filter.mpr ⟨List.mem_append_right _ (List.mem_of_getElem? (i := 356) rfl), rfl⟩
theorem wC_yX2_row : Cond.code yX2_row cX2_row 4 (some FieldType.int) ∈ xW := List.mem_filter.mpr ⟨List.mem_append_right _ (List.mem_of_getElem? (i := 357) rfl), rfl⟩
theorem wML_52 : Cond.methodLink "TermSpreadLaw" 52 yX2_alter ∈ xW := List.mem_filter.mpr ⟨List.mem_append_right _ (List.mem_of_getElem? (i := 358) rfl), rfl⟩
theorem wI_yX2_alter : Cond.instanceMethod yX2_alter ∈ xW := List.mem_filter.mpr ⟨List.mem_append_right _ (List.mem_of_getElem? (i := 359) rfl), rfl⟩
theorem wT_yX2_alter : Cond.selects yX2_alter.cls yX2_alter yX2_alter ∈ xW := List.mem_filter.mpr ⟨List.mem_append_right _ (List.mem_of_getElem? (i := 360) rfl), rfl⟩
theorem wC_yX2_alter : Cond.code yX2_alter cX2_alter 5 (some FieldType.int) ∈ xW := List.mem_filter.mpr ⟨List.mem_append_right _ (List.mem_of_getElem? (i := 361) rfl), rfl⟩
theorem wMX2_68 : Cond.methodLink "TermSpreadModel" 68 yX2_copy ∈ xW := List.mem_filter.mpr ⟨List.mem_append_right _ (List.mem_of_getElem? (i := 362) rfl), rfl⟩
theorem wI_yX2_copy : Cond.instanceMethod yX2_copy ∈ xW := List.mem_filter.mpr ⟨List.mem_append_right _ (List.mem_of_getElem? (i := 364) rfl), rfl⟩
theorem wC_yX2_copy : Cond.code yX2_copy cX2_copy 3 none ∈ xW := List.mem_filter.mpr ⟨List.mem_append_right _ (List.mem_of_getElem? (i := 365) rfl), rfl⟩
theorem wML_56 : Cond.methodLink "TermSpreadLaw" 56 yX2_swap ∈ xW := List.mem_filter.mpr ⟨List.mem_append_right _ (List.mem_of_getElem? (i := 366) rfl), rfl⟩
theorem wI_yX2_swap : Cond.instanceMethod yX2_swap ∈ xW := List.mem_filter.mpr ⟨List.mem_append_right _ (List.mem_of_getElem? (i := 367) rfl), rfl⟩
theorem wT_yX2_swap : Cond.selects yX2_swap.cls yX2_swap yX2_swap ∈ xW := List.mem_filter.mpr ⟨List.mem_append_right _ (List.mem_of_getElem? (i := 368) rfl), rfl⟩
theorem wC_yX2_swap : Cond.code yX2_swap cX2_swap 5 (some FieldType.int) ∈ xW := List.mem_filter.mpr ⟨List.mem_append_right _ (List.mem_of_getElem? (i := 369) rfl), rfl⟩
theorem wML_60 : Cond.methodLink "TermSpreadLaw" 60 yX2_part ∈ xW := List.mem_filter.mpr ⟨List.mem_append_right _ (List.mem_of_getElem? (i := 370) rfl), rfl⟩
theorem wI_yX2_part : Cond.instanceMethod yX2_part ∈ xW := List.mem_filter.mpr ⟨List.mem_append_right _ (List.mem_of_getElem? (i := 371) rfl), rfl⟩
theorem wT_yX2_part : Cond.selects yX2_part.cls yX2_part yX2_part ∈ xW := List.mem_filter.mpr ⟨List.mem_append_right _ (List.mem_of_getElem? (i := 372) rfl), rfl⟩
theorem wC_yX2_part : Cond.code yX2_part cX2_part 5 (some FieldType.int) ∈ xW := List.mem_filter.mpr ⟨List.mem_append_right _ (List.mem_of_getElem? (i := 373) rfl), rfl⟩
theorem wMX2_72 : Cond.methodLink "TermSpreadModel" 72 yX2_partOf ∈ xW := List.mem_filter.mpr ⟨List.mem_append_right _ (List.mem_of_getElem? (i := 374) rfl), rfl⟩
theorem wI_yX2_partOf : Cond.instanceMethod yX2_partOf ∈ xW := List.mem_filter.mpr ⟨List.mem_append_right _ (List.mem_of_getElem? (i := 376) rfl), rfl⟩
theorem wC_yX2_partOf : Cond.code yX2_partOf cX2_partOf 3 (some FieldType.int) ∈ xW := List.mem_filter.mpr ⟨List.mem_append_right _ (List.mem_of_getElem? (i := 377) rfl), rfl⟩
theorem wML_64 : Cond.methodLink "TermSpreadLaw" 64 yX2_give ∈ xW := List.mem_filter.mpr ⟨List.mem_append_right _ (List.mem_of_getElem? (i := 378) rfl), rfl⟩
theorem wI_yX2_give : Cond.instanceMethod yX2_give ∈ xW := List.mem_filter.mpr ⟨List.mem_append_right _ (List.mem_of_getElem? (i := 379) rfl), rfl⟩
theorem wT_yX2_give : Cond.selects yX2_give.cls yX2_give yX2_give ∈ xW := List.mem_filter.mpr ⟨List.mem_append_right _ (List.mem_of_getElem? (i := 380) rfl), rfl⟩
theorem wC_yX2_give : Cond.code yX2_give cX2_give 3 (some FieldType.int) ∈ xW := List.mem_filter.mpr ⟨List.mem_append_right _ (List.mem_of_getElem? (i := 381) rfl), rfl⟩
theorem wMX2_94 : Cond.methodLink "TermSpreadModel" 94 yX2_derivedNow ∈ xW := List.mem_filter.mpr ⟨List.mem_append_right _ (List.mem_of_getElem? (i := 382) rfl), rfl⟩
theorem wI_yX2_derivedNow : Cond.instanceMethod yX2_derivedNow ∈ xW := List.mem_filter.mpr ⟨List.mem_append_right _ (List.mem_of_getElem? (i := 384) rfl), rfl⟩
theorem wC_yX2_derivedNow : Cond.code yX2_derivedNow cX2_derivedNow 3 (some FieldType.int) ∈ xW := List.mem_filter.mpr ⟨List.mem_append_right _ (List.mem_of_getElem? (i := 385) rfl), rfl⟩
theorem wMX2_91 : Cond.methodLink "TermSpreadModel" 91 yX2_derive ∈ xW := List.mem_filter.mpr ⟨List.mem_append_right _ (List.mem_of_getElem? (i := 386) rfl), rfl⟩
theorem wI_yX2_derive : Cond.instanceMethod yX2_derive ∈ xW := List.mem_filter.mpr ⟨List.mem_append_right _ (List.mem_of_getElem? (i := 388) rfl), rfl⟩
theorem wC_yX2_derive : Cond.code yX2_derive cX2_derive 3 none ∈ xW := List.mem_filter.mpr ⟨List.mem_append_right _ (List.mem_of_getElem? (i := 389) rfl), rfl⟩
theorem wMX2_85 : Cond.methodLink "TermSpreadModel" 85 yX2_canMake ∈ xW := List.mem_filter.mpr ⟨List.mem_append_right _ (List.mem_of_getElem? (i := 390) rfl), rfl⟩
theorem wI_yX2_canMake : Cond.instanceMethod yX2_canMake ∈ xW := List.mem_filter.mpr ⟨List.mem_append_right _ (List.mem_of_getElem? (i := 392) rfl), rfl⟩
theorem wC_yX2_canMake : Cond.code yX2_canMake cX2_canMake 4 (some FieldType.boolean) ∈ xW := List.mem_filter.mpr ⟨List.mem_append_right _ (List.mem_of_getElem? (i := 393) rfl), rfl⟩
theorem wMX2_76 : Cond.methodLink "TermSpreadModel" 76 yX2_is ∈ xW := List.mem_filter.mpr ⟨List.mem_append_right _ (List.mem_of_getElem? (i := 394) rfl), rfl⟩
theorem wI_yX2_is : Cond.instanceMethod yX2_is ∈ xW := List.mem_filter.mpr ⟨List.mem_append_right _ (List.mem_of_getElem? (i := 396) rfl), rfl⟩
theorem wC_yX2_is : Cond.code yX2_is cX2_is 2 (some FieldType.boolean) ∈ xW := List.mem_filter.mpr ⟨List.mem_append_right _ (List.mem_of_getElem? (i := 397) rfl), rfl⟩
theorem wMX2_79 : Cond.methodLink "TermSpreadModel" 79 yX2_shows ∈ xW := List.mem_filter.mpr ⟨List.mem_append_right _ (List.mem_of_getElem? (i := 398) rfl), rfl⟩
theorem wI_yX2_shows : Cond.instanceMethod yX2_shows ∈ xW := List.mem_filter.mpr ⟨List.mem_append_right _ (List.mem_of_getElem? (i := 400) rfl), rfl⟩
theorem wC_yX2_shows : Cond.code yX2_shows cX2_shows 4 (some FieldType.boolean) ∈ xW := List.mem_filter.mpr ⟨List.mem_append_right _ (List.mem_of_getElem? (i := 401) rfl), rfl⟩
theorem wMX2_82 : Cond.methodLink "TermSpreadModel" 82 yX2_learn ∈ xW := List.mem_filter.mpr ⟨List.mem_append_right _ (List.mem_of_getElem? (i := 402) rfl), rfl⟩
theorem wI_yX2_learn : Cond.instanceMethod yX2_learn ∈ xW := List.mem_filter.mpr ⟨List.mem_append_right _ (List.mem_of_getElem? (i := 404) rfl), rfl⟩
theorem wC_yX2_learn : Cond.code yX2_learn cX2_learn 2 (some FieldType.boolean) ∈ xW := List.mem_filter.mpr ⟨List.mem_append_right _ (List.mem_of_getElem? (i := 405) rfl), rfl⟩
theorem wMX2_88 : Cond.methodLink "TermSpreadModel" 88 yX2_open ∈ xW := List.mem_filter.mpr ⟨List.mem_append_right _ (List.mem_of_getElem? (i := 406) rfl), rfl⟩
theorem wI_yX2_open : Cond.instanceMethod yX2_open ∈ xW := List.mem_filter.mpr ⟨List.mem_append_right _ (List.mem_of_getElem? (i := 408) rfl), rfl⟩
theorem wC_yX2_open : Cond.code yX2_open cX2_open 4 (some FieldType.boolean) ∈ xW := List.mem_filter.mpr ⟨List.mem_append_right _ (List.mem_of_getElem? (i := 409) rfl), rfl⟩
theorem wML_68 : Cond.methodLink "TermSpreadLaw" 68 yX2_derived ∈ xW := List.mem_filter.mpr ⟨List.mem_append_right _ (List.mem_of_getElem? (i := 410) rfl), rfl⟩
theorem wI_yX2_derived : Cond.instanceMethod yX2_derived ∈ xW := List.mem_filter.mpr ⟨List.mem_append_right _ (List.mem_of_getElem? (i := 411) rfl), rfl⟩
theorem wT_yX2_derived : Cond.selects yX2_derived.cls yX2_derived yX2_derived ∈ xW := List.mem_filter.mpr ⟨List.mem_append_right _ (List.mem_of_getElem? (i := 412) rfl), rfl⟩
theorem wC_yX2_derived : Cond.code yX2_derived cX2_derived 2 (some FieldType.int) ∈ xW := List.mem_filter.mpr ⟨List.mem_append_right _ (List.mem_of_getElem? (i := 413) rfl), rfl⟩
theorem wML_72 : Cond.methodLink "TermSpreadLaw" 72 yX2_same ∈ xW := List.mem_filter.mpr ⟨List.mem_append_right _ (List.mem_of_getElem? (i := 414) rfl), rfl⟩
theorem wI_yX2_same : Cond.instanceMethod yX2_same ∈ xW := List.mem_filter.mpr ⟨List.mem_append_right _ (List.mem_of_getElem? (i := 415) rfl), rfl⟩
theorem wT_yX2_same : Cond.selects yX2_same.cls yX2_same yX2_same ∈ xW := List.mem_filter.mpr ⟨List.mem_append_right _ (List.mem_of_getElem? (i := 416) rfl), rfl⟩
theorem wC_yX2_same : Cond.code yX2_same cX2_same 3 (some FieldType.int) ∈ xW := List.mem_filter.mpr ⟨List.mem_append_right _ (List.mem_of_getElem? (i := 417) rfl), rfl⟩
theorem wML_76 : Cond.methodLink "TermSpreadLaw" 76 yX2_good ∈ xW := List.mem_filter.mpr ⟨List.mem_append_right _ (List.mem_of_getElem? (i := 418) rfl), rfl⟩
theorem wI_yX2_good : Cond.instanceMethod yX2_good ∈ xW := List.mem_filter.mpr ⟨List.mem_append_right _ (List.mem_of_getElem? (i := 419) rfl), rfl⟩
theorem wT_yX2_good : Cond.selects yX2_good.cls yX2_good yX2_good ∈ xW := List.mem_filter.mpr ⟨List.mem_append_right _ (List.mem_of_getElem? (i := 420) rfl), rfl⟩
theorem wC_yX2_good : Cond.code yX2_good cX2_good 2 (some FieldType.int) ∈ xW := List.mem_filter.mpr ⟨List.mem_append_right _ (List.mem_of_getElem? (i := 421) rfl), rfl⟩
theorem wMX2_108 : Cond.methodLink "TermSpreadModel" 108 yX2_isGood ∈ xW := List.mem_filter.mpr ⟨List.mem_append_right _ (List.mem_of_getElem? (i := 422) rfl), rfl⟩
theorem wI_yX2_isGood : Cond.instanceMethod yX2_isGood ∈ xW := List.mem_filter.mpr ⟨List.mem_append_right _ (List.mem_of_getElem? (i := 424) rfl), rfl⟩
theorem wC_yX2_isGood : Cond.code yX2_isGood cX2_isGood 7 (some FieldType.boolean) ∈ xW := List.mem_filter.mpr ⟨List.mem_append_right _ (List.mem_of_getElem? (i := 425) rfl), rfl⟩
theorem wMX2_98 : Cond.methodLink "TermSpreadModel" 98 yX2_in ∈ xW := List.mem_filter.mpr ⟨List.mem_append_right _ (List.mem_of_getElem? (i := 426) rfl), rfl⟩
theorem wS_yX2_in : Cond.static yX2_in ∈ xW := List.mem_filter.mpr ⟨List.mem_append_right _ (List.mem_of_getElem? (i := 427) rfl), rfl⟩
theorem wC_yX2_in : Cond.code yX2_in cX2_in 3 (some FieldType.boolean) ∈ xW := List.mem_filter.mpr ⟨List.mem_append_right _ (List.mem_of_getElem? (i := 428) rfl), rfl⟩
theorem wMX2_102 : Cond.methodLink "TermSpreadModel" 102 yX2_isBare ∈ xW := List.mem_filter.mpr ⟨List.mem_append_right _ (List.mem_of_getElem? (i := 429) rfl), rfl⟩
theorem wI_yX2_isBare : Cond.instanceMethod yX2_isBare ∈ xW := List.mem_filter.mpr ⟨List.mem_append_right _ (List.mem_of_getElem? (i := 431) rfl), rfl⟩
theorem wC_yX2_isBare : Cond.code yX2_isBare cX2_isBare 6 (some FieldType.boolean) ∈ xW := List.mem_filter.mpr ⟨List.mem_append_right _ (List.mem_of_getElem? (i := 432) rfl), rfl⟩
theorem wMX2_105 : Cond.methodLink "TermSpreadModel" 105 yX2_isFace ∈ xW := List.mem_filter.mpr ⟨List.mem_append_right _ (List.mem_of_getElem? (i := 433) rfl), rfl⟩
theorem wI_yX2_isFace : Cond.instanceMethod yX2_isFace ∈ xW := List.mem_filter.mpr ⟨List.mem_append_right _ (List.mem_of_getElem? (i := 435) rfl), rfl⟩
theorem wC_yX2_isFace : Cond.code yX2_isFace cX2_isFace 2 (some FieldType.boolean) ∈ xW := List.mem_filter.mpr ⟨List.mem_append_right _ (List.mem_of_getElem? (i := 436) rfl), rfl⟩
theorem wML_80 : Cond.methodLink "TermSpreadLaw" 80 yX2_about ∈ xW := List.mem_filter.mpr ⟨List.mem_append_right _ (List.mem_of_getElem? (i := 437) rfl), rfl⟩
theorem wI_yX2_about : Cond.instanceMethod yX2_about ∈ xW := List.mem_filter.mpr ⟨List.mem_append_right _ (List.mem_of_getElem? (i := 438) rfl), rfl⟩
theorem wT_yX2_about : Cond.selects yX2_about.cls yX2_about yX2_about ∈ xW := List.mem_filter.mpr ⟨List.mem_append_right _ (List.mem_of_getElem? (i := 439) rfl), rfl⟩
theorem wC_yX2_about : Cond.code yX2_about cX2_about 4 (some FieldType.int) ∈ xW := List.mem_filter.mpr ⟨List.mem_append_right _ (List.mem_of_getElem? (i := 440) rfl), rfl⟩
theorem wML_84 : Cond.methodLink "TermSpreadLaw" 84 yX2_count ∈ xW := List.mem_filter.mpr ⟨List.mem_append_right _ (List.mem_of_getElem? (i := 441) rfl), rfl⟩
theorem wI_yX2_count : Cond.instanceMethod yX2_count ∈ xW := List.mem_filter.mpr ⟨List.mem_append_right _ (List.mem_of_getElem? (i := 442) rfl), rfl⟩
theorem wT_yX2_count : Cond.selects yX2_count.cls yX2_count yX2_count ∈ xW := List.mem_filter.mpr ⟨List.mem_append_right _ (List.mem_of_getElem? (i := 443) rfl), rfl⟩
theorem wC_yX2_count : Cond.code yX2_count cX2_count 2 (some FieldType.int) ∈ xW := List.mem_filter.mpr ⟨List.mem_append_right _ (List.mem_of_getElem? (i := 444) rfl), rfl⟩
theorem wT_yX1_plainTerm : Cond.selects yX1_plainTerm.cls yX1_plainTerm yX1_plainTerm ∈ xW := List.mem_filter.mpr ⟨List.mem_append_left _ (List.mem_of_getElem? (i := 0) rfl), rfl⟩
theorem wT_yX1_makeInto : Cond.selects yX1_makeInto.cls yX1_makeInto yX1_makeInto ∈ xW := List.mem_filter.mpr ⟨List.mem_append_left _ (List.mem_of_getElem? (i := 1) rfl), rfl⟩
theorem wT_yX1_findLike : Cond.selects yX1_findLike.cls yX1_findLike yX1_findLike ∈ xW := List.mem_filter.mpr ⟨List.mem_append_left _ (List.mem_of_getElem? (i := 2) rfl), rfl⟩
theorem wT_yX1_keep : Cond.selects yX1_keep.cls yX1_keep yX1_keep ∈ xW := List.mem_filter.mpr ⟨List.mem_append_left _ (List.mem_of_getElem? (i := 3) rfl), rfl⟩
theorem wT_yX1_derive : Cond.selects yX1_derive.cls yX1_derive yX1_derive ∈ xW := List.mem_filter.mpr ⟨List.mem_append_left _ (List.mem_of_getElem? (i := 4) rfl), rfl⟩
theorem wT_yX1_putInto : Cond.selects yX1_putInto.cls yX1_putInto yX1_putInto ∈ xW := List.mem_filter.mpr ⟨List.mem_append_left _ (List.mem_of_getElem? (i := 5) rfl), rfl⟩
theorem wT_yX1_termOfSort : Cond.selects yX1_termOfSort.cls yX1_termOfSort yX1_termOfSort ∈ xW := List.mem_filter.mpr ⟨List.mem_append_left _ (List.mem_of_getElem? (i := 6) rfl), rfl⟩
theorem wT_yX1_termIn : Cond.selects yX1_termIn.cls yX1_termIn yX1_termIn ∈ xW := List.mem_filter.mpr ⟨List.mem_append_left _ (List.mem_of_getElem? (i := 7) rfl), rfl⟩
theorem wT_yX1_makeSharedInto : Cond.selects yX1_makeSharedInto.cls yX1_makeSharedInto yX1_makeSharedInto ∈ xW := List.mem_filter.mpr ⟨List.mem_append_left _ (List.mem_of_getElem? (i := 8) rfl), rfl⟩
theorem wT_yX1_isTermOrNothing : Cond.selects yX1_isTermOrNothing.cls yX1_isTermOrNothing yX1_isTermOrNothing ∈ xW := List.mem_filter.mpr ⟨List.mem_append_left _ (List.mem_of_getElem? (i := 9) rfl), rfl⟩
theorem wT_yX1_spread : Cond.selects yX1_spread.cls yX1_spread yX1_spread ∈ xW := List.mem_filter.mpr ⟨List.mem_append_left _ (List.mem_of_getElem? (i := 10) rfl), rfl⟩
theorem wT_yX1_takeAllApart : Cond.selects yX1_takeAllApart.cls yX1_takeAllApart yX1_takeAllApart ∈ xW := List.mem_filter.mpr ⟨List.mem_append_left _ (List.mem_of_getElem? (i := 11) rfl), rfl⟩
theorem wT_yX1_takeApart : Cond.selects yX1_takeApart.cls yX1_takeApart yX1_takeApart ∈ xW := List.mem_filter.mpr ⟨List.mem_append_left _ (List.mem_of_getElem? (i := 12) rfl), rfl⟩
theorem wT_yX1_putAllTogether : Cond.selects yX1_putAllTogether.cls yX1_putAllTogether yX1_putAllTogether ∈ xW := List.mem_filter.mpr ⟨List.mem_append_left _ (List.mem_of_getElem? (i := 13) rfl), rfl⟩
theorem wT_yX2_put : Cond.selects yX2_put.cls yX2_put yX2_put ∈ xW := List.mem_filter.mpr ⟨List.mem_append_left _ (List.mem_of_getElem? (i := 14) rfl), rfl⟩
theorem wT_yX2_isLike : Cond.selects yX2_isLike.cls yX2_isLike yX2_isLike ∈ xW := List.mem_filter.mpr ⟨List.mem_append_left _ (List.mem_of_getElem? (i := 15) rfl), rfl⟩
theorem wT_yX2_has : Cond.selects yX2_has.cls yX2_has yX2_has ∈ xW := List.mem_filter.mpr ⟨List.mem_append_left _ (List.mem_of_getElem? (i := 16) rfl), rfl⟩
theorem wT_yX2_holds : Cond.selects yX2_holds.cls yX2_holds yX2_holds ∈ xW := List.mem_filter.mpr ⟨List.mem_append_left _ (List.mem_of_getElem? (i := 17) rfl), rfl⟩
theorem wT_yX2_share : Cond.selects yX2_share.cls yX2_share yX2_share ∈ xW := List.mem_filter.mpr ⟨List.mem_append_left _ (List.mem_of_getElem? (i := 18) rfl), rfl⟩
theorem wT_yX2_copy : Cond.selects yX2_copy.cls yX2_copy yX2_copy ∈ xW := List.mem_filter.mpr ⟨List.mem_append_left _ (List.mem_of_getElem? (i := 19) rfl), rfl⟩
theorem wT_yX2_partOf : Cond.selects yX2_partOf.cls yX2_partOf yX2_partOf ∈ xW := List.mem_filter.mpr ⟨List.mem_append_left _ (List.mem_of_getElem? (i := 20) rfl), rfl⟩
theorem wT_yX2_derivedNow : Cond.selects yX2_derivedNow.cls yX2_derivedNow yX2_derivedNow ∈ xW := List.mem_filter.mpr ⟨List.mem_append_left _ (List.mem_of_getElem? (i := 21) rfl), rfl⟩
theorem wT_yX2_derive : Cond.selects yX2_derive.cls yX2_derive yX2_derive ∈ xW := List.mem_filter.mpr ⟨List.mem_append_left _ (List.mem_of_getElem? (i := 22) rfl), rfl⟩
theorem wT_yX2_canMake : Cond.selects yX2_canMake.cls yX2_canMake yX2_canMake ∈ xW := List.mem_filter.mpr ⟨List.mem_append_left _ (List.mem_of_getElem? (i := 23) rfl), rfl⟩
theorem wT_yX2_is : Cond.selects yX2_is.cls yX2_is yX2_is ∈ xW := List.mem_filter.mpr ⟨List.mem_append_left _ (List.mem_of_getElem? (i := 24) rfl), rfl⟩
theorem wT_yX2_shows : Cond.selects yX2_shows.cls yX2_shows yX2_shows ∈ xW := List.mem_filter.mpr ⟨List.mem_append_left _ (List.mem_of_getElem? (i := 25) rfl), rfl⟩
theorem wT_yX2_learn : Cond.selects yX2_learn.cls yX2_learn yX2_learn ∈ xW := List.mem_filter.mpr ⟨List.mem_append_left _ (List.mem_of_getElem? (i := 26) rfl), rfl⟩
theorem wT_yX2_open : Cond.selects yX2_open.cls yX2_open yX2_open ∈ xW := List.mem_filter.mpr ⟨List.mem_append_left _ (List.mem_of_getElem? (i := 27) rfl), rfl⟩
theorem wT_yX2_isGood : Cond.selects yX2_isGood.cls yX2_isGood yX2_isGood ∈ xW := List.mem_filter.mpr ⟨List.mem_append_left _ (List.mem_of_getElem? (i := 28) rfl), rfl⟩
theorem wT_yX2_isBare : Cond.selects yX2_isBare.cls yX2_isBare yX2_isBare ∈ xW := List.mem_filter.mpr ⟨List.mem_append_left _ (List.mem_of_getElem? (i := 29) rfl), rfl⟩
theorem wT_yX2_isFace : Cond.selects yX2_isFace.cls yX2_isFace yX2_isFace ∈ xW := List.mem_filter.mpr ⟨List.mem_append_left _ (List.mem_of_getElem? (i := 30) rfl), rfl⟩
theorem wiX0 : ∀ w ∈ wsX00, w ∈ xW := by decide +kernel
theorem wiX1 : ∀ w ∈ wsX10, w ∈ xW := by decide +kernel
theorem wiX2 : ∀ w ∈ wsX20, w ∈ xW := by decide +kernel
end
section
/-! BASE: my own judgement xV (W, with the writes hidden: only cells from sg_B G on are written), and its rows. G: class numbers, slots, array classes, the law's first own cell, the addresses of the static tables. -/
abbrev sg_G : Type := va_G × (ClassId × ClassId × ClassId) × Nat × (Nat → Nat)
def sg_D (G : sg_G) : va_G := G.1
def sg_I (G : sg_G) : ClassId := G.2.1.1
def sg_Z (G : sg_G) : ClassId := G.2.1.2.1
def sg_Y (G : sg_G) : ClassId := G.2.1.2.2
def sg_B (G : sg_G) : Nat := G.2.2.1
def sg_A (G : sg_G) : Nat → Nat := G.2.2.2
def sg_ty (G : sg_G) : List (ClassId × FieldType) := [(sg_I G, .int), (sg_Z G, .boolean), (sg_Y G, .object sg_term)]
def sg_fr (G : sg_G) : Nat → Prop := fun q => sg_B G ≤ q
def sg_K (G : sg_G) (U : State) : Prop := va_K (sg_D G) vwCl (sg_ty G) U ∧ va_AO sg_term U ∧ ∀ k, k < 5 → va_Z sg_own (sg_nm k) "[I" (.ref (sg_A G k)) (sg_fr G) U U.heap ∧ va_T .int (sg_A G k) (sg_len k) (fun j => .int (sg_tab k j)) (sg_fr G) U U.heap
theorem sg_K.moved {G : sg_G} {u U : State} (hvm : u.vm.Alike U.vm) (hq : ∀ q, q < sg_B G → U.heap[q]? = u.heap[q]?) (h : sg_K G u) : sg_K G U :=
  ⟨h.1.moved hvm, h.2.1.moved hvm, fun k hk => ⟨((h.2.2 k hk).1.moved hvm).kept (fun a _ ha => hq a (Nat.not_le.mp ha)), ((h.2.2 k hk).2.moved hvm).kept (fun a _ ha => hq a (Nat.not_le.mp ha))⟩⟩
/-- an object, an array of ints, of booleans, of terms -/
abbrev ob_ (G : sg_G) (H : Heap) (a ci : Nat) (fs : List Value) : Prop := va_at (sg_D G) vwCl (a, .inr (ci, fs)) H
abbrev ia_ (G : sg_G) (H : Heap) (a n : Nat) (f : Nat → Int32) : Prop := va_at (sg_D G) vwCl (a, .inl (sg_I G, n, .inl f)) H
abbrev za_ (G : sg_G) (H : Heap) (a n : Nat) (f : Nat → Int32) : Prop := va_at (sg_D G) vwCl (a, .inl (sg_Z G, n, .inl f)) H
abbrev ra_ (G : sg_G) (H : Heap) (a n : Nat) (f : Nat → Option Nat) : Prop := va_at (sg_D G) vwCl (a, .inl (sg_Y G, n, .inr (.inr (.inr (.inr f))))) H
theorem x_one {D : va_G} {cl : List vw_C} {q : Nat × va_E} {H : Heap} (h : va_at D cl q H) : va_P D cl [q] H := by
  intro k r hk
  cases k with
  | zero => cases hk; exact h
  | succ k => cases hk
section BASE
variable {p : Program} {l : Launch} {e : Env} {R : Room} {s : State} {m : MethodId} {args : Array Value} {below : List Frame} {meth : Method} {c : Code} {H : Heap} {locs : List Loc} {cells slots : Nat} {Q : State → Prop}
variable {G : sg_G} {cc : ByteArray} {pc : Nat} {ls : Array Slot} {rest : List Value}
def xV (p : Program) (l : Launch) (e : Env) (R : Room) (s : State) (m : MethodId) (args : Array Value) (below : List Frame) (meth : Method) (c : Code) (G : sg_G) (H : Heap) (cells slots : Nat) (Q : State → Prop) (g : JFrame) : Prop :=
  ∀ locs : List Loc, va_S (sg_fr G) s.heap H locs → W p l e R s m args below meth c H locs cells slots Q g
def xE (p : Program) (s : State) (m : MethodId) (args : Array Value) (meth : Method) (c : Code) (G : sg_G) (own : String) (cc : ByteArray) (nL : Nat) (ret : Option FieldType) : Prop :=
  p.tables.exec = Jvm.exec ∧ c.code = cc ∧ c.maxLocals = nL ∧ s.vm.findClass own = some m.cls ∧ (∀ w ∈ xW, w.before args s = true) ∧ meth.sig.returnType = ret ∧ meth.locks = false ∧ sg_K G s ∧ sg_B G ≤ s.heap.size
theorem xl {g g2 : JFrame} (h : ∀ locs, W p l e R s m args below meth c H locs cells slots Q g2 → W p l e R s m args below meth c H locs cells slots Q g) (k : xV p l e R s m args below meth c G H cells slots Q g2) : xV p l e R s m args below meth c G H cells slots Q g := fun locs hS => h locs (k locs hS)
theorem xb {P1 P2 : Prop} {g g1 g2 : JFrame} (h : ∀ locs, (P1 → W p l e R s m args below meth c H locs cells slots Q g1) → (P2 → W p l e R s m args below meth c H locs cells slots Q g2) → W p l e R s m args below meth c H locs cells slots Q g)
    (k1 : P1 → xV p l e R s m args below meth c G H cells slots Q g1) (k2 : P2 → xV p l e R s m args below meth c G H cells slots Q g2) : xV p l e R s m args below meth c G H cells slots Q g := fun locs hS => h locs (fun a => k1 a locs hS) (fun a => k2 a locs hS)
theorem xs {nL pc2 : Nat} {lv' : List (Nat × Value)} {st2 : List Value} {g : JFrame} (h : ∀ locs, (∀ ls' : Array Slot, lv_has ls' nL lv' → W p l e R s m args below meth c H locs cells slots Q (F0 m pc2 ls' st2)) → W p l e R s m args below meth c H locs cells slots Q g)
    (k : ∀ ls' : Array Slot, lv_has ls' nL lv' → xV p l e R s m args below meth c G H cells slots Q (F0 m pc2 ls' st2)) : xV p l e R s m args below meth c G H cells slots Q g := fun locs hS => h locs (fun a b => k a b locs hS)
theorem xw {g : JFrame} {k n : Nat} (h1 : cells ≤ k) (h2 : slots ≤ n) (kk : xV p l e R s m args below meth c G H k n Q g) : xV p l e R s m args below meth c G H cells slots Q g := fun locs hS => W.widen h1 h2 (kk locs hS)
theorem xg {g g2 : JFrame} (h : g = g2) (k : xV p l e R s m args below meth c G H cells slots Q g2) : xV p l e R s m args below meth c G H cells slots Q g := h ▸ k
/-- a reference that may be null: loaded, kept -/
theorem x_aload_nq (hx : p.tables.exec = Jvm.exec) (hb : c.code = cc) {k : Fin 4} {i : Nat} {o : Option Nat} (hdg : decode cc pc = .ok (.aload_n k, 1)) (hi : (k : Nat) = i) (hl : ls[i]? = some (.val (va_rf o)))
    (kk : xV p l e R s m args below meth c G H cells slots Q (F0 m (pc + 1) ls (va_rf o :: rest))) : xV p l e R s m args below meth c G H cells slots Q (F0 m pc ls rest) := by
  cases o with
  | none => exact xl (fun _ => lv_aload_nN hx hb hdg hi hl) kk
  | some a => exact xl (fun _ => lv_aload_n hx hb hdg hi hl) kk
theorem x_aloadq (hx : p.tables.exec = Jvm.exec) (hb : c.code = cc) {i : Nat} {o : Option Nat} (hdg : decode cc pc = .ok (.aload i, 2)) (hl : ls[i]? = some (.val (va_rf o)))
    (kk : xV p l e R s m args below meth c G H cells slots Q (F0 m (pc + 2) ls (va_rf o :: rest))) : xV p l e R s m args below meth c G H cells slots Q (F0 m pc ls rest) := by
  cases o with
  | none => exact xl (fun _ => lv_aloadN hx hb hdg hl) kk
  | some a => exact xl (fun _ => lv_aload hx hb hdg hl) kk
theorem x_astore_nq (hx : p.tables.exec = Jvm.exec) (hb : c.code = cc) {k : Fin 4} {i nL : Nat} {o : Option Nat} {lv lv' : List (Nat × Value)} (hdg : decode cc pc = .ok (.astore_n k, 1)) (hi : (k : Nat) = i) (h : lv_has ls nL lv) (hn : i < nL) (hl : (i, va_rf o) :: lv.filter (fun q => !(q.1 == i) && !(q.1 + 1 == i && q.2.category == 2)) = lv')
    (kk : ∀ ls' : Array Slot, lv_has ls' nL lv' → xV p l e R s m args below meth c G H cells slots Q (F0 m (pc + 1) ls' rest)) : xV p l e R s m args below meth c G H cells slots Q (F0 m pc ls (va_rf o :: rest)) := by
  cases o with
  | none => exact xs (fun _ => lv_astore_nN hx hb hdg hi h hn hl) kk
  | some a => exact xs (fun _ => lv_astore_n hx hb hdg hi h hn hl) kk
theorem x_astoreq (hx : p.tables.exec = Jvm.exec) (hb : c.code = cc) {i nL : Nat} {o : Option Nat} {lv lv' : List (Nat × Value)} (hdg : decode cc pc = .ok (.astore i, 2)) (h : lv_has ls nL lv) (hn : i < nL) (hl : (i, va_rf o) :: lv.filter (fun q => !(q.1 == i) && !(q.1 + 1 == i && q.2.category == 2)) = lv')
    (kk : ∀ ls' : Array Slot, lv_has ls' nL lv' → xV p l e R s m args below meth c G H cells slots Q (F0 m (pc + 2) ls' rest)) : xV p l e R s m args below meth c G H cells slots Q (F0 m pc ls (va_rf o :: rest)) := by
  cases o with
  | none => exact xs (fun _ => lv_astoreN hx hb hdg h hn hl) kk
  | some a => exact xs (fun _ => lv_astore hx hb hdg h hn hl) kk
theorem x_ifnullq (hx : p.tables.exec = Jvm.exec) (hb : c.code = cc) {o : Option Nat} {off : Int} {tgt : Nat} (hdg : decode cc pc = .ok (.ifnull off, 3)) (ht : (pc : Int) + off = (tgt : Int))
    (k1 : o = none → xV p l e R s m args below meth c G H cells slots Q (F0 m tgt ls rest)) (k2 : ∀ a, o = some a → xV p l e R s m args below meth c G H cells slots Q (F0 m (pc + 3) ls rest)) : xV p l e R s m args below meth c G H cells slots Q (F0 m pc ls (va_rf o :: rest)) := by
  cases o with
  | none => exact xl (fun _ => lv_ifnullN hx hb hdg ht) (k1 rfl)
  | some a => exact xl (fun _ => lv_ifnull hx hb hdg) (k2 a rfl)
theorem x_ifnonnullq (hx : p.tables.exec = Jvm.exec) (hb : c.code = cc) {o : Option Nat} {off : Int} {tgt : Nat} (hdg : decode cc pc = .ok (.ifnonnull off, 3)) (ht : (pc : Int) + off = (tgt : Int))
    (k1 : ∀ a, o = some a → xV p l e R s m args below meth c G H cells slots Q (F0 m tgt ls rest)) (k2 : o = none → xV p l e R s m args below meth c G H cells slots Q (F0 m (pc + 3) ls rest)) : xV p l e R s m args below meth c G H cells slots Q (F0 m pc ls (va_rf o :: rest)) := by
  cases o with
  | none => exact xl (fun _ => lv_ifnonnullN hx hb hdg) (k2 rfl)
  | some a => exact xl (fun _ => lv_ifnonnull hx hb hdg ht) (k1 a rfl)
/-- fields -/
theorem x_get (hx : p.tables.exec = Jvm.exec) (hb : c.code = cc) (hts : ∀ w ∈ xW, w.before args s = true) {own ref C : String} (hown : s.vm.findClass own = some m.cls) (hK : sg_K G s) {T : u_T} {N ci index : Nat} (hin : ∀ w ∈ u_ws C T N, w ∈ xW) {a : Nat} {fs : List Value} (ho : ob_ G H a ci fs) (hc : vwCl[ci]? = some (C, T, N)) (k : Nat) (hk : k < N)
    (hlink : Cond.fieldLink own index ref (T k).2.1 (T k).2.2.1 ∈ xW) (hre : (T k).1 = ref) {v : Value} (hv : fs[k]? = some v) (hdg : decode cc pc = .ok (.getfield index, 3)) (kk : xV p l e R s m args below meth c G H cells slots Q (F0 m (pc + 3) ls (v :: rest))) : xV p l e R s m args below meth c G H cells slots Q (F0 m pc ls (.ref a :: rest)) :=
  xl (fun _ => va_get hx hb hts hin hown hK.1 (x_one ho) 0 rfl hc k hk (hts _ hlink) (fun _ h => by rw [← hre]; exact h) hv hdg) kk
theorem x_put (hx : p.tables.exec = Jvm.exec) (hb : c.code = cc) (hts : ∀ w ∈ xW, w.before args s = true) {own ref C : String} (hown : s.vm.findClass own = some m.cls) (hK : sg_K G s) {T : u_T} {N ci index : Nat} (hin : ∀ w ∈ u_ws C T N, w ∈ xW) (ty0 : Nat → FieldType) (hty : ∀ k, k < N → parseFieldDescriptor (T k).2.2.1 = some (ty0 k)) (hnm : ∀ a, a < N → ∀ b, b < N → a ≠ b → (T a).2.1 ≠ (T b).2.1)
    {a : Nat} {fs : List Value} (ho : ob_ G H a ci fs) (hc : vwCl[ci]? = some (C, T, N)) (k : Nat) (hk : k < N) (hlink : Cond.fieldLink own index ref (T k).2.1 (T k).2.2.1 ∈ xW) (hre : (T k).1 = ref) (hfin : (T k).2.2.2 = false) {v : Value} (hn : narrow (ty0 k) v = v) (hfit : fits (ty0 k) v = true) (hl : k < fs.length) (hba : sg_B G ≤ a)
    (hdg : decode cc pc = .ok (.putfield index, 3)) (kk : ∀ H1 : Heap, ob_ G H1 a ci (fs.set k v) → H1.size = H.size → (∀ q, q ≠ a → H1[q]? = H[q]?) → xV p l e R s m args below meth c G H1 cells slots Q (F0 m (pc + 3) ls rest)) : xV p l e R s m args below meth c G H cells slots Q (F0 m pc ls (v :: .ref a :: rest)) := by
  intro locs hS0
  have hap := va_apart (own := own) hts hin ty0 hty hnm hK.1 hc
  obtain ⟨r, h1, cell, q1, q2, q3, q4⟩ := ho
  have hr : r = (C, T, N) := Option.some.inj (h1.symm.trans hc)
  subst hr
  obtain ⟨hS, hfc, kC, hkC, hkind⟩ := hK.1.1 ci _ hc
  obtain ⟨cf, kf, fi, f, hi, hsl⟩ := hS k hk
  have hlay := hts _ (hin _ (u_in_lay hk))
  unfold u_lay at hlay
  rw [if_neg (by rw [hfin]; decide)] at hlay
  have hst := (u_facts hfc hkC (u_lays hts hin hk) hi).1
  have h6 := u_store hfc hkC hkind hlay hi (hty k hk) hn hfit
  refine W.putK hx hb (f := f) ⟨hown, hts _ hlink, ⟨_, _, _, by rw [← hre]; exact hi⟩, hst⟩ (by rw [q2]; exact h6) q1 q3 (by rw [hsl]; exact k2_hasslot (q4 k hk)) rfl rfl hdg fun H' e1 e2 e3 => ?_
  rw [hsl] at e1 ⊢
  exact kk H' ⟨_, hc, t_OB.to (V := updV (vp_V fs) k v) ⟨_, e1, q2, q3, t_set q4 hap hk v⟩ (fun j _ => vp_updV_set hl v j)⟩ e2 e3 _ (hS0.put e2 e3 hba)
theorem x_putF (hx : p.tables.exec = Jvm.exec) (hb : c.code = cc) (hts : ∀ w ∈ xW, w.before args s = true) {own ref C : String} (hown : s.vm.findClass own = some m.cls) (hK : sg_K G s) {T : u_T} {N ci index : Nat} (hin : ∀ w ∈ u_ws C T N, w ∈ xW) (ty0 : Nat → FieldType) (hty : ∀ k, k < N → parseFieldDescriptor (T k).2.2.1 = some (ty0 k)) (hnm : ∀ a, a < N → ∀ b, b < N → a ≠ b → (T a).2.1 ≠ (T b).2.1)
    {a : Nat} {fs : List Value} (ho : ob_ G H a ci fs) (hc : vwCl[ci]? = some (C, T, N)) (k : Nat) (hk : k < N) (hlink : Cond.fieldLink own index ref (T k).2.1 (T k).2.2.1 ∈ xW) (hre : (T k).1 = ref) (hfin : (T k).2.2.2 = true) (hin2 : meth.name = "<init>") (hdecl : (T k).1 = own) {v : Value} (hn : narrow (ty0 k) v = v) (hfit : fits (ty0 k) v = true) (hl : k < fs.length) (hba : sg_B G ≤ a)
    (hdg : decode cc pc = .ok (.putfield index, 3)) (kk : ∀ H1 : Heap, ob_ G H1 a ci (fs.set k v) → H1.size = H.size → (∀ q, q ≠ a → H1[q]? = H[q]?) → xV p l e R s m args below meth c G H1 cells slots Q (F0 m (pc + 3) ls rest)) : xV p l e R s m args below meth c G H cells slots Q (F0 m pc ls (v :: .ref a :: rest)) := by
  intro locs hS0
  have hap := va_apart (own := own) hts hin ty0 hty hnm hK.1 hc
  obtain ⟨r, h1, cell, q1, q2, q3, q4⟩ := ho
  have hr : r = (C, T, N) := Option.some.inj (h1.symm.trans hc)
  subst hr
  obtain ⟨hS, hfc, kC, hkC, hkind⟩ := hK.1.1 ci _ hc
  obtain ⟨cf, kf, fi, f, hi, hsl⟩ := hS k hk
  have hlay := hts _ (hin _ (u_in_lay hk))
  unfold u_lay at hlay
  rw [if_pos hfin] at hlay
  have hst := (u_facts hfc hkC (u_lays hts hin hk) hi).1
  have hcf : m.cls = cf := by
    obtain ⟨_, _, c', _, _, _, -, -, hf', -, -, -, hown2, -⟩ := Cond.laysFinal_spec hlay
    have e1 : c' = cf := by have := hi.symm.trans hf'; simp at this; exact this.1.symm
    rw [hdecl] at hown2
    rw [← e1]; exact Option.some.inj (hown.symm.trans hown2)
  have h6 := u_fits hfc hkC hkind (Or.inr hlay) hi (hty k hk) hn hfit
  refine W.putFinK hx hb hown (hts _ hlink) (by rw [← hre]; exact hi) hst hcf hin2 (by rw [q2]; exact h6) q1 q3 (by rw [hsl]; exact k2_hasslot (q4 k hk)) rfl rfl hdg fun H' e1 e2 e3 => ?_
  rw [hsl] at e1 ⊢
  exact kk H' ⟨_, hc, t_OB.to (V := updV (vp_V fs) k v) ⟨_, e1, q2, q3, t_set q4 hap hk v⟩ (fun j _ => vp_updV_set hl v j)⟩ e2 e3 _ (hS0.put e2 e3 hba)
/-- what is new -/
theorem x_fresh {H0 H1 : Heap} {A : Nat → Prop} {n : Nat} (h : va_S A H0 H locs) (z : H1.size = n) (hn : H.size ≤ n) (o1 : ∀ q, q < H.size → H1[q]? = H[q]?) : va_S A H0 H1 locs :=
  ⟨by rw [z]; exact Nat.le_trans h.1 hn, fun x h1 h2 => (o1 x (Nat.lt_of_lt_of_le h1 h.1)).trans (h.2.1 x h1 h2), h.2.2⟩
theorem x_new (hx : p.tables.exec = Jvm.exec) (hb : c.code = cc) (hts : ∀ w ∈ xW, w.before args s = true) {own C : String} (hown : s.vm.findClass own = some m.cls) (hK : sg_K G s) {T : u_T} {N ci index : Nat} (hin : ∀ w ∈ u_ws C T N, w ∈ xW) (ty : Nat → FieldType) (hty : ∀ k, k < N → parseFieldDescriptor (T k).2.2.1 = some (ty k)) (hcl : Cond.classLink own index C ∈ xW) (hinst : Cond.instantiable C N ∈ xW) (hini : Cond.initialized C ∈ xW)
    (hc : vwCl[ci]? = some (C, T, N)) {fs : List Value} (hfs : ∀ j, j < N → defaultValue (ty j) = vp_V fs j) (hcells : cells + 1 ≤ R.cells) (hslots : slots + N ≤ R.slots) (hdg : decode cc pc = .ok (.new index, 3))
    (kk : ∀ H1 : Heap, ob_ G H1 H.size ci fs → H1.size = H.size + 1 → (∀ q, q < H.size → H1[q]? = H[q]?) → xV p l e R s m args below meth c G H1 (cells + 1) (slots + N) Q (F0 m (pc + 3) ls (.ref H.size :: rest))) : xV p l e R s m args below meth c G H cells slots Q (F0 m pc ls rest) := by
  intro locs hS
  have hKn := hK.1.1 ci _ hc
  refine W.newcK hx hb hown (hts _ hcl) (hts _ hinst) (hts _ hini) rfl hdg hcells hslots hKn.2.1 rfl fun H1 kC hkC e1 z1 o1 => ?_
  exact kk H1 ⟨_, hc, (u_born ty hts hin hKn hkC e1 hty).to hfs⟩ z1 o1 locs (x_fresh hS z1 (Nat.le_succ _) o1)
theorem x_newi (hx : p.tables.exec = Jvm.exec) (hb : c.code = cc) (hts : ∀ w ∈ xW, w.before args s = true) (hK : sg_K G s) (harr : Cond.arrayClass .int ∈ xW) {n : Int32} {N : Nat} (hn : ¬ n < 0) (hN : n.toNatClampNeg = N) (hbytes : N * 4 ≤ 536870912) (hcells : cells + 1 ≤ R.cells) (hslots : slots + N ≤ R.slots) (hdg : decode cc pc = .ok (.newarray .int, 2))
    (kk : ∀ H1 : Heap, ia_ G H1 H.size N (fun _ => 0) → H1.size = H.size + 1 → (∀ q, q < H.size → H1[q]? = H[q]?) → xV p l e R s m args below meth c G H1 (cells + 1) (slots + N) Q (F0 m (pc + 2) ls (.ref H.size :: rest))) : xV p l e R s m args below meth c G H cells slots Q (F0 m pc ls (.int n :: rest)) := by
  intro locs hS
  refine va_newaK (atype := .int) hx hb (hts _ harr) rfl hdg rfl hn hN hbytes hcells hslots rfl fun H1 cA e1 z1 o1 hAr hNm => ?_
  have hcA : cA = sg_I G := Option.some.inj (hNm.symm.trans (hK.1.2 0 (sg_I G, .int) rfl).2)
  subst hcA
  exact kk H1 e1 z1 o1 locs (x_fresh hS z1 (Nat.le_succ _) o1)
theorem x_newz (hx : p.tables.exec = Jvm.exec) (hb : c.code = cc) (hts : ∀ w ∈ xW, w.before args s = true) (hK : sg_K G s) (harr : Cond.arrayClass .boolean ∈ xW) {n : Int32} {N : Nat} (hn : ¬ n < 0) (hN : n.toNatClampNeg = N) (hbytes : N * 1 ≤ 536870912) (hcells : cells + 1 ≤ R.cells) (hslots : slots + N ≤ R.slots) (hdg : decode cc pc = .ok (.newarray .boolean, 2))
    (kk : ∀ H1 : Heap, za_ G H1 H.size N (fun _ => 0) → H1.size = H.size + 1 → (∀ q, q < H.size → H1[q]? = H[q]?) → xV p l e R s m args below meth c G H1 (cells + 1) (slots + N) Q (F0 m (pc + 2) ls (.ref H.size :: rest))) : xV p l e R s m args below meth c G H cells slots Q (F0 m pc ls (.int n :: rest)) := by
  intro locs hS
  refine va_newaK (atype := .boolean) hx hb (hts _ harr) rfl hdg rfl hn hN hbytes hcells hslots rfl fun H1 cA e1 z1 o1 hAr hNm => ?_
  have hcA : cA = sg_Z G := Option.some.inj (hNm.symm.trans (hK.1.2 1 (sg_Z G, .boolean) rfl).2)
  subst hcA
  exact kk H1 e1 z1 o1 locs (x_fresh hS z1 (Nat.le_succ _) o1)
theorem x_newr (hx : p.tables.exec = Jvm.exec) (hb : c.code = cc) (hts : ∀ w ∈ xW, w.before args s = true) {own : String} {index : Nat} (hown : s.vm.findClass own = some m.cls) (hK : sg_K G s) (hcl : Cond.classLink own index sg_term ∈ xW) {n : Int32} {N : Nat} (hn : ¬ n < 0) (hN : n.toNatClampNeg = N) (hbytes : N * 4 ≤ 536870912) (hcells : cells + 1 ≤ R.cells) (hslots : slots + N ≤ R.slots) (hdg : decode cc pc = .ok (.anewarray index, 3))
    (kk : ∀ H1 : Heap, ra_ G H1 H.size N (fun _ => none) → H1.size = H.size + 1 → (∀ q, q < H.size → H1[q]? = H[q]?) → xV p l e R s m args below meth c G H1 (cells + 1) (slots + N) Q (F0 m (pc + 3) ls (.ref H.size :: rest))) : xV p l e R s m args below meth c G H cells slots Q (F0 m pc ls (.int n :: rest)) := by
  intro locs hS
  subst hN
  refine W.anew hx hb hown (hts _ hcl) hK.2.1.use rfl hdg rfl hn hbytes hcells hslots fun cA kA comp h1 h2 h3 h4 => ?_
  obtain ⟨_, _, _, _, _, h5⟩ := (hK.1.2 2 (sg_Y G, .object sg_term) rfl).2
  have hcA : cA = sg_Y G := Option.some.inj (h1.symm.trans h5)
  subst hcA
  have o1 : ∀ q, q < H.size → (H.push { cls := sg_Y G, slots := Array.replicate n.toNatClampNeg .null, vm := .none })[q]? = H[q]? := fun q hq => by
    rw [Array.getElem?_push, if_neg (Nat.ne_of_lt hq)]
  refine kk _ ?_ (by simp) o1 locs (x_fresh hS (n := H.size + 1) (by simp) (Nat.le_succ _) o1)
  show (H.push { cls := sg_Y G, slots := Array.replicate n.toNatClampNeg .null, vm := .none })[H.size]? = some (arrV (sg_Y G) n.toNatClampNeg (fun _ => Value.null))
  rw [← arrV_new]; simp
/-- arrays -/
theorem x_alen (hx : p.tables.exec = Jvm.exec) (hb : c.code = cc) (hK : sg_K G s) {a : Nat} {cA : ClassId} {x : vp_A} (t0 : Nat) {ty : FieldType} (ht : (sg_ty G)[t0]? = some (cA, ty)) (ha : va_at (sg_D G) vwCl (a, .inl (cA, x)) H) {n : Nat} (hv : x.1 = n) (hdg : decode cc pc = .ok (.arraylength, 1))
    (kk : xV p l e R s m args below meth c G H cells slots Q (F0 m (pc + 1) ls (.int (nI n) :: rest))) : xV p l e R s m args below meth c G H cells slots Q (F0 m pc ls (.ref a :: rest)) :=
  xl (fun _ => va_alen hx hb hK.1 (x_one ha) 0 t0 rfl ht (by rw [hv]; rfl) hdg) kk
theorem x_iald (hx : p.tables.exec = Jvm.exec) (hb : c.code = cc) (hK : sg_K G s) {a n : Nat} {f : Nat → Int32} (ha : ia_ G H a n f) {i : Int32} (k : Nat) (hi : i = nI k) (hk : k < n) (hn : n < 2 ^ 31) (hdg : decode cc pc = .ok (.iaload, 1))
    (kk : xV p l e R s m args below meth c G H cells slots Q (F0 m (pc + 1) ls (.int (f k) :: rest))) : xV p l e R s m args below meth c G H cells slots Q (F0 m pc ls (.int i :: .ref a :: rest)) := by
  subst hi
  have e : (nI k).toNatClampNeg = k := nI_clamp (by omega)
  rw [← e] at kk
  exact xl (fun _ => va_iald hx hb hK.1 (x_one ha) 0 0 rfl rfl (vp_in_nI hk hn) hdg) kk
theorem x_zald (hx : p.tables.exec = Jvm.exec) (hb : c.code = cc) (hK : sg_K G s) {a n : Nat} {f : Nat → Int32} (ha : za_ G H a n f) {i : Int32} (k : Nat) (hi : i = nI k) (hk : k < n) (hn : n < 2 ^ 31) (hdg : decode cc pc = .ok (.baload, 1))
    (kk : xV p l e R s m args below meth c G H cells slots Q (F0 m (pc + 1) ls (.int (f k) :: rest))) : xV p l e R s m args below meth c G H cells slots Q (F0 m pc ls (.int i :: .ref a :: rest)) := by
  subst hi
  have e : (nI k).toNatClampNeg = k := nI_clamp (by omega)
  rw [← e] at kk
  exact xl (fun _ => va_zald hx hb hK.1 (x_one ha) 0 1 rfl rfl (vp_in_nI hk hn) hdg) kk
theorem x_aald (hx : p.tables.exec = Jvm.exec) (hb : c.code = cc) (hK : sg_K G s) {a n : Nat} {f : Nat → Option Nat} (ha : ra_ G H a n f) {i : Int32} (k : Nat) (hi : i = nI k) (hk : k < n) (hn : n < 2 ^ 31) (hdg : decode cc pc = .ok (.aaload, 1))
    (kk : xV p l e R s m args below meth c G H cells slots Q (F0 m (pc + 1) ls (va_rf (f k) :: rest))) : xV p l e R s m args below meth c G H cells slots Q (F0 m pc ls (.int i :: .ref a :: rest)) := by
  subst hi
  have e : (nI k).toNatClampNeg = k := nI_clamp (by omega)
  rw [← e] at kk
  exact xl (fun _ => va_aldq hx hb hK.1 (x_one ha) 0 2 rfl rfl (vp_in_nI hk hn) hdg) kk
theorem x_iast (hx : p.tables.exec = Jvm.exec) (hb : c.code = cc) (hK : sg_K G s) {a n : Nat} {f : Nat → Int32} (ha : ia_ G H a n f) {i x : Int32} (k : Nat) (hi : i = nI k) (hk : k < n) (hn : n < 2 ^ 31) (hba : sg_B G ≤ a) (hdg : decode cc pc = .ok (.iastore, 1))
    (kk : ∀ H1 : Heap, ia_ G H1 a n (upd f k x) → H1.size = H.size → (∀ q, q ≠ a → H1[q]? = H[q]?) → xV p l e R s m args below meth c G H1 cells slots Q (F0 m (pc + 1) ls rest)) : xV p l e R s m args below meth c G H cells slots Q (F0 m pc ls (.int x :: .int i :: .ref a :: rest)) := by
  intro locs hS
  subst hi
  have e : (nI k).toNatClampNeg = k := nI_clamp (by omega)
  refine W.iast hx hb ha ((hK.1.2 0 _ rfl).1 n (fun j => .int (f j))) (fun q => by cases q) (by show ¬ (nI k < 0 ∨ (arrV _ _ _).slots.size ≤ _); rw [arrV_size]; exact vp_in_nI hk hn) rfl rfl hdg fun H1 e1 z oq => ?_
  rw [e] at e1 ⊢
  refine kk H1 ?_ z oq _ (hS.put z oq hba)
  show H1[a]? = some (vp_cell _ _)
  rw [e1]
  rw [vp_cell_i, vp_cell_i, arrV_store]
  congr 2
  funext q
  by_cases hq : q = k
  · subst hq
    simp [updV, upd]
  · simp [updV, upd, hq]
theorem x_zast (hx : p.tables.exec = Jvm.exec) (hb : c.code = cc) (hK : sg_K G s) {a n : Nat} {f : Nat → Int32} (ha : za_ G H a n f) {i x : Int32} (k : Nat) (hi : i = nI k) (hk : k < n) (hn : n < 2 ^ 31) (hba : sg_B G ≤ a) (hx1 : x &&& 1 = x) (hdg : decode cc pc = .ok (.bastore, 1))
    (kk : ∀ H1 : Heap, za_ G H1 a n (upd f k x) → H1.size = H.size → (∀ q, q ≠ a → H1[q]? = H[q]?) → xV p l e R s m args below meth c G H1 cells slots Q (F0 m (pc + 1) ls rest)) : xV p l e R s m args below meth c G H cells slots Q (F0 m pc ls (.int x :: .int i :: .ref a :: rest)) := by
  intro locs hS
  subst hi
  have e : (nI k).toNatClampNeg = k := nI_clamp (by omega)
  refine W.zast hx hb ha ((hK.1.2 1 _ rfl).1 n (fun j => .int (f j))) (fun q => by cases q) (by show ¬ (nI k < 0 ∨ (arrV _ _ _).slots.size ≤ _); rw [arrV_size]; exact vp_in_nI hk hn) rfl rfl hdg fun H1 e1 z oq => ?_
  rw [e] at e1 ⊢
  refine kk H1 ?_ z oq _ (hS.put z oq hba)
  show H1[a]? = some (vp_cell _ _)
  rw [e1]
  rw [vp_cell_i, vp_cell_i, arrV_store]
  congr 2
  funext q
  by_cases hq : q = k
  · subst hq
    simp [updV, upd, narrow, hx1]
  · simp [updV, upd, hq]
theorem x_aast (hx : p.tables.exec = Jvm.exec) (hb : c.code = cc) (hK : sg_K G s) {a n : Nat} {f : Nat → Option Nat} (ha : ra_ G H a n f) {o : Option Nat} (ho : ∀ v, o = some v → ∃ fs, ob_ G H v sg_ti fs) {i : Int32} (k : Nat) (hi : i = nI k) (hk : k < n) (hn : n < 2 ^ 31) (hba : sg_B G ≤ a) (hdg : decode cc pc = .ok (.aastore, 1))
    (kk : ∀ H1 : Heap, ra_ G H1 a n (va_up f k o) → H1.size = H.size → (∀ q, q ≠ a → H1[q]? = H[q]?) → xV p l e R s m args below meth c G H1 cells slots Q (F0 m (pc + 1) ls rest)) : xV p l e R s m args below meth c G H cells slots Q (F0 m pc ls (va_rf o :: .int i :: .ref a :: rest)) := by
  intro locs hS
  subst hi
  have e : (nI k).toNatClampNeg = k := nI_clamp (by omega)
  have hin := vp_in_nI hk hn
  cases o with
  | none =>
    refine va_WaastN (C := sg_term) hx hb ha ((hK.1.2 2 _ rfl).1 n (fun j => va_rf (f j))) (fun h => by cases h) (by show ¬ (nI k < 0 ∨ (arrV _ _ _).slots.size ≤ _); rw [arrV_size]; exact hin) rfl rfl hdg fun H1 e1 z oq => ?_
    rw [e] at e1 ⊢
    refine kk H1 ?_ z oq _ (hS.put z oq hba)
    show H1[a]? = some (vp_cell _ _)
    rw [e1]
    rw [vp_cell_q, vp_cell_q, arrV_store]
    congr 2
    funext q
    by_cases hq : q = k
    · subst hq
      simp [updV, va_up, va_rf]
    · simp [updV, va_up, hq]
  | some v =>
    obtain ⟨fs, r', hr', cellV, g1, g2, g3, -⟩ := ho v rfl
    have hcls := (hK.1.1 sg_ti _ sg_ti_ok).2
    obtain ⟨kA, comp, k1, k2, k3, -⟩ := (hK.1.2 2 (sg_Y G, .object sg_term) rfl).2
    have hcomp : comp = (sg_D G).1 sg_ti := Option.some.inj (k3.symm.trans hcls.1)
    subst hcomp
    obtain ⟨kC, hkC, -⟩ := hcls.2
    refine W.aast hx hb ha (fun q h => by cases h) (fun h => by cases h) k1 k2 rfl hkC ⟨fun q => hin (Or.inl q), by show _ < (arrV _ _ _).slots.size; rw [arrV_size, e]; exact hk⟩ g1 (fun q h => by rw [g3] at h; cases h) (by rw [g2]; exact hkC) (by rw [g2]; exact va_assign hcls) rfl rfl hdg fun H1 e1 z oq => ?_
    rw [e] at e1 ⊢
    refine kk H1 ?_ z oq _ (hS.put z oq hba)
    show H1[a]? = some (vp_cell _ _)
    rw [e1]
    rw [vp_cell_q, vp_cell_q, arrV_store]
    congr 2
    funext q
    by_cases hq : q = k
    · subst hq
      simp [updV, va_up, va_rf]
    · simp [updV, va_up, hq]
/-- the class's static tables -/
theorem x_gets (hx : p.tables.exec = Jvm.exec) (hb : c.code = cc) (hts : ∀ w ∈ xW, w.before args s = true) {own : String} {index : Nat} (hown : s.vm.findClass own = some m.cls) (hK : sg_K G s) (k : Nat) (hk : k < 5) (hlink : Cond.fieldLink own index sg_own (sg_nm k) "[I" ∈ xW) (hdg : decode cc pc = .ok (.getstatic index, 3))
    (kk : xV p l e R s m args below meth c G H cells slots Q (F0 m (pc + 3) ls (.ref (sg_A G k) :: rest))) : xV p l e R s m args below meth c G H cells slots Q (F0 m pc ls rest) := fun locs hS =>
  va_gets hx hb (hK.2.2 k hk).1 hS hown (hts _ hlink) (fun _ h => h) hdg (kk locs hS)
theorem x_tlen (hx : p.tables.exec = Jvm.exec) (hb : c.code = cc) (hK : sg_K G s) (k : Nat) (hk : k < 5) (hdg : decode cc pc = .ok (.arraylength, 1))
    (kk : xV p l e R s m args below meth c G H cells slots Q (F0 m (pc + 1) ls (.int (nI (sg_len k)) :: rest))) : xV p l e R s m args below meth c G H cells slots Q (F0 m pc ls (.ref (sg_A G k) :: rest)) := fun locs hS => by
  obtain ⟨cell, h1, h2, h3, h4, h5, h6, h7⟩ := (hK.2.2 k hk).2
  exact W.alen (n := nI (sg_len k)) hx hb (by rw [hS.2.1 _ (Array.getElem?_eq_some_iff.mp h1).1 h7]; exact h1) h2 h5 rfl rfl hdg (kk locs hS)
theorem x_tald (hx : p.tables.exec = Jvm.exec) (hb : c.code = cc) (hK : sg_K G s) (k : Nat) (hk : k < 5) {i : Int32} (j : Nat) (hi : i = nI j) (hj : j < sg_len k) (hn : sg_len k < 2 ^ 31) (hdg : decode cc pc = .ok (.iaload, 1))
    (kk : xV p l e R s m args below meth c G H cells slots Q (F0 m (pc + 1) ls (.int (sg_tab k j) :: rest))) : xV p l e R s m args below meth c G H cells slots Q (F0 m pc ls (.int i :: .ref (sg_A G k) :: rest)) := fun locs hS => by
  subst hi
  exact va_ti hx hb (hK.2.2 k hk).2 hS (vp_in_nI hj hn) (by rw [nI_clamp (by omega)]) hdg (kk locs hS)
end BASE
/-! CONTRACTS over a heap H: the facts about H are hypotheses of the contract's theorem, not of its start -/
def xR (lv mc ms : Nat) : Room := { frames := lv, cells := mc, slots := ms, locals := 40 * lv }
def xQ (G : sg_G) (H : Heap) (Post : Option Value → Heap → Prop) : Array Value → State → Outcome → State → Prop := fun _ _ o t => ∃ v, o = .returned v ∧ Post v t.heap ∧ H.size ≤ t.heap.size ∧ ∀ q, q < sg_B G → t.heap[q]? = H[q]?
def xP (G : sg_G) (H : Heap) (U : State) : Prop := U.heap = H ∧ sg_K G U ∧ sg_B G ≤ H.size
def xC (l : Launch) (G : sg_G) (y : MethodName) (bytes : ByteArray) (maxL : Nat) (ret : Option FieldType) (lv mc ms : Nat) (As : List Value) (H : Heap) (Post : Option Value → Heap → Prop) : Prop :=
  Met l y (.code y bytes maxL ret :: xW) (xR lv mc ms) (va_Pc As (xP G H)) (xQ G H Post) mc ms (sg_fr G)
theorem xC.start {l : Launch} {G : sg_G} {y : MethodName} {bytes : ByteArray} {maxL : Nat} {ret : Option FieldType} {lv mc ms : Nat} {As : List Value} {H : Heap} {Post : Option Value → Heap → Prop} (hy : plainName y.cls = true) (hA : (lg_sl As).length ≤ maxL)
    (body : ∀ (p : Program) (e : Env) (s : State) (m : MethodId) (args : Array Value) (below : List Frame) (meth : Method) (c : Code) (ls : Array Slot), xE p s m args meth c G y.cls bytes maxL ret → meth.name = y.name → s.heap = H → lv_has ls maxL (lv_args 0 As) → xV p l e (xR lv mc ms) s m args below meth c G H 0 0 (MQ below (xQ G H Post) args s mc ms (sg_fr G)) (F0 m 0 ls [])) : xC l G y bytes maxL ret lv mc ms As H Post := by
  refine Met.ofW (cc := bytes) (maxL := maxL) (ret := ret) hy rfl ?_
  intro p e s m args below meth c s₁ B hml hv
  obtain ⟨rfl, hh, hK, hsz⟩ := hv
  have hts := atoms_spec (ws := .code y bytes maxL ret :: xW) B.pre
  have hl := lv_entry As (n := maxL) hA
  rw [lg_entry_eq]
  subst hh
  exact body p e s m _ below meth c _ ⟨B.exec, B.bytes, hml, findClass_of_methodNamed B.named, fun w h => hts w (List.mem_cons_of_mem _ h), B.returns, B.notSynchronized, hK, hsz⟩ (name_of_methodNamed B.named B.method).1 rfl hl [] va_S.rf
section RET
variable {p : Program} {l : Launch} {e : Env} {R : Room} {s : State} {m : MethodId} {args : Array Value} {below : List Frame} {meth : Method} {c : Code} {H H0 : Heap} {cells slots mc ms : Nat}
variable {G : sg_G} {cc : ByteArray} {pc : Nat} {ls : Array Slot} {Post : Option Value → Heap → Prop}
theorem x_post {locs : List Loc} {v : Option Value} (hs0 : s.heap = H0) (hbs : sg_B G ≤ s.heap.size) (hS : va_S (sg_fr G) s.heap H locs) (hp : Post v H) (t : State) (ht : t.heap = H) (a : Array Value) : xQ G H0 Post a s (.returned v) t := by
  subst hs0
  refine ⟨v, rfl, by rw [ht]; exact hp, by rw [ht]; exact hS.1, fun q hq => ?_⟩
  rw [ht]
  exact hS.2.1 q (Nat.lt_of_lt_of_le hq hbs) (Nat.not_le.mpr hq)
theorem x_iret (hx : p.tables.exec = Jvm.exec) (hb : c.code = cc) (hr : meth.sig.returnType = some .int) (hlocks : meth.locks = false) (hs0 : s.heap = H0) (hbs : sg_B G ≤ s.heap.size) {v : Int32} (hc : cells ≤ mc) (hs : slots ≤ ms) (hdg : decode cc pc = .ok (.ireturn, 1)) (hp : Post (some (.int v)) H) :
    xV p l e R s m args below meth c G H cells slots (MQ below (xQ G H0 Post) args s mc ms (sg_fr G)) (F0 m pc ls [.int v]) := fun locs hS =>
  W.widen hc hs (W.iret hx hb hr (fun t ht _ => x_post hs0 hbs hS hp t ht _) hS.2.2 hdg)
theorem x_zret (hx : p.tables.exec = Jvm.exec) (hb : c.code = cc) (hr : meth.sig.returnType = some .boolean) (hlocks : meth.locks = false) (hs0 : s.heap = H0) (hbs : sg_B G ≤ s.heap.size) {v : Int32} (hv : v &&& 1 = v) (hc : cells ≤ mc) (hs : slots ≤ ms) (hdg : decode cc pc = .ok (.ireturn, 1)) (hp : Post (some (.int v)) H) :
    xV p l e R s m args below meth c G H cells slots (MQ below (xQ G H0 Post) args s mc ms (sg_fr G)) (F0 m pc ls [.int v]) := fun locs hS =>
  W.widen hc hs (W.zret hx hb hr (by show Value.int (v &&& 1) = _; rw [hv]) (fun t ht _ => x_post hs0 hbs hS hp t ht _) hS.2.2 hdg)
theorem x_vret (hx : p.tables.exec = Jvm.exec) (hb : c.code = cc) (hr : meth.sig.returnType = none) (hlocks : meth.locks = false) (hs0 : s.heap = H0) (hbs : sg_B G ≤ s.heap.size) (hc : cells ≤ mc) (hs : slots ≤ ms) (hdg : decode cc pc = .ok (.return_, 1)) (hp : Post none H) :
    xV p l e R s m args below meth c G H cells slots (MQ below (xQ G H0 Post) args s mc ms (sg_fr G)) (F0 m pc ls []) := fun locs hS =>
  W.widen hc hs (W.vret hx hb hr (fun t ht _ => x_post hs0 hbs hS hp t ht _) hS.2.2 hdg)
theorem x_aret (hx : p.tables.exec = Jvm.exec) (hb : c.code = cc) {C : String} (hr : meth.sig.returnType = some (.object C)) (hlocks : meth.locks = false) (hs0 : s.heap = H0) (hbs : sg_B G ≤ s.heap.size) {v : Value} (hv : v = .null ∨ ∃ a, v = .ref a) (hc : cells ≤ mc) (hs : slots ≤ ms) (hdg : decode cc pc = .ok (.areturn, 1)) (hp : Post (some v) H) :
    xV p l e R s m args below meth c G H cells slots (MQ below (xQ G H0 Post) args s mc ms (sg_fr G)) (F0 m pc ls [v]) := fun locs hS =>
  W.widen hc hs (W.aret hx hb hr (Or.inl ⟨C, rfl⟩) hv (fun t ht _ => x_post hs0 hbs hS hp t ht _) hS.2.2 hdg)
end RET
section CALLS
variable {p : Program} {l : Launch} {e : Env} {R : Room} {s : State} {m : MethodId} {args : Array Value} {below : List Frame} {meth : Method} {c : Code} {H : Heap} {cells slots : Nat} {Q : State → Prop}
variable {G : sg_G} {cc : ByteArray} {pc : Nat} {ls : Array Slot} {rest st0 : List Value} {Post : Option Value → Heap → Prop}
variable {y : MethodName} {bytes : ByteArray} {maxL nL lv mc ms index : Nat} {ret : Option FieldType} {own : String} {As : List Value} {b : Nat} {ret0 : Option FieldType} {lvs : List (Nat × Value)}
/-- the words that a call needs, of its method -/
def xM (y : MethodName) (bytes : ByteArray) (maxL : Nat) (ret : Option FieldType) (n : Nat) : Prop :=
  Cond.code y bytes maxL ret ∈ xW ∧ Cond.initialized y.cls ∈ xW ∧ (y.cls ≠ "java/lang/invoke/MethodHandle" ∧ y.cls ≠ "java/lang/invoke/VarHandle" ∧ (parseMethodDescriptor y.desc).map (fun d => d.parameters.length) = some n)
theorem x_good (h : Cond.code y bytes maxL ret ∈ xW) : GoodIn xW (.code y bytes maxL ret :: xW) := by
  intro w hw
  rcases List.mem_cons.mp hw with rfl | hw
  · exact ⟨h, Or.inl rfl⟩
  · exact ⟨hw, good_of_word (List.mem_filter.mp hw).2⟩
theorem x_blind {Bs : List Value} : FrameBlind (va_Pc Bs (xP G H)) := by
  intro a U g mk q
  obtain ⟨q0, q1, q2, q3⟩ := q
  exact ⟨q0, q1, sg_K.moved (u := U) (U := U.calling g mk a) (Vm.Alike.refl U.vm) (fun _ _ => rfl) q2, q3⟩
theorem x_pre {Bs : List Value} {locs : List Loc} (hK : sg_K G s) (hbs : sg_B G ≤ s.heap.size) (hS : va_S (sg_fr G) s.heap H locs) (U : State) (hU : U.heap = H) (hW : s.WarmedH U.vm) : va_Pc Bs (xP G H) Bs.toArray U :=
  ⟨rfl, hU, sg_K.moved hW.alike (fun q hq => by rw [hU]; exact hS.2.1 q (Nat.lt_of_lt_of_le hq hbs) (Nat.not_le.mpr hq)) hK, Nat.le_trans hbs hS.1⟩
theorem x_go {ar : Array Value} (hbs : sg_B G ≤ s.heap.size) (hr : ∀ locs, va_S (sg_fr G) s.heap H locs → va_Run p l e R s m args below meth c H locs cells slots mc ms (F0 m pc ls st0) rest (xQ G H Post ar) (sg_fr G))
    (kk : ∀ (v : Option Value) (H1 : Heap), Post v H1 → H.size ≤ H1.size → (∀ q, q < sg_B G → H1[q]? = H[q]?) → xV p l e R s m args below meth c G H1 (cells + mc) (slots + ms) Q (F0 m (pc + 3) ls (v.toList ++ rest))) : xV p l e R s m args below meth c G H cells slots Q (F0 m pc ls st0) := by
  intro locs hS T hT X
  obtain ⟨v, st₀, t, T', L, h0, X', hL, e1, e2, ⟨v', hv, hp, hz, hk⟩, st⟩ := hr locs hS T hT X
  cases hv
  have hS1 : va_S (sg_fr G) s.heap T'.heap (locs ++ L) := by
    refine ⟨by rw [e1]; exact Nat.le_trans hS.1 hz, fun q h1 h2 => ?_, fun q hq => ?_⟩
    · rw [e1, hk q (Nat.not_le.mp h2)]
      exact hS.2.1 q h1 h2
    · rcases List.mem_append.mp hq with h | h
      · exact hS.2.2 q h
      · exact hL q h
  obtain ⟨t2, a1, b1⟩ := kk v T'.heap (by rw [e1]; exact hp) (by rw [e1]; exact hz) (fun q hq => by rw [e1]; exact hk q hq) (locs ++ L) hS1 T' rfl X'
  exact ⟨t2, st t2 a1, b1⟩
theorem x_callV (E : xE p s m args meth c G own cc nL ret0) (hl : lv_has ls nL lvs) (hM : xC l G y bytes maxL ret lv mc ms (.ref b :: As) H Post) (hm : xM y bytes maxL ret As.length) (hlk : Cond.methodLink own index y ∈ xW) (hin : Cond.instanceMethod y ∈ xW) (hse : Cond.selects y.cls y y ∈ xW) {ci : Nat} {fs : List Value} {q : vw_C} (hc : vwCl[ci]? = some q) (hq : q.1 = y.cls) (hob : ob_ G H b ci fs)
    (hst : st0 = As.reverse ++ .ref b :: rest) (hW : (rest.map fun v => v.category).sum ≤ 8) (hR : lv + 1 ≤ R.frames ∧ 8 + (maxL + 11) + 40 * lv ≤ R.locals) (hf : cells + mc ≤ R.cells ∧ slots + ms ≤ R.slots) (hdg : decode cc pc = .ok (.invokevirtual index, 3))
    (kk : ∀ (v : Option Value) (H1 : Heap), Post v H1 → H.size ≤ H1.size → (∀ q, q < sg_B G → H1[q]? = H[q]?) → xV p l e R s m args below meth c G H1 (cells + mc) (slots + ms) Q (F0 m (pc + 3) ls (v.toList ++ rest))) : xV p l e R s m args below meth c G H cells slots Q (F0 m pc ls st0) := by
  obtain ⟨hx, hb, hml, hown, hts, hr, hlocks, hK, hbs⟩ := E
  refine x_go (ar := (Value.ref b :: As).toArray) hbs (fun locs hS => ?_) kk
  refine va_runV ⟨hx, hb, hml, hown, hts⟩ hM ⟨callB_of As.length hts (x_good hm.1) rfl rfl rfl (hts _ hm.2.1) (hts _ hlk) hm.2.2 hR, hts _ hin, hts _ hse⟩ ⟨x_blind, ?_, fun U hU hW => x_pre hK hbs hS U hU hW⟩ rfl rfl hl.1 hst (lv_room hW) hdg hf
  rw [← hq]
  exact va_recv hK.1 (x_one hob) hc (q0 := 0) rfl
theorem x_callS (E : xE p s m args meth c G own cc nL ret0) (hl : lv_has ls nL lvs) (hM : xC l G y bytes maxL ret lv mc ms As H Post) (hm : xM y bytes maxL ret As.length) (hlk : Cond.methodLink own index y ∈ xW) (hstt : Cond.static y ∈ xW)
    (hst : st0 = As.reverse ++ rest) (hW : (rest.map fun v => v.category).sum ≤ 8) (hR : lv + 1 ≤ R.frames ∧ 8 + (maxL + 11) + 40 * lv ≤ R.locals) (hf : cells + mc ≤ R.cells ∧ slots + ms ≤ R.slots) (hdg : decode cc pc = .ok (.invokestatic index, 3))
    (kk : ∀ (v : Option Value) (H1 : Heap), Post v H1 → H.size ≤ H1.size → (∀ q, q < sg_B G → H1[q]? = H[q]?) → xV p l e R s m args below meth c G H1 (cells + mc) (slots + ms) Q (F0 m (pc + 3) ls (v.toList ++ rest))) : xV p l e R s m args below meth c G H cells slots Q (F0 m pc ls st0) := by
  obtain ⟨hx, hb, hml, hown, hts, hr, hlocks, hK, hbs⟩ := E
  refine x_go (ar := As.toArray) hbs (fun locs hS => ?_) kk
  exact va_runS ⟨hx, hb, hml, hown, hts⟩ hM ⟨callB_of As.length hts (x_good hm.1) rfl rfl rfl (hts _ hm.2.1) (hts _ hlk) hm.2.2 hR, hts _ hstt⟩ ⟨x_blind, fun U hU hW => x_pre hK hbs hS U hU hW⟩ rfl rfl hl.1 hst (lv_room hW) hdg hf
theorem x_callI (E : xE p s m args meth c G own cc nL ret0) (hl : lv_has ls nL lvs) (hM : xC l G y bytes maxL none lv mc ms (.ref b :: As) H Post) (hm : xM y bytes maxL none As.length) (hy1 : y.name = "<init>") (hlk : Cond.methodLink own index y ∈ xW) (hin : Cond.instanceMethod y ∈ xW)
    (hst : st0 = As.reverse ++ .ref b :: rest) (hW : (rest.map fun v => v.category).sum ≤ 8) (hR : lv + 1 ≤ R.frames ∧ 8 + (maxL + 11) + 40 * lv ≤ R.locals) (hf : cells + mc ≤ R.cells ∧ slots + ms ≤ R.slots) (hdg : decode cc pc = .ok (.invokespecial index, 3))
    (kk : ∀ (v : Option Value) (H1 : Heap), Post v H1 → H.size ≤ H1.size → (∀ q, q < sg_B G → H1[q]? = H[q]?) → xV p l e R s m args below meth c G H1 (cells + mc) (slots + ms) Q (F0 m (pc + 3) ls (v.toList ++ rest))) : xV p l e R s m args below meth c G H cells slots Q (F0 m pc ls st0) := by
  obtain ⟨hx, hb, hml, hown, hts, hr, hlocks, hK, hbs⟩ := E
  refine x_go (ar := (Value.ref b :: As).toArray) hbs (fun locs hS => ?_) kk
  exact va_runI ⟨hx, hb, hml, hown, hts⟩ hM ⟨callB_of As.length hts (x_good hm.1) rfl rfl rfl (hts _ hm.2.1) (hts _ hlk) hm.2.2 hR, hy1, hts _ hin⟩ ⟨x_blind, fun U hU hW => x_pre hK hbs hS U hU hW⟩ rfl rfl hl.1 hst (lv_room hW) hdg hf
/-- a method that only reads -/
abbrev xPu (r : Value) (H : Heap) : Option Value → Heap → Prop := fun v H' => v = some r ∧ H' = H
theorem x_pure {r : Value} {st1 : List Value} (kk : xV p l e R s m args below meth c G H cells slots Q (F0 m (pc + 3) ls (r :: rest))) : ∀ (v : Option Value) (H1 : Heap), xPu r H v H1 → H.size ≤ H1.size → (∀ q, q < sg_B G → H1[q]? = H[q]?) → xV p l e R s m args below meth c G H1 (cells + 0) (slots + 0) Q (F0 m (pc + 3) ls (v.toList ++ rest)) := by
  intro v H1 ⟨hv, hH⟩ _ _
  subst hv
  subst hH
  exact kk
end CALLS
end
section
/-! PURE: terms, the least closed set, counting. A term: sort, label, its four numbers, its four terms (by their places). -/
abbrev sp_T : Type := Int32 × Int32 × (Nat → Int32) × (Nat → Option Nat)
def sp_so (d : sp_T) : Int32 := d.1
def sp_la (d : sp_T) : Int32 := d.2.1
def sp_nu (d : sp_T) : Nat → Int32 := d.2.2.1
def sp_pa (d : sp_T) : Nat → Option Nat := d.2.2.2
/-- NOTHING counts as in it -/
def sp_in (S : Nat → Prop) (o : Option Nat) : Prop := ∀ j, o = some j → S j
/-- the PUBLIC of s is in it, MADE or not -/
def sp_sh (n : Nat) (t : Nat → sp_T) (S : Nat → Prop) (s : Nat) : Prop := S s ∨ ∃ j, j < n ∧ sp_so (t j) = 2 ∧ sp_pa (t j) 0 = some s ∧ S j
/-- the term d can be made of those in S -/
def sp_mk (n : Nat) (t : Nat → sp_T) (S : Nat → Prop) (d : sp_T) : Prop :=
  (sp_so d = 3 ∧ ∃ a b, sp_pa d 0 = some a ∧ sp_pa d 1 = some b ∧ ((S a ∧ sp_sh n t S b) ∨ (S b ∧ sp_sh n t S a))) ∨
  (sp_so d ≠ 1 ∧ sp_so d ≠ 3 ∧ ∀ k, k < 4 → sp_in S (sp_pa d k))
/-- what comes of the term d, taken apart -/
def sp_an (S : Nat → Prop) (d : sp_T) : Prop :=
  (sp_so d = 7 → ∀ k, k < 4 → sp_in S (sp_pa d k)) ∧ (sp_so d = 5 → sp_in S (sp_pa d 1) ∧ (sp_in S (sp_pa d 0) → sp_in S (sp_pa d 2))) ∧ (sp_so d = 6 → sp_in S (sp_pa d 1))
def sp_cl (n : Nat) (t : Nat → sp_T) (g : Nat → Prop) (S : Nat → Prop) : Prop :=
  (∀ i, i < n → g i → S i) ∧ (∀ i, i < n → S i → sp_an S (t i)) ∧ (∀ i, i < n → sp_mk n t S (t i) → S i)
def sp_der (n : Nat) (t : Nat → sp_T) (g : Nat → Prop) (i : Nat) : Prop := ∀ S : Nat → Prop, sp_cl n t g S → S i
theorem sp_in_mono {S S' : Nat → Prop} (h : ∀ i, S i → S' i) {o : Option Nat} (a : sp_in S o) : sp_in S' o := fun j e => h j (a j e)
theorem sp_sh_mono {n : Nat} {t : Nat → sp_T} {S S' : Nat → Prop} (h : ∀ i, S i → S' i) {s : Nat} (a : sp_sh n t S s) : sp_sh n t S' s := by
  rcases a with a | ⟨j, h1, h2, h3, h4⟩
  · exact Or.inl (h _ a)
  · exact Or.inr ⟨j, h1, h2, h3, h _ h4⟩
theorem sp_mk_mono {n : Nat} {t : Nat → sp_T} {S S' : Nat → Prop} (h : ∀ i, S i → S' i) {d : sp_T} (a : sp_mk n t S d) : sp_mk n t S' d := by
  rcases a with ⟨h1, x, y, h2, h3, h4⟩ | ⟨h1, h2, h3⟩
  · refine Or.inl ⟨h1, x, y, h2, h3, ?_⟩
    rcases h4 with ⟨a, b⟩ | ⟨a, b⟩
    · exact Or.inl ⟨h _ a, sp_sh_mono h b⟩
    · exact Or.inr ⟨h _ a, sp_sh_mono h b⟩
  · exact Or.inr ⟨h1, h2, fun k hk => sp_in_mono h (h3 k hk)⟩
theorem sp_der_le {n : Nat} {t : Nat → sp_T} {g : Nat → Prop} {S : Nat → Prop} (h : sp_cl n t g S) : ∀ i, sp_der n t g i → S i := fun _ a => a S h
theorem sp_der_cl (n : Nat) (t : Nat → sp_T) (g : Nat → Prop) : sp_cl n t g (sp_der n t g) := by
  refine ⟨fun i hi hg S hS => hS.1 i hi hg, fun i hi hd => ⟨fun h7 k hk j e S hS => ?_, fun h5 => ⟨fun j e S hS => ?_, fun hk j e S hS => ?_⟩, fun h6 j e S hS => ?_⟩, fun i hi hm S hS => hS.2.2 i hi (sp_mk_mono (sp_der_le hS) hm)⟩
  · exact (hS.2.1 i hi (hd S hS)).1 h7 k hk j e
  · exact ((hS.2.1 i hi (hd S hS)).2.1 h5).1 j e
  · exact ((hS.2.1 i hi (hd S hS)).2.1 h5).2 (sp_in_mono (sp_der_le hS) hk) j e
  · exact (hS.2.1 i hi (hd S hS)).2.2 h6 j e
/-- what a term is made of was MADE before it -/
def sp_bd (n : Nat) (d : sp_T) : Prop := ∀ k, k < 4 → ∀ j, sp_pa d k = some j → j < n
/-- only what lies below n counts -/
theorem sp_in_low {n : Nat} {S S' : Nat → Prop} (h : ∀ i, i < n → S i → S' i) {d : sp_T} (hb : sp_bd n d) {k : Nat} (hk : k < 4) (a : sp_in S (sp_pa d k)) : sp_in S' (sp_pa d k) := fun j e => h j (hb k hk j e) (a j e)
/-- a new term: nothing else comes to be derived -/
theorem sp_der_new {n : Nat} {t : Nat → sp_T} {g : Nat → Prop} (hbd : ∀ i, i < n → sp_bd n (t i)) {d : sp_T} (hd : sp_bd n d) {t' : Nat → sp_T} (ht : ∀ i, i < n → t' i = t i) (hn : t' n = d) (hg : ¬ g n) :
    (∀ i, i < n → (sp_der (n + 1) t' g i ↔ sp_der n t g i)) ∧ (sp_der (n + 1) t' g n ↔ sp_mk n t (sp_der n t g) d) := by
  have D := sp_der_cl n t g
  have D' := sp_der_cl (n + 1) t' g
  -- the old set is within the new
  have up : ∀ i, i < n → sp_der n t g i → sp_der (n + 1) t' g i := by
    intro i hi h S hS
    have hc : sp_cl n t g (fun j => S j) := by
      refine ⟨fun j hj hgj => hS.1 j (by omega) hgj, fun j hj hs => by have := hS.2.1 j (by omega) hs; rw [ht j hj] at this; exact this, fun j hj hm => hS.2.2 j (by omega) ?_⟩
      rw [ht j hj]
      have sh : ∀ s, sp_sh n t S s → sp_sh (n + 1) t' S s := by
        intro s a
        rcases a with a | ⟨q, h1, h2, h3, h4⟩
        · exact Or.inl a
        · exact Or.inr ⟨q, by omega, by rw [ht q h1]; exact h2, by rw [ht q h1]; exact h3, h4⟩
      rcases hm with ⟨h1, x, y, h2, h3, h4⟩ | hm
      · refine Or.inl ⟨h1, x, y, h2, h3, ?_⟩
        rcases h4 with ⟨a, b⟩ | ⟨a, b⟩
        · exact Or.inl ⟨a, sh _ b⟩
        · exact Or.inr ⟨a, sh _ b⟩
      · exact Or.inr hm
    exact h _ hc
  -- the candidate
  let C : Nat → Prop := fun i => (i < n ∧ sp_der n t g i) ∨ (i = n ∧ sp_mk n t (sp_der n t g) d)
  have low : ∀ i, i < n → C i → sp_der n t g i := by
    intro i hi h
    rcases h with h | h
    · exact h.2
    · omega
  have mkp : sp_mk n t (sp_der n t g) d → sp_so d ≠ 3 → ∀ k, k < 4 → sp_in (sp_der n t g) (sp_pa d k) := by
    intro h h3
    rcases h with h | h
    · exact absurd h.1 h3
    · exact h.2.2
  have shl : ∀ s, s < n → sp_sh (n + 1) t' C s → sp_sh n t (sp_der n t g) s := by
    intro s hs a
    rcases a with a | ⟨q, h1, h2, h3, h4⟩
    · exact Or.inl (low s hs a)
    · by_cases hq : q < n
      · rw [ht q hq] at h2 h3
        exact Or.inr ⟨q, hq, h2, h3, low q hq h4⟩
      · have hqn : q = n := by omega
        subst hqn
        rw [hn] at h2 h3
        rcases h4 with h4 | h4
        · omega
        · exact Or.inl (mkp h4.2 (by rw [h2]; decide) 0 (by omega) s h3)
  have mkl : ∀ x : sp_T, sp_bd n x → sp_mk (n + 1) t' C x → sp_mk n t (sp_der n t g) x := by
    intro x hx h
    rcases h with ⟨h1, a, b, h2, h3, h4⟩ | ⟨h1, h2, h3⟩
    · refine Or.inl ⟨h1, a, b, h2, h3, ?_⟩
      have ha := hx 0 (by omega) a h2
      have hb := hx 1 (by omega) b h3
      rcases h4 with ⟨u, v⟩ | ⟨u, v⟩
      · exact Or.inl ⟨low a ha u, shl b hb v⟩
      · exact Or.inr ⟨low b hb u, shl a ha v⟩
    · exact Or.inr ⟨h1, h2, fun k hk => sp_in_low (fun i hi => low i hi) hx hk (h3 k hk)⟩
  have inC : ∀ x : sp_T, sp_bd n x → ∀ k, k < 4 → sp_in (sp_der n t g) (sp_pa x k) → sp_in C (sp_pa x k) := fun x hx k hk h => sp_in_low (S' := C) (fun i hi a => Or.inl ⟨hi, a⟩) hx hk h
  have inL : ∀ x : sp_T, sp_bd n x → ∀ k, k < 4 → sp_in C (sp_pa x k) → sp_in (sp_der n t g) (sp_pa x k) := fun x hx k hk h => sp_in_low (fun i hi a => low i hi a) hx hk h
  have cC : sp_cl (n + 1) t' g C := by
    refine ⟨fun i hi hgi => ?_, fun i hi hs => ?_, fun i hi hm => ?_⟩
    · by_cases h : i < n
      · exact Or.inl ⟨h, D.1 i h hgi⟩
      · exact absurd (by rw [← show i = n by omega]; exact hgi) hg
    · by_cases h : i < n
      · rw [ht i h]
        have a := D.2.1 i h (low i h hs)
        have hb := hbd i h
        exact ⟨fun h7 k hk => inC _ hb k hk (a.1 h7 k hk), fun h5 => ⟨inC _ hb 1 (by omega) (a.2.1 h5).1, fun hk => inC _ hb 2 (by omega) ((a.2.1 h5).2 (inL _ hb 0 (by omega) hk))⟩, fun h6 => inC _ hb 1 (by omega) (a.2.2 h6)⟩
      · have hin : i = n := by omega
        subst hin
        rw [hn]
        rcases hs with hs | hs
        · omega
        · have q : sp_so d ≠ 3 → ∀ k, k < 4 → sp_in C (sp_pa d k) := fun h3 k hk => inC _ hd k hk (mkp hs.2 h3 k hk)
          exact ⟨fun h7 => q (by rw [h7]; decide), fun h5 => ⟨q (by rw [h5]; decide) 1 (by omega), fun _ => q (by rw [h5]; decide) 2 (by omega)⟩, fun h6 => q (by rw [h6]; decide) 1 (by omega)⟩
    · by_cases h : i < n
      · rw [ht i h] at hm
        exact Or.inl ⟨h, D.2.2 i h (mkl _ (hbd i h) hm)⟩
      · have hin : i = n := by omega
        subst hin
        rw [hn] at hm
        exact Or.inr ⟨rfl, mkl d hd hm⟩
  have shu : ∀ s, s < n → sp_sh n t (sp_der n t g) s → sp_sh (n + 1) t' (sp_der (n + 1) t' g) s := by
    intro s hs a
    rcases a with a | ⟨q, h1, h2, h3, h4⟩
    · exact Or.inl (up s hs a)
    · exact Or.inr ⟨q, by omega, by rw [ht q h1]; exact h2, by rw [ht q h1]; exact h3, up q h1 h4⟩
  refine ⟨fun i hi => ⟨fun h => low i hi (h C cC), up i hi⟩, fun h => ?_, fun h => ?_⟩
  · rcases h C cC with h | h
    · omega
    · exact h.2
  · refine D'.2.2 n (by omega) ?_
    rw [hn]
    rcases h with ⟨h1, x, y, h2, h3, h4⟩ | ⟨h1, h2, h3⟩
    · refine Or.inl ⟨h1, x, y, h2, h3, ?_⟩
      have hx := hd 0 (by omega) x h2
      have hy := hd 1 (by omega) y h3
      rcases h4 with ⟨u, v⟩ | ⟨u, v⟩
      · exact Or.inl ⟨up x hx u, shu y hy v⟩
      · exact Or.inr ⟨up y hy u, shu x hx v⟩
    · exact Or.inr ⟨h1, h2, fun k hk => sp_in_low up hd hk (h3 k hk)⟩
/-- GIVEN one more -/
def sp_gv (g : Nat → Prop) (x : Nat) : Nat → Prop := fun i => g i ∨ i = x
theorem sp_der_gv_mono {n : Nat} {t : Nat → sp_T} {g : Nat → Prop} (x i : Nat) (h : sp_der n t g i) : sp_der n t (sp_gv g x) i := fun S hS => h S ⟨fun j hj hg => hS.1 j hj (Or.inl hg), hS.2⟩
theorem sp_der_gv_old {n : Nat} {t : Nat → sp_T} {g : Nat → Prop} {x : Nat} (hx : sp_der n t g x) (i : Nat) (h : sp_der n t (sp_gv g x) i) : sp_der n t g i := by
  refine h _ ⟨fun j hj hg => ?_, (sp_der_cl n t g).2⟩
  rcases hg with hg | rfl
  · exact (sp_der_cl n t g).1 j hj hg
  · exact hx
theorem sp_der_gv_self {n : Nat} {t : Nat → sp_T} {g : Nat → Prop} {x : Nat} (hx : x < n) : sp_der n t (sp_gv g x) x := fun _ hS => hS.1 x hx (Or.inr rfl)
/-- how many -/
def sp_ct (b : Nat → Bool) : Nat → Nat
  | 0 => 0
  | k + 1 => sp_ct b k + (if b k = true then 1 else 0)
theorem sp_ct_le (b : Nat → Bool) (n : Nat) : sp_ct b n ≤ n := by
  induction n with
  | zero => exact Nat.le_refl _
  | succ k ih =>
    show sp_ct b k + _ ≤ _
    split <;> omega
theorem sp_ct_eq {b b' : Nat → Bool} {n : Nat} (h : ∀ i, i < n → b i = b' i) : sp_ct b n = sp_ct b' n := by
  induction n with
  | zero => rfl
  | succ k ih =>
    show sp_ct b k + _ = sp_ct b' k + _
    rw [ih (fun i hi => h i (by omega)), h k (by omega)]
theorem sp_ct_mono {b b' : Nat → Bool} {n : Nat} (h : ∀ i, i < n → b i = true → b' i = true) : sp_ct b n ≤ sp_ct b' n := by
  induction n with
  | zero => exact Nat.le_refl _
  | succ k ih =>
    have h1 := ih (fun i hi => h i (by omega))
    show sp_ct b k + _ ≤ sp_ct b' k + _
    by_cases hk : b k = true
    · rw [if_pos hk, if_pos (h k (by omega) hk)]; omega
    · rw [if_neg hk]; omega
theorem sp_ct_same {b b' : Nat → Bool} {n : Nat} (h : ∀ i, i < n → b i = true → b' i = true) (hc : sp_ct b' n ≤ sp_ct b n) : ∀ i, i < n → b' i = true → b i = true := by
  induction n with
  | zero => intro i hi; omega
  | succ k ih =>
    have h1 := sp_ct_mono (n := k) (fun i hi => h i (by omega))
    have e : sp_ct b (k + 1) = sp_ct b k + (if b k = true then 1 else 0) := rfl
    have e' : sp_ct b' (k + 1) = sp_ct b' k + (if b' k = true then 1 else 0) := rfl
    intro i hi hb
    by_cases hk : b k = true
    · have hk' := h k (by omega) hk
      rw [if_pos hk] at e
      rw [if_pos hk'] at e'
      by_cases hik : i = k
      · rw [hik]; exact hk
      · exact ih (fun i hi => h i (by omega)) (by omega) i (by omega) hb
    · rw [if_neg hk] at e
      by_cases hk' : b' k = true
      · rw [if_pos hk'] at e'; omega
      · rw [if_neg hk'] at e'
        by_cases hik : i = k
        · rw [hik] at hb; exact absurd hb hk'
        · exact ih (fun i hi => h i (by omega)) (by omega) i (by omega) hb
/-- one more -/
def sp_up (b : Nat → Bool) (x : Nat) : Nat → Bool := fun i => if i = x then true else b i
theorem sp_up_self (b : Nat → Bool) (x : Nat) : sp_up b x x = true := by simp [sp_up]
theorem sp_up_ne (b : Nat → Bool) {x i : Nat} (h : i ≠ x) : sp_up b x i = b i := by simp [sp_up, h]
theorem sp_up_mono (b : Nat → Bool) (x i : Nat) (h : b i = true) : sp_up b x i = true := by
  by_cases e : i = x
  · rw [e]; exact sp_up_self b x
  · rw [sp_up_ne b e]; exact h
theorem sp_up_of {b : Nat → Bool} {x i : Nat} (h : sp_up b x i = true) : i = x ∨ b i = true := by
  by_cases e : i = x
  · exact Or.inl e
  · rw [sp_up_ne b e] at h; exact Or.inr h
theorem sp_ct_up {b : Nat → Bool} {x n : Nat} (hx : x < n) (hb : b x = false) : sp_ct (sp_up b x) n = sp_ct b n + 1 := by
  induction n with
  | zero => omega
  | succ k ih =>
    show sp_ct (sp_up b x) k + _ = sp_ct b k + _ + 1
    by_cases e : x = k
    · subst e
      rw [sp_up_self, if_pos rfl, hb, if_neg (by decide), sp_ct_eq (b := sp_up b x) (b' := b) (fun i hi => sp_up_ne b (by omega))]
    · rw [ih (by omega), sp_up_ne b (Ne.symm e)]; omega
end
section
/-! small pure rows -/
def bI (b : Bool) : Int32 := if b = true then 1 else 0
theorem bI_f {b : Bool} (h : bI b = 0) : b = false := by cases b <;> first | rfl | (exact absurd h (by decide))
theorem bI_t {b : Bool} (h : ¬ bI b = 0) : b = true := by cases b <;> first | rfl | (exact absurd rfl h)
theorem bI_and (b : Bool) : bI b &&& 1 = bI b := by cases b <;> decide
theorem pu1 {B : Bool} {H : Heap} (h : B = true) : xPu (.int (bI B)) H (some (.int 1)) H := ⟨by rw [h]; rfl, rfl⟩
theorem pu0 {B : Bool} {H : Heap} (h : B = false) : xPu (.int (bI B)) H (some (.int 0)) H := ⟨by rw [h]; rfl, rfl⟩
theorem bF {B : Bool} {P : Prop} (h : B = true ↔ P) (n : ¬ P) : B = false := by
  cases B with
  | false => rfl
  | true => exact absurd (h.mp rfl) n
/-- a term object -/
abbrev tob (G : sg_G) (H : Heap) (a : Nat) (so la : Int32) (na pa : Nat) (pl : Int32) (dv fc : Bool) : Prop := ob_ G H a 0 [.int so, .int la, .ref na, .ref pa, .int pl, .int (bI dv), .int (bI fc)]
/-- a part is in what is DERIVED, or NOTHING -/
def pin (G : sg_G) (H : Heap) (o : Option Nat) (B : Bool) : Prop := (o = none → B = true) ∧ ∀ q, o = some q → ∃ (so la : Int32) (na pa : Nat) (pl : Int32) (fc : Bool), tob G H q so la na pa pl B fc
theorem ia_to {G : sg_G} {H : Heap} {a n : Nat} {f g : Nat → Int32} (h : ia_ G H a n f) (e : ∀ j, j < n → f j = g j) : ia_ G H a n g := by
  have h1 : H[a]? = some (arrV (sg_I G) n (fun j => .int (f j))) := h
  show H[a]? = some (arrV (sg_I G) n (fun j => .int (g j)))
  rw [h1]
  congr 1
  unfold arrV
  congr 1
  apply Array.ext
  · simp
  · intro i h1 h2
    simp at h1
    simp [e i h1]
theorem za_to {G : sg_G} {H : Heap} {a n : Nat} {f g : Nat → Int32} (h : za_ G H a n f) (e : ∀ j, j < n → f j = g j) : za_ G H a n g := by
  have h1 : H[a]? = some (arrV (sg_Z G) n (fun j => .int (f j))) := h
  show H[a]? = some (arrV (sg_Z G) n (fun j => .int (g j)))
  rw [h1]
  congr 1
  unfold arrV
  congr 1
  apply Array.ext
  · simp
  · intro i h1 h2
    simp at h1
    simp [e i h1]
theorem ra_to {G : sg_G} {H : Heap} {a n : Nat} {f g : Nat → Option Nat} (h : ra_ G H a n f) (e : ∀ j, j < n → f j = g j) : ra_ G H a n g := by
  have h1 : H[a]? = some (arrV (sg_Y G) n (fun j => va_rf (f j))) := h
  show H[a]? = some (arrV (sg_Y G) n (fun j => va_rf (g j)))
  rw [h1]
  congr 1
  unfold arrV
  congr 1
  apply Array.ext
  · simp
  · intro i h1 h2
    simp at h1
    simp [e i h1]
theorem nI_le4 {i : Nat} (h : i < 2 ^ 31) {n : Nat} (hn : n < 2 ^ 31) (c : nI n ≤ nI i) : n ≤ i := (nI_leI hn h).mp c
theorem nI_nle4 {i : Nat} (h : i < 2 ^ 31) {n : Nat} (hn : n < 2 ^ 31) (c : ¬ nI n ≤ nI i) : i < n := Nat.not_le.mp fun q => c ((nI_leI hn h).mpr q)
theorem cat_rf (o : Option Nat) : (va_rf o).category = 1 := by cases o <;> rfl
theorem cat_int (x : Int32) : (Value.int x).category = 1 := rfl
theorem cat_ref (x : Nat) : (Value.ref x).category = 1 := rfl
theorem cat_null : (Value.null).category = 1 := rfl
end
section
theorem xm_yX1_init : xM yX1_init cX1_init 1 none 0 := ⟨wC_yX1_init, wZ_X1, by decide +kernel⟩
theorem xm_yX1_secret : xM yX1_secret cX1_secret 2 (some FieldType.int) 1 := ⟨wC_yX1_secret, wZ_X1, by decide +kernel⟩
theorem xm_yX1_plainTerm : xM yX1_plainTerm cX1_plainTerm 7 (some (FieldType.object "TermSpread$Term")) 5 := ⟨wC_yX1_plainTerm, wZ_X1, by decide +kernel⟩
theorem xm_yX0_init : xM yX0_init cX0_init 5 none 4 := ⟨wC_yX0_init, wZ_X0, by decide +kernel⟩
theorem xm_yX1_makeInto : xM yX1_makeInto cX1_makeInto 4 (some FieldType.int) 2 := ⟨wC_yX1_makeInto, wZ_X1, by decide +kernel⟩
theorem xm_yX1_isRegister : xM yX1_isRegister cX1_isRegister 1 (some FieldType.boolean) 1 := ⟨wC_yX1_isRegister, wZ_X1, by decide +kernel⟩
theorem xm_yX1_findLike : xM yX1_findLike cX1_findLike 4 (some (FieldType.object "TermSpread$Term")) 1 := ⟨wC_yX1_findLike, wZ_X1, by decide +kernel⟩
theorem xm_yX0_isMadeLike : xM yX0_isMadeLike cX0_isMadeLike 3 (some FieldType.boolean) 1 := ⟨wC_yX0_isMadeLike, wZ_X0, by decide +kernel⟩
theorem xm_yX0_partAt : xM yX0_partAt cX0_partAt 2 (some (FieldType.object "TermSpread$Term")) 1 := ⟨wC_yX0_partAt, wZ_X0, by decide +kernel⟩
theorem xm_yX0_numberAt : xM yX0_numberAt cX0_numberAt 2 (some FieldType.int) 1 := ⟨wC_yX0_numberAt, wZ_X0, by decide +kernel⟩
theorem xm_yX1_keep : xM yX1_keep cX1_keep 2 (some (FieldType.object "TermSpread$Term")) 1 := ⟨wC_yX1_keep, wZ_X1, by decide +kernel⟩
theorem xm_yX0_canBeMadeByAttacker : xM yX0_canBeMadeByAttacker cX0_canBeMadeByAttacker 2 (some FieldType.boolean) 0 := ⟨wC_yX0_canBeMadeByAttacker, wZ_X0, by decide +kernel⟩
theorem xm_yX0_canAgree : xM yX0_canAgree cX0_canAgree 2 (some FieldType.boolean) 2 := ⟨wC_yX0_canAgree, wZ_X0, by decide +kernel⟩
theorem xm_yX0_isPartIn : xM yX0_isPartIn cX0_isPartIn 3 (some FieldType.boolean) 1 := ⟨wC_yX0_isPartIn, wZ_X0, by decide +kernel⟩
theorem xm_yX1_derive : xM yX1_derive cX1_derive 3 none 1 := ⟨wC_yX1_derive, wZ_X1, by decide +kernel⟩
theorem xm_yX1_putInto : xM yX1_putInto cX1_putInto 3 (some FieldType.int) 2 := ⟨wC_yX1_putInto, wZ_X1, by decide +kernel⟩
theorem xm_yX1_face : xM yX1_face cX1_face 4 (some FieldType.int) 2 := ⟨wC_yX1_face, wZ_X1, by decide +kernel⟩
theorem xm_yX1_termOfSort : xM yX1_termOfSort cX1_termOfSort 4 (some (FieldType.object "TermSpread$Term")) 2 := ⟨wC_yX1_termOfSort, wZ_X1, by decide +kernel⟩
theorem xm_yX1_termIn : xM yX1_termIn cX1_termIn 2 (some (FieldType.object "TermSpread$Term")) 1 := ⟨wC_yX1_termIn, wZ_X1, by decide +kernel⟩
theorem xm_yX1_shared : xM yX1_shared cX1_shared 4 (some FieldType.int) 3 := ⟨wC_yX1_shared, wZ_X1, by decide +kernel⟩
theorem xm_yX1_makeSharedInto : xM yX1_makeSharedInto cX1_makeSharedInto 5 (some FieldType.int) 3 := ⟨wC_yX1_makeSharedInto, wZ_X1, by decide +kernel⟩
theorem xm_yX1_agreed : xM yX1_agreed cX1_agreed 5 (some FieldType.int) 3 := ⟨wC_yX1_agreed, wZ_X1, by decide +kernel⟩
theorem xm_yX1_mix : xM yX1_mix cX1_mix 6 (some FieldType.int) 4 := ⟨wC_yX1_mix, wZ_X1, by decide +kernel⟩
theorem xm_yX1_isTermOrNothing : xM yX1_isTermOrNothing cX1_isTermOrNothing 2 (some FieldType.boolean) 1 := ⟨wC_yX1_isTermOrNothing, wZ_X1, by decide +kernel⟩
theorem xm_yX1_sealed : xM yX1_sealed cX1_sealed 8 (some FieldType.int) 4 := ⟨wC_yX1_sealed, wZ_X1, by decide +kernel⟩
theorem xm_yX1_signed : xM yX1_signed cX1_signed 6 (some FieldType.int) 3 := ⟨wC_yX1_signed, wZ_X1, by decide +kernel⟩
theorem xm_yX1_row : xM yX1_row cX1_row 3 (some FieldType.int) 2 := ⟨wC_yX1_row, wZ_X1, by decide +kernel⟩
theorem xm_yX1_isKind : xM yX1_isKind cX1_isKind 1 (some FieldType.boolean) 1 := ⟨wC_yX1_isKind, wZ_X1, by decide +kernel⟩
theorem xm_yX1_alter : xM yX1_alter cX1_alter 6 (some FieldType.int) 4 := ⟨wC_yX1_alter, wZ_X1, by decide +kernel⟩
theorem xm_yX1_isSlot : xM yX1_isSlot cX1_isSlot 1 (some FieldType.boolean) 1 := ⟨wC_yX1_isSlot, wZ_X1, by decide +kernel⟩
theorem xm_yX0_withNumber : xM yX0_withNumber cX0_withNumber 5 (some (FieldType.object "TermSpread$Term")) 2 := ⟨wC_yX0_withNumber, wZ_X0, by decide +kernel⟩
theorem xm_yX0_withLabel : xM yX0_withLabel cX0_withLabel 2 (some (FieldType.object "TermSpread$Term")) 1 := ⟨wC_yX0_withLabel, wZ_X0, by decide +kernel⟩
theorem xm_yX1_swap : xM yX1_swap cX1_swap 6 (some FieldType.int) 4 := ⟨wC_yX1_swap, wZ_X1, by decide +kernel⟩
theorem xm_yX0_withPart : xM yX0_withPart cX0_withPart 5 (some (FieldType.object "TermSpread$Term")) 2 := ⟨wC_yX0_withPart, wZ_X0, by decide +kernel⟩
theorem xm_yX1_part : xM yX1_part cX1_part 5 (some FieldType.int) 3 := ⟨wC_yX1_part, wZ_X1, by decide +kernel⟩
theorem xm_yX1_give : xM yX1_give cX1_give 4 (some FieldType.int) 1 := ⟨wC_yX1_give, wZ_X1, by decide +kernel⟩
theorem xm_yX1_spread : xM yX1_spread cX1_spread 4 none 0 := ⟨wC_yX1_spread, wZ_X1, by decide +kernel⟩
theorem xm_yX1_takeAllApart : xM yX1_takeAllApart cX1_takeAllApart 3 none 0 := ⟨wC_yX1_takeAllApart, wZ_X1, by decide +kernel⟩
theorem xm_yX1_takeApart : xM yX1_takeApart cX1_takeApart 3 none 1 := ⟨wC_yX1_takeApart, wZ_X1, by decide +kernel⟩
theorem xm_yX1_putAllTogether : xM yX1_putAllTogether cX1_putAllTogether 3 none 0 := ⟨wC_yX1_putAllTogether, wZ_X1, by decide +kernel⟩
theorem xm_yX1_derived : xM yX1_derived cX1_derived 3 (some FieldType.int) 1 := ⟨wC_yX1_derived, wZ_X1, by decide +kernel⟩
theorem xm_yX1_same : xM yX1_same cX1_same 5 (some FieldType.int) 2 := ⟨wC_yX1_same, wZ_X1, by decide +kernel⟩
theorem xm_yX1_good : xM yX1_good cX1_good 3 (some FieldType.int) 1 := ⟨wC_yX1_good, wZ_X1, by decide +kernel⟩
theorem xm_yX1_hasGoodNumbers : xM yX1_hasGoodNumbers cX1_hasGoodNumbers 4 (some FieldType.boolean) 1 := ⟨wC_yX1_hasGoodNumbers, wZ_X1, by decide +kernel⟩
theorem xm_yX1_placeInTable : xM yX1_placeInTable cX1_placeInTable 2 (some FieldType.int) 2 := ⟨wC_yX1_placeInTable, wZ_X1, by decide +kernel⟩
theorem xm_yX1_hasGoodTerms : xM yX1_hasGoodTerms cX1_hasGoodTerms 5 (some FieldType.boolean) 1 := ⟨wC_yX1_hasGoodTerms, wZ_X1, by decide +kernel⟩
theorem xm_yX1_fits : xM yX1_fits cX1_fits 2 (some FieldType.boolean) 2 := ⟨wC_yX1_fits, wZ_X1, by decide +kernel⟩
theorem xm_yX1_about : xM yX1_about cX1_about 4 (some FieldType.int) 2 := ⟨wC_yX1_about, wZ_X1, by decide +kernel⟩
theorem xm_yX1_count : xM yX1_count cX1_count 2 (some FieldType.int) 1 := ⟨wC_yX1_count, wZ_X1, by decide +kernel⟩
theorem xm_yX2_init : xM yX2_init cX2_init 1 none 0 := ⟨wC_yX2_init, wZ_X2, by decide +kernel⟩
theorem xm_yX2_secret : xM yX2_secret cX2_secret 2 (some FieldType.int) 1 := ⟨wC_yX2_secret, wZ_X2, by decide +kernel⟩
theorem xm_yX2_isRegister : xM yX2_isRegister cX2_isRegister 1 (some FieldType.boolean) 1 := ⟨wC_yX2_isRegister, wZ_X2, by decide +kernel⟩
theorem xm_yX2_put : xM yX2_put cX2_put 8 (some FieldType.int) 5 := ⟨wC_yX2_put, wZ_X2, by decide +kernel⟩
theorem xm_yX2_isLike : xM yX2_isLike cX2_isLike 8 (some FieldType.boolean) 5 := ⟨wC_yX2_isLike, wZ_X2, by decide +kernel⟩
theorem xm_yX2_face : xM yX2_face cX2_face 3 (some FieldType.int) 2 := ⟨wC_yX2_face, wZ_X2, by decide +kernel⟩
theorem xm_yX2_has : xM yX2_has cX2_has 3 (some FieldType.boolean) 2 := ⟨wC_yX2_has, wZ_X2, by decide +kernel⟩
theorem xm_yX2_holds : xM yX2_holds cX2_holds 2 (some FieldType.boolean) 1 := ⟨wC_yX2_holds, wZ_X2, by decide +kernel⟩
theorem xm_yX2_shared : xM yX2_shared cX2_shared 4 (some FieldType.int) 3 := ⟨wC_yX2_shared, wZ_X2, by decide +kernel⟩
theorem xm_yX2_share : xM yX2_share cX2_share 4 (some FieldType.int) 3 := ⟨wC_yX2_share, wZ_X2, by decide +kernel⟩
theorem xm_yX2_agreed : xM yX2_agreed cX2_agreed 4 (some FieldType.int) 3 := ⟨wC_yX2_agreed, wZ_X2, by decide +kernel⟩
theorem xm_yX2_mix : xM yX2_mix cX2_mix 5 (some FieldType.int) 4 := ⟨wC_yX2_mix, wZ_X2, by decide +kernel⟩
theorem xm_yX2_sealed : xM yX2_sealed cX2_sealed 5 (some FieldType.int) 4 := ⟨wC_yX2_sealed, wZ_X2, by decide +kernel⟩
theorem xm_yX2_signed : xM yX2_signed cX2_signed 4 (some FieldType.int) 3 := ⟨wC_yX2_signed, wZ_X2, by decide +kernel⟩
theorem xm_yX2_row : xM yX2_row cX2_row 4 (some FieldType.int) 2 := ⟨wC_yX2_row, wZ_X2, by decide +kernel⟩
theorem xm_yX2_alter : xM yX2_alter cX2_alter 5 (some FieldType.int) 4 := ⟨wC_yX2_alter, wZ_X2, by decide +kernel⟩
theorem xm_yX2_copy : xM yX2_copy cX2_copy 3 none 1 := ⟨wC_yX2_copy, wZ_X2, by decide +kernel⟩
theorem xm_yX2_swap : xM yX2_swap cX2_swap 5 (some FieldType.int) 4 := ⟨wC_yX2_swap, wZ_X2, by decide +kernel⟩
theorem xm_yX2_part : xM yX2_part cX2_part 5 (some FieldType.int) 3 := ⟨wC_yX2_part, wZ_X2, by decide +kernel⟩
theorem xm_yX2_partOf : xM yX2_partOf cX2_partOf 3 (some FieldType.int) 2 := ⟨wC_yX2_partOf, wZ_X2, by decide +kernel⟩
theorem xm_yX2_give : xM yX2_give cX2_give 3 (some FieldType.int) 1 := ⟨wC_yX2_give, wZ_X2, by decide +kernel⟩
theorem xm_yX2_derivedNow : xM yX2_derivedNow cX2_derivedNow 3 (some FieldType.int) 0 := ⟨wC_yX2_derivedNow, wZ_X2, by decide +kernel⟩
theorem xm_yX2_derive : xM yX2_derive cX2_derive 3 none 0 := ⟨wC_yX2_derive, wZ_X2, by decide +kernel⟩
theorem xm_yX2_canMake : xM yX2_canMake cX2_canMake 4 (some FieldType.boolean) 1 := ⟨wC_yX2_canMake, wZ_X2, by decide +kernel⟩
theorem xm_yX2_is : xM yX2_is cX2_is 2 (some FieldType.boolean) 1 := ⟨wC_yX2_is, wZ_X2, by decide +kernel⟩
theorem xm_yX2_shows : xM yX2_shows cX2_shows 4 (some FieldType.boolean) 1 := ⟨wC_yX2_shows, wZ_X2, by decide +kernel⟩
theorem xm_yX2_learn : xM yX2_learn cX2_learn 2 (some FieldType.boolean) 1 := ⟨wC_yX2_learn, wZ_X2, by decide +kernel⟩
theorem xm_yX2_open : xM yX2_open cX2_open 4 (some FieldType.boolean) 1 := ⟨wC_yX2_open, wZ_X2, by decide +kernel⟩
theorem xm_yX2_derived : xM yX2_derived cX2_derived 2 (some FieldType.int) 1 := ⟨wC_yX2_derived, wZ_X2, by decide +kernel⟩
theorem xm_yX2_same : xM yX2_same cX2_same 3 (some FieldType.int) 2 := ⟨wC_yX2_same, wZ_X2, by decide +kernel⟩
theorem xm_yX2_good : xM yX2_good cX2_good 2 (some FieldType.int) 1 := ⟨wC_yX2_good, wZ_X2, by decide +kernel⟩
theorem xm_yX2_isGood : xM yX2_isGood cX2_isGood 7 (some FieldType.boolean) 1 := ⟨wC_yX2_isGood, wZ_X2, by decide +kernel⟩
theorem xm_yX2_in : xM yX2_in cX2_in 3 (some FieldType.boolean) 3 := ⟨wC_yX2_in, wZ_X2, by decide +kernel⟩
theorem xm_yX2_isBare : xM yX2_isBare cX2_isBare 6 (some FieldType.boolean) 3 := ⟨wC_yX2_isBare, wZ_X2, by decide +kernel⟩
theorem xm_yX2_isFace : xM yX2_isFace cX2_isFace 2 (some FieldType.boolean) 1 := ⟨wC_yX2_isFace, wZ_X2, by decide +kernel⟩
theorem xm_yX2_about : xM yX2_about cX2_about 4 (some FieldType.int) 2 := ⟨wC_yX2_about, wZ_X2, by decide +kernel⟩
theorem xm_yX2_count : xM yX2_count cX2_count 2 (some FieldType.int) 1 := ⟨wC_yX2_count, wZ_X2, by decide +kernel⟩
end
section
set_option maxHeartbeats 4000000 in
set_option maxRecDepth 100000 in
theorem c_X0_numberAt (l : Launch) (G : sg_G) (H : Heap) (a na pa : Nat) (so la pl : Int32) (dv fc : Bool) (f : Nat → Int32) (hO : tob G H a so la na pa pl dv fc) (hN : ia_ G H na 4 f) (j : Nat) (hj : j < 4) : xC l G yX0_numberAt cX0_numberAt 2 (some FieldType.int) 0 0 0 [.ref a, .int (nI j)] H (xPu (.int (f j)) H) := by
  refine xC.start (by decide) (Nat.le_of_ble_eq_true rfl) ?_
  intro p e s m args below meth c ls E hnm hs0 hl
  obtain ⟨hx, hb, hml, hown, hts, hr, hlocks, hK, hbs⟩ := id E
  have hl : lv_has ls 2 [(0, .ref a), (1, .int (nI j))] := hl
  refine xl (fun _ => lv_iload_n hx hb dX0_numberAt_0 rfl (lv_at hl 1 rfl)) ?_
  refine xb (fun _ => lv_if_lt (tgt := 22) hx hb dX0_numberAt_1 (by decide)) (fun c_1 => ?_) (fun c_1 => ?_)
  · exact absurd c_1 (nI_pos (by omega))
  · refine xl (fun _ => lv_iload_n hx hb dX0_numberAt_4 rfl (lv_at hl 1 rfl)) ?_
    refine xl (fun _ => lv_aload_n hx hb dX0_numberAt_5 rfl (lv_at hl 0 rfl)) ?_
    refine x_get (ci := 0) hx hb hts hown hK wiX0 hO rfl 2 (by decide) wFX0_18 rfl rfl dX0_numberAt_6 ?_
    refine x_alen (n := 4) hx hb hK 0 rfl hN rfl dX0_numberAt_9 ?_
    refine xb (fun _ => lv_icmp_ge (tgt := 22) hx hb dX0_numberAt_10 (by decide)) (fun c_10 => ?_) (fun c_10 => ?_)
    · exact absurd c_10 (nI_ge hj (by decide))
    · refine xl (fun _ => lv_aload_n hx hb dX0_numberAt_13 rfl (lv_at hl 0 rfl)) ?_
      refine x_get (ci := 0) hx hb hts hown hK wiX0 hO rfl 2 (by decide) wFX0_18 rfl rfl dX0_numberAt_14 ?_
      refine xl (fun _ => lv_iload_n hx hb dX0_numberAt_17 rfl (lv_at hl 1 rfl)) ?_
      refine x_iald hx hb hK hN j (rfl) (by omega) (by decide) dX0_numberAt_18 ?_
      refine xl (fun _ => lv_goto (tgt := 23) hx hb dX0_numberAt_19 (by decide)) ?_
      exact x_iret hx hb hr hlocks hs0 hbs (by decide) (by decide) dX0_numberAt_23 (⟨rfl, rfl⟩)

set_option maxHeartbeats 4000000 in
set_option maxRecDepth 100000 in
theorem c_X0_partAt (l : Launch) (G : sg_G) (H : Heap) (a na pa : Nat) (so la pl : Int32) (dv fc : Bool) (g : Nat → Option Nat) (hO : tob G H a so la na pa pl dv fc) (hP : ra_ G H pa 4 g) (j : Nat) (hj : j < 4) : xC l G yX0_partAt cX0_partAt 2 (some (FieldType.object "TermSpread$Term")) 0 0 0 [.ref a, .int (nI j)] H (xPu (va_rf (g j)) H) := by
  refine xC.start (by decide) (Nat.le_of_ble_eq_true rfl) ?_
  intro p e s m args below meth c ls E hnm hs0 hl
  obtain ⟨hx, hb, hml, hown, hts, hr, hlocks, hK, hbs⟩ := id E
  have hl : lv_has ls 2 [(0, .ref a), (1, .int (nI j))] := hl
  refine xl (fun _ => lv_iload_n hx hb dX0_partAt_0 rfl (lv_at hl 1 rfl)) ?_
  refine xb (fun _ => lv_if_lt (tgt := 22) hx hb dX0_partAt_1 (by decide)) (fun c_1 => ?_) (fun c_1 => ?_)
  · exact absurd c_1 (nI_pos (by omega))
  · refine xl (fun _ => lv_iload_n hx hb dX0_partAt_4 rfl (lv_at hl 1 rfl)) ?_
    refine xl (fun _ => lv_aload_n hx hb dX0_partAt_5 rfl (lv_at hl 0 rfl)) ?_
    refine x_get (ci := 0) hx hb hts hown hK wiX0 hO rfl 3 (by decide) wFX0_22 rfl rfl dX0_partAt_6 ?_
    refine x_alen (n := 4) hx hb hK 2 rfl hP rfl dX0_partAt_9 ?_
    refine xb (fun _ => lv_icmp_ge (tgt := 22) hx hb dX0_partAt_10 (by decide)) (fun c_10 => ?_) (fun c_10 => ?_)
    · exact absurd c_10 (nI_ge hj (by decide))
    · refine xl (fun _ => lv_aload_n hx hb dX0_partAt_13 rfl (lv_at hl 0 rfl)) ?_
      refine x_get (ci := 0) hx hb hts hown hK wiX0 hO rfl 3 (by decide) wFX0_22 rfl rfl dX0_partAt_14 ?_
      refine xl (fun _ => lv_iload_n hx hb dX0_partAt_17 rfl (lv_at hl 1 rfl)) ?_
      refine x_aald hx hb hK hP j (rfl) (by omega) (by decide) dX0_partAt_18 ?_
      refine xl (fun _ => lv_goto (tgt := 23) hx hb dX0_partAt_19 (by decide)) ?_
      exact x_aret hx hb hr hlocks hs0 hbs (va_rf_or _) (by decide) (by decide) dX0_partAt_23 (⟨rfl, rfl⟩)

set_option maxHeartbeats 4000000 in
set_option maxRecDepth 100000 in
theorem c_X0_isPartIn (l : Launch) (G : sg_G) (H : Heap) (a na pa : Nat) (so la pl : Int32) (dv fc : Bool) (g : Nat → Option Nat) (hO : tob G H a so la na pa pl dv fc) (hP : ra_ G H pa 4 g) (j : Nat) (hj : j < 4) (B : Bool) (hI : pin G H (g j) B) : xC l G yX0_isPartIn cX0_isPartIn 3 (some FieldType.boolean) 1 0 0 [.ref a, .int (nI j)] H (xPu (.int (bI B)) H) := by
  refine xC.start (by decide) (Nat.le_of_ble_eq_true rfl) ?_
  intro p e s m args below meth c ls E hnm hs0 hl
  obtain ⟨hx, hb, hml, hown, hts, hr, hlocks, hK, hbs⟩ := id E
  have hl : lv_has ls 3 [(0, .ref a), (1, .int (nI j))] := hl
  refine xl (fun _ => lv_aload_n hx hb dX0_isPartIn_0 rfl (lv_at hl 0 rfl)) ?_
  refine xl (fun _ => lv_iload_n hx hb dX0_isPartIn_1 rfl (lv_at hl 1 rfl)) ?_
  refine x_callV E hl (c_X0_partAt l G H a na pa so la pl dv fc g hO hP j (hj)) xm_yX0_partAt wMX0_43 wI_yX0_partAt wT_yX0_partAt (ci := 0) rfl rfl hO (rest := []) rfl (by decide) (by decide) ⟨by decide, by decide⟩ dX0_isPartIn_2 (x_pure (r := va_rf (g j)) (st1 := []) ?_)
  refine x_astore_nq (i := 2) (lv' := [(2, va_rf (g j)), (0, .ref a), (1, .int (nI j))]) hx hb dX0_isPartIn_5 rfl hl (by decide) (rfl) (fun ls hl => ?_)
  refine x_aload_nq hx hb dX0_isPartIn_6 rfl (lv_at hl 0 rfl) ?_
  refine x_ifnullq (tgt := 17) hx hb dX0_isPartIn_7 (by decide) (fun c_7 => ?_) (fun q_7 c_7 => ?_)
  · refine xl (fun _ => lv_iconst (v := 1) hx hb dX0_isPartIn_17 (by decide)) ?_
    refine xl (fun _ => lv_goto (tgt := 22) hx hb dX0_isPartIn_18 (by decide)) ?_
    exact x_zret hx hb hr hlocks hs0 hbs (by decide) (by decide) (by decide) dX0_isPartIn_22 (pu1 (hI.1 c_7))
  · obtain ⟨so2, la2, na2, pa2, pl2, fc2, hO2⟩ := hI.2 _ c_7
    have hl : lv_has ls 3 [(2, .ref q_7), (0, .ref a), (1, .int (nI j))] := by rw [c_7] at hl; exact hl
    refine xl (fun _ => lv_aload_n hx hb dX0_isPartIn_10 rfl (lv_at hl 0 rfl)) ?_
    refine x_get (ci := 0) hx hb hts hown hK wiX0 hO2 rfl 5 (by decide) wFX0_29 rfl rfl dX0_isPartIn_11 ?_
    refine xb (fun _ => lv_if_eq (tgt := 21) hx hb dX0_isPartIn_14 (by decide)) (fun c_14 => ?_) (fun c_14 => ?_)
    · have c_14 := bI_f c_14
      refine xl (fun _ => lv_iconst (v := 0) hx hb dX0_isPartIn_21 (by decide)) ?_
      exact x_zret hx hb hr hlocks hs0 hbs (by decide) (by decide) (by decide) dX0_isPartIn_22 (pu0 c_14)
    · have c_14 := bI_t c_14
      refine xl (fun _ => lv_iconst (v := 1) hx hb dX0_isPartIn_17 (by decide)) ?_
      refine xl (fun _ => lv_goto (tgt := 22) hx hb dX0_isPartIn_18 (by decide)) ?_
      exact x_zret hx hb hr hlocks hs0 hbs (by decide) (by decide) (by decide) dX0_isPartIn_22 (pu1 c_14)

set_option maxHeartbeats 4000000 in
set_option maxRecDepth 100000 in
theorem c_X0_canAgree (l : Launch) (G : sg_G) (H : Heap) (a b na pa nb pb : Nat) (so la pl so2 la2 pl2 : Int32) (dv fc dv2 fc2 : Bool) (hO : tob G H a so la na pa pl dv fc) (hO2 : tob G H b so2 la2 nb pb pl2 dv2 fc2) : xC l G yX0_canAgree cX0_canAgree 2 (some FieldType.boolean) 0 0 0 [.ref a, .ref b] H (xPu (.int (bI (dv && fc2))) H) := by
  refine xC.start (by decide) (Nat.le_of_ble_eq_true rfl) ?_
  intro p e s m args below meth c ls E hnm hs0 hl
  obtain ⟨hx, hb, hml, hown, hts, hr, hlocks, hK, hbs⟩ := id E
  have hl : lv_has ls 2 [(0, .ref a), (1, .ref b)] := hl
  refine xl (fun _ => lv_aload_n hx hb dX0_canAgree_0 rfl (lv_at hl 0 rfl)) ?_
  refine xl (fun _ => lv_ifnull hx hb dX0_canAgree_1) ?_
  refine xl (fun _ => lv_aload_n hx hb dX0_canAgree_4 rfl (lv_at hl 1 rfl)) ?_
  refine xl (fun _ => lv_ifnull hx hb dX0_canAgree_5) ?_
  refine xl (fun _ => lv_aload_n hx hb dX0_canAgree_8 rfl (lv_at hl 0 rfl)) ?_
  refine x_get (ci := 0) hx hb hts hown hK wiX0 hO rfl 5 (by decide) wFX0_29 rfl rfl dX0_canAgree_9 ?_
  refine xb (fun _ => lv_if_eq (tgt := 26) hx hb dX0_canAgree_12 (by decide)) (fun c_12 => ?_) (fun c_12 => ?_)
  · have c_12 := bI_f c_12
    refine xl (fun _ => lv_iconst (v := 0) hx hb dX0_canAgree_26 (by decide)) ?_
    exact x_zret hx hb hr hlocks hs0 hbs (by decide) (by decide) (by decide) dX0_canAgree_27 (pu0 (by rw [c_12]; rfl))
  · have c_12 := bI_t c_12
    refine xl (fun _ => lv_aload_n hx hb dX0_canAgree_15 rfl (lv_at hl 1 rfl)) ?_
    refine x_get (ci := 0) hx hb hts hown hK wiX0 hO2 rfl 6 (by decide) wFX0_33 rfl rfl dX0_canAgree_16 ?_
    refine xb (fun _ => lv_if_eq (tgt := 26) hx hb dX0_canAgree_19 (by decide)) (fun c_19 => ?_) (fun c_19 => ?_)
    · have c_19 := bI_f c_19
      refine xl (fun _ => lv_iconst (v := 0) hx hb dX0_canAgree_26 (by decide)) ?_
      exact x_zret hx hb hr hlocks hs0 hbs (by decide) (by decide) (by decide) dX0_canAgree_27 (pu0 (by rw [c_19]; cases dv <;> rfl))
    · have c_19 := bI_t c_19
      refine xl (fun _ => lv_iconst (v := 1) hx hb dX0_canAgree_22 (by decide)) ?_
      refine xl (fun _ => lv_goto (tgt := 27) hx hb dX0_canAgree_23 (by decide)) ?_
      exact x_zret hx hb hr hlocks hs0 hbs (by decide) (by decide) (by decide) dX0_canAgree_27 (pu1 (by rw [c_12, c_19]; rfl))

set_option maxHeartbeats 4000000 in
set_option maxRecDepth 100000 in
theorem c_X0_canBeMade (l : Launch) (G : sg_G) (H : Heap) (a na pa : Nat) (so la pl : Int32) (dv fc : Bool) (g : Nat → Option Nat) (hO : tob G H a so la na pa pl dv fc) (hP : ra_ G H pa 4 g) (B : Bool) (h1 : so = 1 → B = false) (h3 : so = 3 → ∃ (q0 q1 n0 p0 n1 p1 : Nat) (s0 l0 k0 s1 l1 k1 : Int32) (dv0 fc0 dv1 fc1 : Bool), g 0 = some q0 ∧ g 1 = some q1 ∧ tob G H q0 s0 l0 n0 p0 k0 dv0 fc0 ∧ tob G H q1 s1 l1 n1 p1 k1 dv1 fc1 ∧ B = ((dv0 && fc1) || (dv1 && fc0))) (h : ¬ so = 1 → ¬ so = 3 → ∃ b : Nat → Bool, (∀ k, k < 4 → pin G H (g k) (b k)) ∧ B = (b 0 && b 1 && b 2 && b 3)) : xC l G yX0_canBeMadeByAttacker cX0_canBeMadeByAttacker 2 (some FieldType.boolean) 2 0 0 [.ref a] H (xPu (.int (bI B)) H) := by
  refine xC.start (by decide) (Nat.le_of_ble_eq_true rfl) ?_
  intro p e s m args below meth c ls E hnm hs0 hl
  obtain ⟨hx, hb, hml, hown, hts, hr, hlocks, hK, hbs⟩ := id E
  have hl : lv_has ls 2 [(0, .ref a)] := hl
  refine xl (fun _ => lv_aload_n hx hb dX0_canBeMadeByAttacker_0 rfl (lv_at hl 0 rfl)) ?_
  refine x_get (ci := 0) hx hb hts hown hK wiX0 hO rfl 0 (by decide) wFX0_9 rfl rfl dX0_canBeMadeByAttacker_1 ?_
  refine xl (fun _ => lv_iconst (v := 1) hx hb dX0_canBeMadeByAttacker_4 (by decide)) ?_
  refine xb (fun _ => lv_icmp_ne (tgt := 10) hx hb dX0_canBeMadeByAttacker_5 (by decide)) (fun c_5 => ?_) (fun c_5 => ?_)
  · refine xl (fun _ => lv_aload_n hx hb dX0_canBeMadeByAttacker_10 rfl (lv_at hl 0 rfl)) ?_
    refine x_get (ci := 0) hx hb hts hown hK wiX0 hO rfl 0 (by decide) wFX0_9 rfl rfl dX0_canBeMadeByAttacker_11 ?_
    refine xl (fun _ => lv_iconst (v := 3) hx hb dX0_canBeMadeByAttacker_14 (by decide)) ?_
    refine xb (fun _ => lv_icmp_ne (tgt := 56) hx hb dX0_canBeMadeByAttacker_15 (by decide)) (fun c_15 => ?_) (fun c_15 => ?_)
    · obtain ⟨b, hb4, hB⟩ := h c_5 c_15
      refine xl (fun _ => lv_iconst (v := 0) hx hb dX0_canBeMadeByAttacker_56 (by decide)) ?_
      refine xs (fun _ => lv_istore_n (i := 1) (lv' := [(1, .int 0), (0, .ref a)]) hx hb dX0_canBeMadeByAttacker_57 rfl hl (by decide) (rfl)) (fun ls hl => ?_)
      have hloop : ∀ (d : Nat) (i : Nat), i ≤ 4 → 4 < i + d → (∀ k, k < i → b k = true) → ∀ (ls : Array Slot), lv_has ls 2 [(1, .int (nI i)), (0, .ref a)] → xV p l e (xR 2 0 0) s m args below meth c G H 0 0 (MQ below (xQ G H (xPu (.int (bI B)) H)) args s 0 0 (sg_fr G)) (F0 m 58 ls []) := by
        intro d
        induction d with
        | zero =>
          intro i h1 h2
          exact absurd h2 (by omega)
        | succ d ih =>
          intro i hi hd hall ls hl
          refine xl (fun _ => lv_iload_n hx hb dX0_canBeMadeByAttacker_58 rfl (lv_at hl 0 rfl)) ?_
          refine xl (fun _ => lv_iconst (v := 4) hx hb dX0_canBeMadeByAttacker_59 (by decide)) ?_
          refine xb (fun _ => lv_icmp_ge (tgt := 79) hx hb dX0_canBeMadeByAttacker_60 (by decide)) (fun c_60 => ?_) (fun c_60 => ?_)
          · have e4 : i = 4 := by have := nI_le4 (n := 4) (by omega) (by decide) c_60; omega
            have hall : B = true := by rw [hB, hall 0 (by omega), hall 1 (by omega), hall 2 (by omega), hall 3 (by omega)]; rfl
            refine xl (fun _ => lv_iconst (v := 1) hx hb dX0_canBeMadeByAttacker_79 (by decide)) ?_
            exact x_zret hx hb hr hlocks hs0 hbs (by decide) (by decide) (by decide) dX0_canBeMadeByAttacker_80 (pu1 hall)
          · have hi4 : i < 4 := nI_nle4 (n := 4) (by omega) (by decide) c_60
            refine xl (fun _ => lv_aload_n hx hb dX0_canBeMadeByAttacker_63 rfl (lv_at hl 1 rfl)) ?_
            refine xl (fun _ => lv_iload_n hx hb dX0_canBeMadeByAttacker_64 rfl (lv_at hl 0 rfl)) ?_
            refine x_callV E hl (c_X0_isPartIn l G H a na pa so la pl dv fc g hO hP i hi4 (b i) (hb4 i hi4)) xm_yX0_isPartIn wMX0_51 wI_yX0_isPartIn wT_yX0_isPartIn (ci := 0) rfl rfl hO (rest := []) rfl (by decide) (by decide) ⟨by decide, by decide⟩ dX0_canBeMadeByAttacker_65 (x_pure (r := .int (bI (b i))) (st1 := []) ?_)
            refine xb (fun _ => lv_if_ne (tgt := 73) hx hb dX0_canBeMadeByAttacker_68 (by decide)) (fun c_68 => ?_) (fun c_68 => ?_)
            · have c_68 := bI_t c_68
              refine xs (fun _ => lv_iinc (v := (nI (i + 1))) (lv' := [(1, .int (nI (i + 1))), (0, .ref a)]) hx hb dX0_canBeMadeByAttacker_73 hl (k := 0) rfl (nI_1 i) (by decide) (rfl)) (fun ls hl => ?_)
              refine xl (fun _ => lv_goto (tgt := 58) hx hb dX0_canBeMadeByAttacker_76 (by decide)) ?_
              exact ih (i + 1) (by omega) (by omega) (fun k hk => by by_cases e : k = i; (rw [e]; exact c_68); exact hall k (by omega)) ls (lv_sub hl [0, 1] rfl)
            · have c_68 := bI_f c_68
              have hno : B = false := by rw [hB]; rcases (show i = 0 ∨ i = 1 ∨ i = 2 ∨ i = 3 by omega) with rfl | rfl | rfl | rfl <;> (rw [c_68]; cases b 0 <;> cases b 1 <;> cases b 2 <;> rfl)
              refine xl (fun _ => lv_iconst (v := 0) hx hb dX0_canBeMadeByAttacker_71 (by decide)) ?_
              exact x_zret hx hb hr hlocks hs0 hbs (by decide) (by decide) (by decide) dX0_canBeMadeByAttacker_72 (pu0 hno)
      exact hloop 5 0 (by decide) (by decide) (fun k hk => absurd hk (Nat.not_lt_zero k)) ls (lv_sub hl [0, 1] rfl)
    · obtain ⟨q0, q1, n0, p0, n1, p1, s0, l0, k0, s1, l1, k1, dv0, fc0, dv1, fc1, hg0, hg1, hO0, hO1, hB⟩ := h3 c_15
      refine xl (fun _ => lv_aload_n hx hb dX0_canBeMadeByAttacker_18 rfl (lv_at hl 0 rfl)) ?_
      refine xl (fun _ => lv_iconst (v := 0) hx hb dX0_canBeMadeByAttacker_19 (by decide)) ?_
      refine x_callV E hl (c_X0_partAt l G H a na pa so la pl dv fc g hO hP 0 (by decide)) xm_yX0_partAt wMX0_43 wI_yX0_partAt wT_yX0_partAt (ci := 0) rfl rfl hO (rest := []) rfl (by decide) (by decide) ⟨by decide, by decide⟩ dX0_canBeMadeByAttacker_20 (x_pure (r := va_rf (g 0)) (st1 := []) ?_)
      refine xg (g2 := F0 m 23 ls [.ref q0]) (by rw [hg0]; rfl) ?_
      refine xl (fun _ => lv_aload_n hx hb dX0_canBeMadeByAttacker_23 rfl (lv_at hl 0 rfl)) ?_
      refine xl (fun _ => lv_iconst (v := 1) hx hb dX0_canBeMadeByAttacker_24 (by decide)) ?_
      refine x_callV E hl (c_X0_partAt l G H a na pa so la pl dv fc g hO hP 1 (by decide)) xm_yX0_partAt wMX0_43 wI_yX0_partAt wT_yX0_partAt (ci := 0) rfl rfl hO (rest := [.ref q0]) rfl (by simp [cat_rf, cat_int, cat_ref, cat_null]) (by decide) ⟨by decide, by decide⟩ dX0_canBeMadeByAttacker_25 (x_pure (r := va_rf (g 1)) (st1 := []) ?_)
      refine xg (g2 := F0 m 28 ls [.ref q1, .ref q0]) (by rw [hg1]; rfl) ?_
      refine x_callS E hl (c_X0_canAgree l G H q0 q1 n0 p0 n1 p1 s0 l0 k0 s1 l1 k1 dv0 fc0 dv1 fc1 hO0 hO1) xm_yX0_canAgree wMX0_47 wS_yX0_canAgree (rest := []) rfl (by decide) (by decide) ⟨by decide, by decide⟩ dX0_canBeMadeByAttacker_28 (x_pure (r := .int (bI (dv0 && fc1))) (st1 := []) ?_)
      refine xb (fun _ => lv_if_ne (tgt := 50) hx hb dX0_canBeMadeByAttacker_31 (by decide)) (fun c_31 => ?_) (fun c_31 => ?_)
      · have c_31 := bI_t c_31
        refine xl (fun _ => lv_iconst (v := 1) hx hb dX0_canBeMadeByAttacker_50 (by decide)) ?_
        refine xl (fun _ => lv_goto (tgt := 55) hx hb dX0_canBeMadeByAttacker_51 (by decide)) ?_
        exact x_zret hx hb hr hlocks hs0 hbs (by decide) (by decide) (by decide) dX0_canBeMadeByAttacker_55 (pu1 (by rw [hB, c_31]; rfl))
      · have c_31 := bI_f c_31
        refine xl (fun _ => lv_aload_n hx hb dX0_canBeMadeByAttacker_34 rfl (lv_at hl 0 rfl)) ?_
        refine xl (fun _ => lv_iconst (v := 1) hx hb dX0_canBeMadeByAttacker_35 (by decide)) ?_
        refine x_callV E hl (c_X0_partAt l G H a na pa so la pl dv fc g hO hP 1 (by decide)) xm_yX0_partAt wMX0_43 wI_yX0_partAt wT_yX0_partAt (ci := 0) rfl rfl hO (rest := []) rfl (by decide) (by decide) ⟨by decide, by decide⟩ dX0_canBeMadeByAttacker_36 (x_pure (r := va_rf (g 1)) (st1 := []) ?_)
        refine xg (g2 := F0 m 39 ls [.ref q1]) (by rw [hg1]; rfl) ?_
        refine xl (fun _ => lv_aload_n hx hb dX0_canBeMadeByAttacker_39 rfl (lv_at hl 0 rfl)) ?_
        refine xl (fun _ => lv_iconst (v := 0) hx hb dX0_canBeMadeByAttacker_40 (by decide)) ?_
        refine x_callV E hl (c_X0_partAt l G H a na pa so la pl dv fc g hO hP 0 (by decide)) xm_yX0_partAt wMX0_43 wI_yX0_partAt wT_yX0_partAt (ci := 0) rfl rfl hO (rest := [.ref q1]) rfl (by simp [cat_rf, cat_int, cat_ref, cat_null]) (by decide) ⟨by decide, by decide⟩ dX0_canBeMadeByAttacker_41 (x_pure (r := va_rf (g 0)) (st1 := []) ?_)
        refine xg (g2 := F0 m 44 ls [.ref q0, .ref q1]) (by rw [hg0]; rfl) ?_
        refine x_callS E hl (c_X0_canAgree l G H q1 q0 n1 p1 n0 p0 s1 l1 k1 s0 l0 k0 dv1 fc1 dv0 fc0 hO1 hO0) xm_yX0_canAgree wMX0_47 wS_yX0_canAgree (rest := []) rfl (by decide) (by decide) ⟨by decide, by decide⟩ dX0_canBeMadeByAttacker_44 (x_pure (r := .int (bI (dv1 && fc0))) (st1 := []) ?_)
        refine xb (fun _ => lv_if_eq (tgt := 54) hx hb dX0_canBeMadeByAttacker_47 (by decide)) (fun c_47 => ?_) (fun c_47 => ?_)
        · have c_47 := bI_f c_47
          refine xl (fun _ => lv_iconst (v := 0) hx hb dX0_canBeMadeByAttacker_54 (by decide)) ?_
          exact x_zret hx hb hr hlocks hs0 hbs (by decide) (by decide) (by decide) dX0_canBeMadeByAttacker_55 (pu0 (by rw [hB, c_31, c_47]; rfl))
        · have c_47 := bI_t c_47
          refine xl (fun _ => lv_iconst (v := 1) hx hb dX0_canBeMadeByAttacker_50 (by decide)) ?_
          refine xl (fun _ => lv_goto (tgt := 55) hx hb dX0_canBeMadeByAttacker_51 (by decide)) ?_
          exact x_zret hx hb hr hlocks hs0 hbs (by decide) (by decide) (by decide) dX0_canBeMadeByAttacker_55 (pu1 (by rw [hB, c_31, c_47]; rfl))
  · refine xl (fun _ => lv_iconst (v := 0) hx hb dX0_canBeMadeByAttacker_8 (by decide)) ?_
    exact x_zret hx hb hr hlocks hs0 hbs (by decide) (by decide) (by decide) dX0_canBeMadeByAttacker_9 (pu0 (h1 c_5))

set_option maxHeartbeats 4000000 in
set_option maxRecDepth 100000 in
theorem c_X0_isMadeLike (l : Launch) (G : sg_G) (H : Heap) (a na pa : Nat) (so la pl : Int32) (dv fc : Bool) (a2 na2 pa2 : Nat) (so2 la2 pl2 : Int32) (dv2 fc2 : Bool) (f f2 : Nat → Int32) (g g2 : Nat → Option Nat) (hO : tob G H a so la na pa pl dv fc) (hN : ia_ G H na 4 f) (hP : ra_ G H pa 4 g) (hO2 : tob G H a2 so2 la2 na2 pa2 pl2 dv2 fc2) (hN2 : ia_ G H na2 4 f2) (hP2 : ra_ G H pa2 4 g2) (B : Bool) (hB : B = true ↔ (¬ so = 1 ∧ so = so2 ∧ la = la2 ∧ ∀ k, k < 4 → g k = g2 k ∧ f k = f2 k)) : xC l G yX0_isMadeLike cX0_isMadeLike 3 (some FieldType.boolean) 1 0 0 [.ref a, .ref a2] H (xPu (.int (bI B)) H) := by
  refine xC.start (by decide) (Nat.le_of_ble_eq_true rfl) ?_
  intro p e s m args below meth c ls E hnm hs0 hl
  obtain ⟨hx, hb, hml, hown, hts, hr, hlocks, hK, hbs⟩ := id E
  have hl : lv_has ls 3 [(0, .ref a), (1, .ref a2)] := hl
  refine xl (fun _ => lv_aload_n hx hb dX0_isMadeLike_0 rfl (lv_at hl 0 rfl)) ?_
  refine x_get (ci := 0) hx hb hts hown hK wiX0 hO rfl 0 (by decide) wFX0_9 rfl rfl dX0_isMadeLike_1 ?_
  refine xl (fun _ => lv_iconst (v := 1) hx hb dX0_isMadeLike_4 (by decide)) ?_
  refine xb (fun _ => lv_icmp_eq (tgt := 30) hx hb dX0_isMadeLike_5 (by decide)) (fun c_5 => ?_) (fun c_5 => ?_)
  · refine xl (fun _ => lv_iconst (v := 0) hx hb dX0_isMadeLike_30 (by decide)) ?_
    exact x_zret hx hb hr hlocks hs0 hbs (by decide) (by decide) (by decide) dX0_isMadeLike_31 (pu0 (bF hB (fun z => z.1 c_5)))
  · refine xl (fun _ => lv_aload_n hx hb dX0_isMadeLike_8 rfl (lv_at hl 0 rfl)) ?_
    refine x_get (ci := 0) hx hb hts hown hK wiX0 hO rfl 0 (by decide) wFX0_9 rfl rfl dX0_isMadeLike_9 ?_
    refine xl (fun _ => lv_aload_n hx hb dX0_isMadeLike_12 rfl (lv_at hl 1 rfl)) ?_
    refine x_get (ci := 0) hx hb hts hown hK wiX0 hO2 rfl 0 (by decide) wFX0_9 rfl rfl dX0_isMadeLike_13 ?_
    refine xb (fun _ => lv_icmp_ne (tgt := 30) hx hb dX0_isMadeLike_16 (by decide)) (fun c_16 => ?_) (fun c_16 => ?_)
    · refine xl (fun _ => lv_iconst (v := 0) hx hb dX0_isMadeLike_30 (by decide)) ?_
      exact x_zret hx hb hr hlocks hs0 hbs (by decide) (by decide) (by decide) dX0_isMadeLike_31 (pu0 (bF hB (fun z => c_16 z.2.1)))
    · refine xl (fun _ => lv_aload_n hx hb dX0_isMadeLike_19 rfl (lv_at hl 0 rfl)) ?_
      refine x_get (ci := 0) hx hb hts hown hK wiX0 hO rfl 1 (by decide) wFX0_15 rfl rfl dX0_isMadeLike_20 ?_
      refine xl (fun _ => lv_aload_n hx hb dX0_isMadeLike_23 rfl (lv_at hl 1 rfl)) ?_
      refine x_get (ci := 0) hx hb hts hown hK wiX0 hO2 rfl 1 (by decide) wFX0_15 rfl rfl dX0_isMadeLike_24 ?_
      refine xb (fun _ => lv_icmp_eq (tgt := 32) hx hb dX0_isMadeLike_27 (by decide)) (fun c_27 => ?_) (fun c_27 => ?_)
      · refine xl (fun _ => lv_iconst (v := 0) hx hb dX0_isMadeLike_32 (by decide)) ?_
        refine xs (fun _ => lv_istore_n (i := 2) (lv' := [(2, .int 0), (0, .ref a), (1, .ref a2)]) hx hb dX0_isMadeLike_33 rfl hl (by decide) (rfl)) (fun ls hl => ?_)
        have hloop : ∀ (d : Nat) (i : Nat), i ≤ 4 → 4 < i + d → (∀ k, k < i → g k = g2 k ∧ f k = f2 k) → ∀ (ls : Array Slot), lv_has ls 3 [(2, .int (nI i)), (0, .ref a), (1, .ref a2)] → xV p l e (xR 1 0 0) s m args below meth c G H 0 0 (MQ below (xQ G H (xPu (.int (bI B)) H)) args s 0 0 (sg_fr G)) (F0 m 34 ls []) := by
          intro d
          induction d with
          | zero =>
            intro i h1 h2
            exact absurd h2 (by omega)
          | succ d ih =>
            intro i hi hd hall ls hl
            refine xl (fun _ => lv_iload_n hx hb dX0_isMadeLike_34 rfl (lv_at hl 0 rfl)) ?_
            refine xl (fun _ => lv_iconst (v := 4) hx hb dX0_isMadeLike_35 (by decide)) ?_
            refine xb (fun _ => lv_icmp_ge (tgt := 73) hx hb dX0_isMadeLike_36 (by decide)) (fun c_36 => ?_) (fun c_36 => ?_)
            · have e4 : i = 4 := by have := nI_le4 (n := 4) (by omega) (by decide) c_36; omega
              refine xl (fun _ => lv_iconst (v := 1) hx hb dX0_isMadeLike_73 (by decide)) ?_
              exact x_zret hx hb hr hlocks hs0 hbs (by decide) (by decide) (by decide) dX0_isMadeLike_74 (pu1 (hB.mpr ⟨c_5, c_16, c_27, fun k hk => hall k (by omega)⟩))
            · have hi4 : i < 4 := nI_nle4 (n := 4) (by omega) (by decide) c_36
              refine xl (fun _ => lv_aload_n hx hb dX0_isMadeLike_39 rfl (lv_at hl 1 rfl)) ?_
              refine xl (fun _ => lv_iload_n hx hb dX0_isMadeLike_40 rfl (lv_at hl 0 rfl)) ?_
              refine x_callV E hl (c_X0_partAt l G H a na pa so la pl dv fc g hO hP i hi4) xm_yX0_partAt wMX0_43 wI_yX0_partAt wT_yX0_partAt (ci := 0) rfl rfl hO (rest := []) rfl (by decide) (by decide) ⟨by decide, by decide⟩ dX0_isMadeLike_41 (x_pure (r := va_rf (g i)) (st1 := []) ?_)
              refine xl (fun _ => lv_aload_n hx hb dX0_isMadeLike_44 rfl (lv_at hl 2 rfl)) ?_
              refine xl (fun _ => lv_iload_n hx hb dX0_isMadeLike_45 rfl (lv_at hl 0 rfl)) ?_
              refine x_callV E hl (c_X0_partAt l G H a2 na2 pa2 so2 la2 pl2 dv2 fc2 g2 hO2 hP2 i hi4) xm_yX0_partAt wMX0_43 wI_yX0_partAt wT_yX0_partAt (ci := 0) rfl rfl hO2 (rest := [va_rf (g i)]) rfl (by simp [cat_rf, cat_int, cat_ref, cat_null]) (by decide) ⟨by decide, by decide⟩ dX0_isMadeLike_46 (x_pure (r := va_rf (g2 i)) (st1 := []) ?_)
              refine xb (fun _ => lv_acmp_ne (rx := (g i)) (ry := (g2 i)) (tgt := 65) hx hb dX0_isMadeLike_49 (by decide)) (fun c_49 => ?_) (fun c_49 => ?_)
              · refine xl (fun _ => lv_iconst (v := 0) hx hb dX0_isMadeLike_65 (by decide)) ?_
                exact x_zret hx hb hr hlocks hs0 hbs (by decide) (by decide) (by decide) dX0_isMadeLike_66 (pu0 (bF hB (fun z => c_49 (z.2.2.2 i hi4).1)))
              · refine xl (fun _ => lv_aload_n hx hb dX0_isMadeLike_52 rfl (lv_at hl 1 rfl)) ?_
                refine xl (fun _ => lv_iload_n hx hb dX0_isMadeLike_53 rfl (lv_at hl 0 rfl)) ?_
                refine x_callV E hl (c_X0_numberAt l G H a na pa so la pl dv fc f hO hN i hi4) xm_yX0_numberAt wMX0_39 wI_yX0_numberAt wT_yX0_numberAt (ci := 0) rfl rfl hO (rest := []) rfl (by decide) (by decide) ⟨by decide, by decide⟩ dX0_isMadeLike_54 (x_pure (r := .int (f i)) (st1 := []) ?_)
                refine xl (fun _ => lv_aload_n hx hb dX0_isMadeLike_57 rfl (lv_at hl 2 rfl)) ?_
                refine xl (fun _ => lv_iload_n hx hb dX0_isMadeLike_58 rfl (lv_at hl 0 rfl)) ?_
                refine x_callV E hl (c_X0_numberAt l G H a2 na2 pa2 so2 la2 pl2 dv2 fc2 f2 hO2 hN2 i hi4) xm_yX0_numberAt wMX0_39 wI_yX0_numberAt wT_yX0_numberAt (ci := 0) rfl rfl hO2 (rest := [.int (f i)]) rfl (by simp [cat_rf, cat_int, cat_ref, cat_null]) (by decide) ⟨by decide, by decide⟩ dX0_isMadeLike_59 (x_pure (r := .int (f2 i)) (st1 := []) ?_)
                refine xb (fun _ => lv_icmp_eq (tgt := 67) hx hb dX0_isMadeLike_62 (by decide)) (fun c_62 => ?_) (fun c_62 => ?_)
                · refine xs (fun _ => lv_iinc (v := (nI (i + 1))) (lv' := [(2, .int (nI (i + 1))), (0, .ref a), (1, .ref a2)]) hx hb dX0_isMadeLike_67 hl (k := 0) rfl (nI_1 i) (by decide) (rfl)) (fun ls hl => ?_)
                  refine xl (fun _ => lv_goto (tgt := 34) hx hb dX0_isMadeLike_70 (by decide)) ?_
                  exact ih (i + 1) (by omega) (by omega) (fun k hk => by by_cases e : k = i; (rw [e]; exact ⟨c_49, c_62⟩); exact hall k (by omega)) ls (lv_sub hl [0, 1, 2] rfl)
                · refine xl (fun _ => lv_iconst (v := 0) hx hb dX0_isMadeLike_65 (by decide)) ?_
                  exact x_zret hx hb hr hlocks hs0 hbs (by decide) (by decide) (by decide) dX0_isMadeLike_66 (pu0 (bF hB (fun z => c_62 (z.2.2.2 i hi4).2)))
        exact hloop 5 0 (by decide) (by decide) (fun k hk => absurd hk (Nat.not_lt_zero k)) ls (lv_sub hl [0, 1, 2] rfl)
      · refine xl (fun _ => lv_iconst (v := 0) hx hb dX0_isMadeLike_30 (by decide)) ?_
        exact x_zret hx hb hr hlocks hs0 hbs (by decide) (by decide) (by decide) dX0_isMadeLike_31 (pu0 (bF hB (fun z => c_27 z.2.2.1)))
end
section
set_option maxHeartbeats 4000000 in
set_option maxRecDepth 100000 in
theorem c_X0_init (l : Launch) (G : sg_G) (H : Heap) (a na pa : Nat) (so la : Int32) (hO : ob_ G H a 0 [.int 0, .int 0, .null, .null, .int 0, .int 0, .int 0]) (hba : sg_B G ≤ a) : xC l G yX0_init cX0_init 5 none 1 0 0 [.ref a, .int so, .int la, .ref na, .ref pa] H (fun v H' => v = none ∧ tob G H' a so la na pa 0 false false ∧ H'.size = H.size ∧ ∀ q, q ≠ a → H'[q]? = H[q]?) := by
  refine xC.start (by decide) (Nat.le_of_ble_eq_true rfl) ?_
  intro p e s m args below meth c ls E hnm hs0 hl
  obtain ⟨hx, hb, hml, hown, hts, hr, hlocks, hK, hbs⟩ := id E
  have hl : lv_has ls 5 [(0, .ref a), (1, .int so), (2, .int la), (3, .ref na), (4, .ref pa)] := hl
  have hZ : H.size = H.size := rfl
  have hF : ∀ q, q ≠ a → H[q]? = H[q]? := fun _ _ => rfl
  refine xl (fun _ => lv_aload_n hx hb dX0_init_0 rfl (lv_at hl 0 rfl)) ?_
  refine xl (fun _ => W.objInit hx hb hown (hts _ wMX0_3) (hts _ wI_yO) (hts _ wC_yO) rfl (by rw [hml]; exact hl.1) rfl dX0_init_1 (Nat.le_of_ble_eq_true rfl) (Nat.le_of_ble_eq_true rfl)) ?_
  refine xg (g2 := F0 m 4 ls []) rfl ?_
  refine xl (fun _ => lv_aload_n hx hb dX0_init_4 rfl (lv_at hl 0 rfl)) ?_
  refine xl (fun _ => lv_iload_n hx hb dX0_init_5 rfl (lv_at hl 1 rfl)) ?_
  refine x_putF (ci := 0) hx hb hts hown hK wiX0 tyX0 tyX0_ok nmX0 hO rfl 0 (by decide) wFX0_9 rfl rfl hnm rfl (rfl) (rfl) (by simp) (hba) dX0_init_6 (fun H_1 ho_2 hz_3 hq_4 => ?_)
  have ho_2 : ob_ G H_1 a 0 [.int so, .int 0, .null, .null, .int 0, .int 0, .int 0] := ho_2
  have hZ : H_1.size = H.size := hz_3.trans hZ
  have hF : ∀ q, q ≠ a → H_1[q]? = H[q]? := fun q n => (hq_4 q n).trans (hF q n)
  refine xl (fun _ => lv_aload_n hx hb dX0_init_9 rfl (lv_at hl 0 rfl)) ?_
  refine xl (fun _ => lv_iload_n hx hb dX0_init_10 rfl (lv_at hl 2 rfl)) ?_
  refine x_putF (ci := 0) hx hb hts hown hK wiX0 tyX0 tyX0_ok nmX0 ho_2 rfl 1 (by decide) wFX0_15 rfl rfl hnm rfl (rfl) (rfl) (by simp) (hba) dX0_init_11 (fun H_5 ho_6 hz_7 hq_8 => ?_)
  have ho_6 : ob_ G H_5 a 0 [.int so, .int la, .null, .null, .int 0, .int 0, .int 0] := ho_6
  have hZ : H_5.size = H.size := hz_7.trans hZ
  have hF : ∀ q, q ≠ a → H_5[q]? = H[q]? := fun q n => (hq_8 q n).trans (hF q n)
  refine xl (fun _ => lv_aload_n hx hb dX0_init_14 rfl (lv_at hl 0 rfl)) ?_
  refine xl (fun _ => lv_aload_n hx hb dX0_init_15 rfl (lv_at hl 3 rfl)) ?_
  refine x_putF (ci := 0) hx hb hts hown hK wiX0 tyX0 tyX0_ok nmX0 ho_6 rfl 2 (by decide) wFX0_18 rfl rfl hnm rfl (rfl) (rfl) (by simp) (hba) dX0_init_16 (fun H_9 ho_10 hz_11 hq_12 => ?_)
  have ho_10 : ob_ G H_9 a 0 [.int so, .int la, .ref na, .null, .int 0, .int 0, .int 0] := ho_10
  have hZ : H_9.size = H.size := hz_11.trans hZ
  have hF : ∀ q, q ≠ a → H_9[q]? = H[q]? := fun q n => (hq_12 q n).trans (hF q n)
  refine xl (fun _ => lv_aload_n hx hb dX0_init_19 rfl (lv_at hl 0 rfl)) ?_
  refine xl (fun _ => lv_aload hx hb dX0_init_20 (lv_at hl 4 rfl)) ?_
  refine x_putF (ci := 0) hx hb hts hown hK wiX0 tyX0 tyX0_ok nmX0 ho_10 rfl 3 (by decide) wFX0_22 rfl rfl hnm rfl (rfl) (rfl) (by simp) (hba) dX0_init_22 (fun H_13 ho_14 hz_15 hq_16 => ?_)
  have ho_14 : ob_ G H_13 a 0 [.int so, .int la, .ref na, .ref pa, .int 0, .int 0, .int 0] := ho_14
  have hZ : H_13.size = H.size := hz_15.trans hZ
  have hF : ∀ q, q ≠ a → H_13[q]? = H[q]? := fun q n => (hq_16 q n).trans (hF q n)
  refine xl (fun _ => lv_aload_n hx hb dX0_init_25 rfl (lv_at hl 0 rfl)) ?_
  refine xl (fun _ => lv_iconst (v := 0) hx hb dX0_init_26 (by decide)) ?_
  refine x_put (ci := 0) hx hb hts hown hK wiX0 tyX0 tyX0_ok nmX0 ho_14 rfl 4 (by decide) wFX0_26 rfl rfl (rfl) (rfl) (by simp) (hba) dX0_init_27 (fun H_17 ho_18 hz_19 hq_20 => ?_)
  have ho_18 : ob_ G H_17 a 0 [.int so, .int la, .ref na, .ref pa, .int 0, .int 0, .int 0] := ho_18
  have hZ : H_17.size = H.size := hz_19.trans hZ
  have hF : ∀ q, q ≠ a → H_17[q]? = H[q]? := fun q n => (hq_20 q n).trans (hF q n)
  refine xl (fun _ => lv_aload_n hx hb dX0_init_30 rfl (lv_at hl 0 rfl)) ?_
  refine xl (fun _ => lv_iconst (v := 0) hx hb dX0_init_31 (by decide)) ?_
  refine x_put (ci := 0) hx hb hts hown hK wiX0 tyX0 tyX0_ok nmX0 ho_18 rfl 5 (by decide) wFX0_29 rfl rfl (rfl) (rfl) (by simp) (hba) dX0_init_32 (fun H_21 ho_22 hz_23 hq_24 => ?_)
  have ho_22 : ob_ G H_21 a 0 [.int so, .int la, .ref na, .ref pa, .int 0, .int 0, .int 0] := ho_22
  have hZ : H_21.size = H.size := hz_23.trans hZ
  have hF : ∀ q, q ≠ a → H_21[q]? = H[q]? := fun q n => (hq_24 q n).trans (hF q n)
  refine xl (fun _ => lv_aload_n hx hb dX0_init_35 rfl (lv_at hl 0 rfl)) ?_
  refine xl (fun _ => lv_iconst (v := 0) hx hb dX0_init_36 (by decide)) ?_
  refine x_put (ci := 0) hx hb hts hown hK wiX0 tyX0 tyX0_ok nmX0 ho_22 rfl 6 (by decide) wFX0_33 rfl rfl (rfl) (rfl) (by simp) (hba) dX0_init_37 (fun H_25 ho_26 hz_27 hq_28 => ?_)
  have ho_26 : ob_ G H_25 a 0 [.int so, .int la, .ref na, .ref pa, .int 0, .int 0, .int 0] := ho_26
  have hZ : H_25.size = H.size := hz_27.trans hZ
  have hF : ∀ q, q ≠ a → H_25[q]? = H[q]? := fun q n => (hq_28 q n).trans (hF q n)
  exact x_vret hx hb hr hlocks hs0 hbs (by decide) (by decide) dX0_init_40 (⟨rfl, ho_26, hZ, hF⟩)

set_option maxHeartbeats 4000000 in
set_option maxRecDepth 100000 in
theorem c_X0_withLabel (l : Launch) (G : sg_G) (H : Heap) (a na pa : Nat) (so la pl : Int32) (dv fc : Bool) (hO : tob G H a so la na pa pl dv fc) (nl : Int32) : xC l G yX0_withLabel cX0_withLabel 2 (some (FieldType.object "TermSpread$Term")) 2 1 7 [.ref a, .int nl] H (fun v H' => v = some (.ref H.size) ∧ tob G H' H.size so nl na pa 0 false false ∧ H'.size = H.size + 1 ∧ ∀ q, q < H.size → H'[q]? = H[q]?) := by
  refine xC.start (by decide) (Nat.le_of_ble_eq_true rfl) ?_
  intro p e s m args below meth c ls E hnm hs0 hl
  obtain ⟨hx, hb, hml, hown, hts, hr, hlocks, hK, hbs⟩ := id E
  have hl : lv_has ls 2 [(0, .ref a), (1, .int nl)] := hl
  have hBH : sg_B G ≤ H.size := by rw [← hs0]; exact hbs
  refine x_new (ci := 0) (fs := [.int 0, .int 0, .null, .null, .int 0, .int 0, .int 0]) hx hb hts hown hK wiX0 tyX0 tyX0_ok wKX0_10 wN_X0 wZ_X0 rfl (fun j hj => by rcases (show j = 0 ∨ j = 1 ∨ j = 2 ∨ j = 3 ∨ j = 4 ∨ j = 5 ∨ j = 6 by omega) with rfl | rfl | rfl | rfl | rfl | rfl | rfl <;> rfl) (by decide) (by decide) dX0_withLabel_0 (fun H_1 ho_2 hz_3 hq_4 => ?_)
  have k_5 := va_at.kept (H1 := H_1) (hO) (hq_4 _ (va_at.lt (hO)))
  refine xl (fun _ => lv_dup hx hb dX0_withLabel_3 rfl) ?_
  refine xl (fun _ => lv_aload_n hx hb dX0_withLabel_4 rfl (lv_at hl 0 rfl)) ?_
  refine x_get (ci := 0) hx hb hts hown hK wiX0 k_5 rfl 0 (by decide) wFX0_9 rfl rfl dX0_withLabel_5 ?_
  refine xl (fun _ => lv_iload_n hx hb dX0_withLabel_8 rfl (lv_at hl 1 rfl)) ?_
  refine xl (fun _ => lv_aload_n hx hb dX0_withLabel_9 rfl (lv_at hl 0 rfl)) ?_
  refine x_get (ci := 0) hx hb hts hown hK wiX0 k_5 rfl 2 (by decide) wFX0_18 rfl rfl dX0_withLabel_10 ?_
  refine xl (fun _ => lv_aload_n hx hb dX0_withLabel_13 rfl (lv_at hl 0 rfl)) ?_
  refine x_get (ci := 0) hx hb hts hown hK wiX0 k_5 rfl 3 (by decide) wFX0_22 rfl rfl dX0_withLabel_14 ?_
  refine x_callI E hl (c_X0_init l G H_1 H.size na pa so nl ho_2 (by omega)) xm_yX0_init rfl wMX0_36 wI_yX0_init (rest := [.ref H.size]) rfl (by simp [cat_rf, cat_int, cat_ref, cat_null]) (by decide) ⟨by decide, by decide⟩ dX0_withLabel_17 (fun v_6 H_7 hp_8 hz_9 hq_10 => ?_)
  obtain ⟨rfl, ht1, ht2, ht3⟩ := hp_8
  refine xg (g2 := F0 m 20 ls [.ref H.size]) rfl ?_
  exact x_aret hx hb hr hlocks hs0 hbs (Or.inr ⟨_, rfl⟩) (by decide) (by decide) dX0_withLabel_20 (⟨rfl, ht1, by omega, fun q h => (ht3 q (by omega)).trans (hq_4 q h)⟩)

set_option maxHeartbeats 4000000 in
set_option maxRecDepth 100000 in
theorem c_X0_withNumber (l : Launch) (G : sg_G) (H : Heap) (a na pa : Nat) (so la pl : Int32) (dv fc : Bool) (f : Nat → Int32) (hO : tob G H a so la na pa pl dv fc) (hN : ia_ G H na 4 f) (j : Nat) (hj : j < 4) (v : Int32) : xC l G yX0_withNumber cX0_withNumber 5 (some (FieldType.object "TermSpread$Term")) 2 2 11 [.ref a, .int (nI j), .int v] H (fun r H' => r = some (.ref (H.size + 1)) ∧ tob G H' (H.size + 1) so la H.size pa 0 false false ∧ ia_ G H' H.size 4 (upd f j v) ∧ H'.size = H.size + 2 ∧ ∀ q, q < H.size → H'[q]? = H[q]?) := by
  refine xC.start (by decide) (Nat.le_of_ble_eq_true rfl) ?_
  intro p e s m args below meth c ls E hnm hs0 hl
  obtain ⟨hx, hb, hml, hown, hts, hr, hlocks, hK, hbs⟩ := id E
  have hl : lv_has ls 5 [(0, .ref a), (1, .int (nI j)), (2, .int v)] := hl
  have hBH : sg_B G ≤ H.size := by rw [← hs0]; exact hbs
  refine xl (fun _ => lv_iconst (v := 4) hx hb dX0_withNumber_0 (by decide)) ?_
  refine x_newi (N := 4) hx hb hts hK wA_int (by decide) (by decide) (by decide) (by decide) (by decide) dX0_withNumber_1 (fun H_1 ho_2 hz_3 hq_4 => ?_)
  have k_5 := va_at.kept (H1 := H_1) (hO) (hq_4 _ (va_at.lt (hO)))
  have k_6 := va_at.kept (H1 := H_1) (hN) (hq_4 _ (va_at.lt (hN)))
  refine xs (fun _ => lv_astore_n (i := 3) (lv' := [(3, .ref H.size), (0, .ref a), (1, .int (nI j)), (2, .int v)]) hx hb dX0_withNumber_3 rfl hl (by decide) (rfl)) (fun ls hl => ?_)
  refine xl (fun _ => lv_iconst (v := 0) hx hb dX0_withNumber_4 (by decide)) ?_
  refine xs (fun _ => lv_istore (i := 4) (lv' := [(4, .int 0), (3, .ref H.size), (0, .ref a), (1, .int (nI j)), (2, .int v)]) hx hb dX0_withNumber_5 hl (by decide) (rfl)) (fun ls hl => ?_)
  have hloop : ∀ (d : Nat) (i : Nat) (Hi : Heap) (fi : Nat → Int32), i ≤ 4 → 4 < i + d → ia_ G Hi H.size 4 fi → (∀ q, q < i → fi q = upd f j v q) → Hi.size = H.size + 1 → (∀ q, q < H.size → Hi[q]? = H[q]?) → ∀ (ls : Array Slot), lv_has ls 5 [(4, .int (nI i)), (3, .ref H.size), (0, .ref a), (1, .int (nI j)), (2, .int v)] → xV p l e (xR 2 2 11) s m args below meth c G Hi 1 4 (MQ below (xQ G H (fun r H' => r = some (.ref (H.size + 1)) ∧ tob G H' (H.size + 1) so la H.size pa 0 false false ∧ ia_ G H' H.size 4 (upd f j v) ∧ H'.size = H.size + 2 ∧ ∀ q, q < H.size → H'[q]? = H[q]?)) args s 2 11 (sg_fr G)) (F0 m 7 ls []) := by
    intro d
    induction d with
    | zero =>
      intro i Hi fi h1 h2
      exact absurd h2 (by omega)
    | succ d ih =>
      intro i Hi fi hi hd hA hV hZi hQ ls hl
      have hO := va_at.kept (H1 := Hi) hO (hQ _ (va_at.lt hO))
      have hN := va_at.kept (H1 := Hi) hN (hQ _ (va_at.lt hN))
      refine xl (fun _ => lv_iload hx hb dX0_withNumber_7 (lv_at hl 0 rfl)) ?_
      refine xl (fun _ => lv_iconst (v := 4) hx hb dX0_withNumber_9 (by decide)) ?_
      refine xb (fun _ => lv_icmp_ge (tgt := 39) hx hb dX0_withNumber_10 (by decide)) (fun c_10 => ?_) (fun c_10 => ?_)
      · have e4 : i = 4 := by have := nI_le4 (n := 4) (by omega) (by decide) c_10; omega
        subst e4
        have hA := ia_to hA hV
        refine x_new (ci := 0) (fs := [.int 0, .int 0, .null, .null, .int 0, .int 0, .int 0]) hx hb hts hown hK wiX0 tyX0 tyX0_ok wKX0_10 wN_X0 wZ_X0 rfl (fun j hj => by rcases (show j = 0 ∨ j = 1 ∨ j = 2 ∨ j = 3 ∨ j = 4 ∨ j = 5 ∨ j = 6 by omega) with rfl | rfl | rfl | rfl | rfl | rfl | rfl <;> rfl) (by decide) (by decide) dX0_withNumber_39 (fun H_7 ho_8 hz_9 hq_10 => ?_)
        have k_11 := va_at.kept (H1 := H_7) (hO) (hq_10 _ (va_at.lt (hO)))
        have k_12 := va_at.kept (H1 := H_7) (hA) (hq_10 _ (va_at.lt (hA)))
        have k_13 := va_at.kept (H1 := H_7) (hN) (hq_10 _ (va_at.lt (hN)))
        have hA2 := k_12
        refine xl (fun _ => lv_dup hx hb dX0_withNumber_42 rfl) ?_
        refine xl (fun _ => lv_aload_n hx hb dX0_withNumber_43 rfl (lv_at hl 2 rfl)) ?_
        refine x_get (ci := 0) hx hb hts hown hK wiX0 k_11 rfl 0 (by decide) wFX0_9 rfl rfl dX0_withNumber_44 ?_
        refine xl (fun _ => lv_aload_n hx hb dX0_withNumber_47 rfl (lv_at hl 2 rfl)) ?_
        refine x_get (ci := 0) hx hb hts hown hK wiX0 k_11 rfl 1 (by decide) wFX0_15 rfl rfl dX0_withNumber_48 ?_
        refine xl (fun _ => lv_aload_n hx hb dX0_withNumber_51 rfl (lv_at hl 1 rfl)) ?_
        refine xl (fun _ => lv_aload_n hx hb dX0_withNumber_52 rfl (lv_at hl 2 rfl)) ?_
        refine x_get (ci := 0) hx hb hts hown hK wiX0 k_11 rfl 3 (by decide) wFX0_22 rfl rfl dX0_withNumber_53 ?_
        refine x_callI E hl (c_X0_init l G H_7 Hi.size H.size pa so la ho_8 (by omega)) xm_yX0_init rfl wMX0_36 wI_yX0_init (rest := [.ref Hi.size]) rfl (by simp [cat_rf, cat_int, cat_ref, cat_null]) (by decide) ⟨by decide, by decide⟩ dX0_withNumber_56 (fun v_14 H_15 hp_16 hz_17 hq_18 => ?_)
        obtain ⟨rfl, ht1, ht2, ht3⟩ := hp_16
        refine xg (g2 := F0 m 59 ls [.ref Hi.size]) rfl ?_
        exact x_aret hx hb hr hlocks hs0 hbs (Or.inr ⟨_, rfl⟩) (by decide) (by decide) dX0_withNumber_59 (⟨by rw [hZi], by rw [← hZi]; exact ht1, va_at.kept (H1 := H_15) hA2 (ht3 _ (by omega)), by omega, fun q h => ((ht3 q (by omega)).trans (hq_10 q (by omega))).trans (hQ q h)⟩)
      · have hi4 : i < 4 := nI_nle4 (n := 4) (by omega) (by decide) c_10
        refine xl (fun _ => lv_aload_n hx hb dX0_withNumber_13 rfl (lv_at hl 1 rfl)) ?_
        refine xl (fun _ => lv_iload hx hb dX0_withNumber_14 (lv_at hl 0 rfl)) ?_
        refine xl (fun _ => lv_iload hx hb dX0_withNumber_16 (lv_at hl 0 rfl)) ?_
        refine xl (fun _ => lv_iload_n hx hb dX0_withNumber_18 rfl (lv_at hl 3 rfl)) ?_
        refine xb (fun _ => lv_icmp_ne (tgt := 26) hx hb dX0_withNumber_19 (by decide)) (fun c_19 => ?_) (fun c_19 => ?_)
        · refine xl (fun _ => lv_aload_n hx hb dX0_withNumber_26 rfl (lv_at hl 2 rfl)) ?_
          refine xl (fun _ => lv_iload hx hb dX0_withNumber_27 (lv_at hl 0 rfl)) ?_
          refine x_callV E hl (c_X0_numberAt l G Hi a na pa so la pl dv fc f hO hN i hi4) xm_yX0_numberAt wMX0_39 wI_yX0_numberAt wT_yX0_numberAt (ci := 0) rfl rfl hO (rest := [.int (nI i), .ref H.size]) rfl (by simp [cat_rf, cat_int, cat_ref, cat_null]) (by decide) ⟨by decide, by decide⟩ dX0_withNumber_29 (x_pure (r := .int (f i)) (st1 := []) ?_)
          refine x_iast hx hb hK hA i (rfl) (by omega) (by decide) (by omega) dX0_withNumber_32 (fun H_19 ho_20 hz_21 hq_22 => ?_)
          have ho_20 : ia_ G H_19 H.size 4 (upd fi i (f i)) := ho_20
          refine xs (fun _ => lv_iinc (v := (nI (i + 1))) (lv' := [(4, .int (nI (i + 1))), (3, .ref H.size), (0, .ref a), (1, .int (nI j)), (2, .int v)]) hx hb dX0_withNumber_33 hl (k := 0) rfl (nI_1 i) (by decide) (rfl)) (fun ls hl => ?_)
          refine xl (fun _ => lv_goto (tgt := 7) hx hb dX0_withNumber_36 (by decide)) ?_
          exact ih (i + 1) H_19 _ (by omega) (by omega) ho_20 (fun q hq => by by_cases e : q = i; (subst e; rw [pk_us]; rw [pk_un (fun e => c_19 (by rw [e]))]); (rw [pk_un e]; exact hV q (by omega))) (hz_21.trans hZi) (fun q h => (hq_22 q (by omega)).trans (hQ q h)) ls (lv_sub hl [0, 1, 2, 3, 4] rfl)
        · refine xl (fun _ => lv_iload_n hx hb dX0_withNumber_22 rfl (lv_at hl 4 rfl)) ?_
          refine xl (fun _ => lv_goto (tgt := 32) hx hb dX0_withNumber_23 (by decide)) ?_
          refine x_iast hx hb hK hA i (rfl) (by omega) (by decide) (by omega) dX0_withNumber_32 (fun H_23 ho_24 hz_25 hq_26 => ?_)
          have ho_24 : ia_ G H_23 H.size 4 (upd fi i v) := ho_24
          refine xs (fun _ => lv_iinc (v := (nI (i + 1))) (lv' := [(4, .int (nI (i + 1))), (3, .ref H.size), (0, .ref a), (1, .int (nI j)), (2, .int v)]) hx hb dX0_withNumber_33 hl (k := 0) rfl (nI_1 i) (by decide) (rfl)) (fun ls hl => ?_)
          refine xl (fun _ => lv_goto (tgt := 7) hx hb dX0_withNumber_36 (by decide)) ?_
          exact ih (i + 1) H_23 _ (by omega) (by omega) ho_24 (fun q hq => by by_cases e : q = i; (subst e; rw [pk_us]; rw [(nI_eq (by omega) (by omega)).mp c_19, pk_us]); (rw [pk_un e]; exact hV q (by omega))) (hz_25.trans hZi) (fun q h => (hq_26 q (by omega)).trans (hQ q h)) ls (lv_sub hl [0, 1, 2, 3, 4] rfl)
  exact hloop 5 0 H_1 _ (by decide) (by decide) ho_2 (fun q hq => absurd hq (Nat.not_lt_zero q)) hz_3 hq_4 ls (lv_sub hl [0, 1, 2, 3, 4] rfl)

set_option maxHeartbeats 4000000 in
set_option maxRecDepth 100000 in
theorem c_X0_withPart (l : Launch) (G : sg_G) (H : Heap) (a na pa : Nat) (so la pl : Int32) (dv fc : Bool) (g : Nat → Option Nat) (hO : tob G H a so la na pa pl dv fc) (hP : ra_ G H pa 4 g) (hg : ∀ k, k < 4 → ∀ v, g k = some v → ∃ fs, ob_ G H v 0 fs) (j : Nat) (hj : j < 4) (o : Option Nat) (ho : ∀ v, o = some v → ∃ fs, ob_ G H v 0 fs) : xC l G yX0_withPart cX0_withPart 5 (some (FieldType.object "TermSpread$Term")) 2 2 11 [.ref a, .int (nI j), va_rf o] H (fun r H' => r = some (.ref (H.size + 1)) ∧ tob G H' (H.size + 1) so la na H.size 0 false false ∧ ra_ G H' H.size 4 (va_up g j o) ∧ H'.size = H.size + 2 ∧ ∀ q, q < H.size → H'[q]? = H[q]?) := by
  refine xC.start (by decide) (by simp [lg_sl, cat_rf, cat_int, cat_ref, cat_null]) ?_
  intro p e s m args below meth c ls E hnm hs0 hl
  obtain ⟨hx, hb, hml, hown, hts, hr, hlocks, hK, hbs⟩ := id E
  have hl : lv_has ls 5 [(0, .ref a), (1, .int (nI j)), (2, va_rf o)] := by simpa [lv_args, cat_rf, cat_int, cat_ref, cat_null] using hl
  have hBH : sg_B G ≤ H.size := by rw [← hs0]; exact hbs
  refine xl (fun _ => lv_iconst (v := 4) hx hb dX0_withPart_0 (by decide)) ?_
  refine x_newr (N := 4) hx hb hts hown hK wKX0_10 (by decide) (by decide) (by decide) (by decide) (by decide) dX0_withPart_1 (fun H_1 ho_2 hz_3 hq_4 => ?_)
  have k_5 := va_at.kept (H1 := H_1) (hO) (hq_4 _ (va_at.lt (hO)))
  have k_6 := va_at.kept (H1 := H_1) (hP) (hq_4 _ (va_at.lt (hP)))
  refine xs (fun _ => lv_astore_n (i := 3) (lv' := [(3, .ref H.size), (0, .ref a), (1, .int (nI j)), (2, va_rf o)]) hx hb dX0_withPart_4 rfl hl (by decide) (by simp [List.filter, cat_rf, cat_int, cat_ref, cat_null])) (fun ls hl => ?_)
  refine xl (fun _ => lv_iconst (v := 0) hx hb dX0_withPart_5 (by decide)) ?_
  refine xs (fun _ => lv_istore (i := 4) (lv' := [(4, .int 0), (3, .ref H.size), (0, .ref a), (1, .int (nI j)), (2, va_rf o)]) hx hb dX0_withPart_6 hl (by decide) (rfl)) (fun ls hl => ?_)
  have hloop : ∀ (d : Nat) (i : Nat) (Hi : Heap) (fi : Nat → Option Nat), i ≤ 4 → 4 < i + d → ra_ G Hi H.size 4 fi → (∀ q, q < i → fi q = va_up g j o q) → Hi.size = H.size + 1 → (∀ q, q < H.size → Hi[q]? = H[q]?) → ∀ (ls : Array Slot), lv_has ls 5 [(4, .int (nI i)), (3, .ref H.size), (0, .ref a), (1, .int (nI j)), (2, va_rf o)] → xV p l e (xR 2 2 11) s m args below meth c G Hi 1 4 (MQ below (xQ G H (fun r H' => r = some (.ref (H.size + 1)) ∧ tob G H' (H.size + 1) so la na H.size 0 false false ∧ ra_ G H' H.size 4 (va_up g j o) ∧ H'.size = H.size + 2 ∧ ∀ q, q < H.size → H'[q]? = H[q]?)) args s 2 11 (sg_fr G)) (F0 m 8 ls []) := by
    intro d
    induction d with
    | zero =>
      intro i Hi fi h1 h2
      exact absurd h2 (by omega)
    | succ d ih =>
      intro i Hi fi hi hd hA hV hZi hQ ls hl
      have hO := va_at.kept (H1 := Hi) hO (hQ _ (va_at.lt hO))
      have hP := va_at.kept (H1 := Hi) hP (hQ _ (va_at.lt hP))
      have hg : ∀ k, k < 4 → ∀ v, g k = some v → ∃ fs, ob_ G Hi v 0 fs := fun k hk v h => by obtain ⟨fs, hf⟩ := hg k hk v h; exact ⟨fs, va_at.kept (H1 := Hi) hf (hQ _ (va_at.lt hf))⟩
      have ho : ∀ v, o = some v → ∃ fs, ob_ G Hi v 0 fs := fun v h => by obtain ⟨fs, hf⟩ := ho v h; exact ⟨fs, va_at.kept (H1 := Hi) hf (hQ _ (va_at.lt hf))⟩
      refine xl (fun _ => lv_iload hx hb dX0_withPart_8 (lv_at hl 0 rfl)) ?_
      refine xl (fun _ => lv_iconst (v := 4) hx hb dX0_withPart_10 (by decide)) ?_
      refine xb (fun _ => lv_icmp_ge (tgt := 40) hx hb dX0_withPart_11 (by decide)) (fun c_11 => ?_) (fun c_11 => ?_)
      · have e4 : i = 4 := by have := nI_le4 (n := 4) (by omega) (by decide) c_11; omega
        subst e4
        have hA := ra_to hA hV
        refine x_new (ci := 0) (fs := [.int 0, .int 0, .null, .null, .int 0, .int 0, .int 0]) hx hb hts hown hK wiX0 tyX0 tyX0_ok wKX0_10 wN_X0 wZ_X0 rfl (fun j hj => by rcases (show j = 0 ∨ j = 1 ∨ j = 2 ∨ j = 3 ∨ j = 4 ∨ j = 5 ∨ j = 6 by omega) with rfl | rfl | rfl | rfl | rfl | rfl | rfl <;> rfl) (by decide) (by decide) dX0_withPart_40 (fun H_7 ho_8 hz_9 hq_10 => ?_)
        have k_11 := va_at.kept (H1 := H_7) (hO) (hq_10 _ (va_at.lt (hO)))
        have k_12 := va_at.kept (H1 := H_7) (hA) (hq_10 _ (va_at.lt (hA)))
        have k_13 := va_at.kept (H1 := H_7) (hP) (hq_10 _ (va_at.lt (hP)))
        have hA2 := k_12
        refine xl (fun _ => lv_dup hx hb dX0_withPart_43 rfl) ?_
        refine xl (fun _ => lv_aload_n hx hb dX0_withPart_44 rfl (lv_at hl 2 rfl)) ?_
        refine x_get (ci := 0) hx hb hts hown hK wiX0 k_11 rfl 0 (by decide) wFX0_9 rfl rfl dX0_withPart_45 ?_
        refine xl (fun _ => lv_aload_n hx hb dX0_withPart_48 rfl (lv_at hl 2 rfl)) ?_
        refine x_get (ci := 0) hx hb hts hown hK wiX0 k_11 rfl 1 (by decide) wFX0_15 rfl rfl dX0_withPart_49 ?_
        refine xl (fun _ => lv_aload_n hx hb dX0_withPart_52 rfl (lv_at hl 2 rfl)) ?_
        refine x_get (ci := 0) hx hb hts hown hK wiX0 k_11 rfl 2 (by decide) wFX0_18 rfl rfl dX0_withPart_53 ?_
        refine xl (fun _ => lv_aload_n hx hb dX0_withPart_56 rfl (lv_at hl 1 rfl)) ?_
        refine x_callI E hl (c_X0_init l G H_7 Hi.size na H.size so la ho_8 (by omega)) xm_yX0_init rfl wMX0_36 wI_yX0_init (rest := [.ref Hi.size]) rfl (by simp [cat_rf, cat_int, cat_ref, cat_null]) (by decide) ⟨by decide, by decide⟩ dX0_withPart_57 (fun v_14 H_15 hp_16 hz_17 hq_18 => ?_)
        obtain ⟨rfl, ht1, ht2, ht3⟩ := hp_16
        refine xg (g2 := F0 m 60 ls [.ref Hi.size]) rfl ?_
        exact x_aret hx hb hr hlocks hs0 hbs (Or.inr ⟨_, rfl⟩) (by decide) (by decide) dX0_withPart_60 (⟨by rw [hZi], by rw [← hZi]; exact ht1, va_at.kept (H1 := H_15) hA2 (ht3 _ (by omega)), by omega, fun q h => ((ht3 q (by omega)).trans (hq_10 q (by omega))).trans (hQ q h)⟩)
      · have hi4 : i < 4 := nI_nle4 (n := 4) (by omega) (by decide) c_11
        refine xl (fun _ => lv_aload_n hx hb dX0_withPart_14 rfl (lv_at hl 1 rfl)) ?_
        refine xl (fun _ => lv_iload hx hb dX0_withPart_15 (lv_at hl 0 rfl)) ?_
        refine xl (fun _ => lv_iload hx hb dX0_withPart_17 (lv_at hl 0 rfl)) ?_
        refine xl (fun _ => lv_iload_n hx hb dX0_withPart_19 rfl (lv_at hl 3 rfl)) ?_
        refine xb (fun _ => lv_icmp_ne (tgt := 27) hx hb dX0_withPart_20 (by decide)) (fun c_20 => ?_) (fun c_20 => ?_)
        · refine xl (fun _ => lv_aload_n hx hb dX0_withPart_27 rfl (lv_at hl 2 rfl)) ?_
          refine xl (fun _ => lv_iload hx hb dX0_withPart_28 (lv_at hl 0 rfl)) ?_
          refine x_callV E hl (c_X0_partAt l G Hi a na pa so la pl dv fc g hO hP i hi4) xm_yX0_partAt wMX0_43 wI_yX0_partAt wT_yX0_partAt (ci := 0) rfl rfl hO (rest := [.int (nI i), .ref H.size]) rfl (by simp [cat_rf, cat_int, cat_ref, cat_null]) (by decide) ⟨by decide, by decide⟩ dX0_withPart_30 (x_pure (r := va_rf (g i)) (st1 := []) ?_)
          refine x_aast (o := (g i)) hx hb hK hA (by first | exact ho | exact hg i hi4) i (rfl) (by omega) (by decide) (by omega) dX0_withPart_33 (fun H_19 ho_20 hz_21 hq_22 => ?_)
          have ho_20 : ra_ G H_19 H.size 4 (va_up fi i (g i)) := ho_20
          refine xs (fun _ => lv_iinc (v := (nI (i + 1))) (lv' := [(4, .int (nI (i + 1))), (3, .ref H.size), (0, .ref a), (1, .int (nI j)), (2, va_rf o)]) hx hb dX0_withPart_34 hl (k := 0) rfl (nI_1 i) (by decide) (rfl)) (fun ls hl => ?_)
          refine xl (fun _ => lv_goto (tgt := 8) hx hb dX0_withPart_37 (by decide)) ?_
          exact ih (i + 1) H_19 _ (by omega) (by omega) ho_20 (fun q hq => by by_cases e : q = i; (subst e; rw [va_up_self]; rw [va_up_ne _ _ (fun e => c_20 (by rw [e]))]); (rw [va_up_ne _ _ e]; exact hV q (by omega))) (hz_21.trans hZi) (fun q h => (hq_22 q (by omega)).trans (hQ q h)) ls (lv_sub hl [0, 1, 2, 3, 4] rfl)
        · refine x_aload_nq hx hb dX0_withPart_23 rfl (lv_at hl 4 rfl) ?_
          refine xl (fun _ => lv_goto (tgt := 33) hx hb dX0_withPart_24 (by decide)) ?_
          refine x_aast (o := o) hx hb hK hA (by first | exact ho | exact hg i hi4) i (rfl) (by omega) (by decide) (by omega) dX0_withPart_33 (fun H_23 ho_24 hz_25 hq_26 => ?_)
          have ho_24 : ra_ G H_23 H.size 4 (va_up fi i o) := ho_24
          refine xs (fun _ => lv_iinc (v := (nI (i + 1))) (lv' := [(4, .int (nI (i + 1))), (3, .ref H.size), (0, .ref a), (1, .int (nI j)), (2, va_rf o)]) hx hb dX0_withPart_34 hl (k := 0) rfl (nI_1 i) (by decide) (rfl)) (fun ls hl => ?_)
          refine xl (fun _ => lv_goto (tgt := 8) hx hb dX0_withPart_37 (by decide)) ?_
          exact ih (i + 1) H_23 _ (by omega) (by omega) ho_24 (fun q hq => by by_cases e : q = i; (subst e; rw [va_up_self]; rw [(nI_eq (by omega) (by omega)).mp c_20, va_up_self]); (rw [va_up_ne _ _ e]; exact hV q (by omega))) (hz_25.trans hZi) (fun q h => (hq_26 q (by omega)).trans (hQ q h)) ls (lv_sub hl [0, 1, 2, 3, 4] rfl)
  exact hloop 5 0 H_1 _ (by decide) (by decide) ho_2 (fun q hq => absurd hq (Nat.not_lt_zero q)) hz_3 hq_4 ls (lv_sub hl [0, 1, 2, 3, 4] rfl)
end
section
/-! THE CLASS'S WORLD. b: the object; b + 1 the registers, b + 2 what is made, b + 3 the zeros; all else of the class lies from lo on. Terms by their places: ta i the term, na i its numbers, pa i its parts. -/
/-- how a term is made, its parts lying below n -/
def sp_wf (t : Nat → sp_T) (n : Nat) (d : sp_T) : Prop := sp_bd n d ∧
  ((sp_so d = 1 ∧ sp_la d = 0 ∧ (∀ k, k < 4 → sp_nu d k = 0) ∧ ∀ k, k < 4 → sp_pa d k = none) ∨
   (sp_so d = 2 ∧ sp_la d = 0 ∧ (∀ k, k < 4 → sp_nu d k = 0) ∧ (∃ x, sp_pa d 0 = some x ∧ sp_so (t x) = 1) ∧ sp_pa d 1 = none ∧ sp_pa d 2 = none ∧ sp_pa d 3 = none) ∨
   (sp_so d = 3 ∧ sp_la d = 0 ∧ (∀ k, k < 4 → sp_nu d k = 0) ∧ (∃ x y, sp_pa d 0 = some x ∧ sp_pa d 1 = some y ∧ sp_so (t x) = 1 ∧ sp_so (t y) = 1) ∧ sp_pa d 2 = none ∧ sp_pa d 3 = none) ∨
   (sp_so d = 4 ∧ (∀ k, k < 4 → sp_nu d k = 0) ∧ (∃ x, sp_pa d 0 = some x) ∧ sp_pa d 2 = none ∧ sp_pa d 3 = none) ∨
   (sp_so d = 5 ∧ sp_la d = 0 ∧ (∀ k, k < 4 → sp_nu d k = 0) ∧ (∃ x y z, sp_pa d 0 = some x ∧ sp_pa d 1 = some y ∧ sp_pa d 2 = some z) ∧ sp_pa d 3 = none) ∨
   (sp_so d = 6 ∧ sp_la d = 0 ∧ (∀ k, k < 4 → sp_nu d k = 0) ∧ (∃ x y, sp_pa d 0 = some x ∧ sp_pa d 1 = some y ∧ sp_so (t x) = 1) ∧ sp_pa d 2 = none ∧ sp_pa d 3 = none) ∨
   (sp_so d = 7 ∧ ∃ k, k < 7 ∧ sp_la d = nI (k + 1)))
/-- a term's object -/
def sc_O (G : sg_G) (H : Heap) (b lo : Nat) (ta : Nat → Nat) (d : sp_T) (w nw pw : Nat) (pl : Int32) (dv fc : Bool) : Prop :=
  lo ≤ w ∧ (nw = b + 3 ∨ lo ≤ nw) ∧ lo ≤ pw ∧ tob G H w (sp_so d) (sp_la d) nw pw pl dv fc ∧ ia_ G H nw 4 (sp_nu d) ∧ ra_ G H pw 4 (fun k => (sp_pa d k).map ta)
def sc_X (G : sg_G) (b lo n : Nat) (t : Nat → sp_T) (dv fc : Nat → Bool) (rg : Nat → Option Nat) (dc : Nat) (ta na pa : Nat → Nat) (H : Heap) : Prop :=
  ((sg_D G).1 0 ≠ sg_I G ∧ (sg_D G).1 0 ≠ sg_Y G) ∧ sg_B G ≤ b ∧ b + 4 ≤ lo ∧ lo ≤ H.size ∧ n ≤ 512 ∧
  ob_ G H b 1 [.ref (b + 1), .ref (b + 2), .int (nI n), .int (nI dc), .ref (b + 3)] ∧
  ra_ G H (b + 1) 64 (fun k => (rg k).map ta) ∧ ra_ G H (b + 2) 512 (fun k => if k < n then some (ta k) else none) ∧ ia_ G H (b + 3) 4 (fun _ => 0) ∧
  (∀ i, i < n → sc_O G H b lo ta (t i) (ta i) (na i) (pa i) (nI i) (dv i) (fc i)) ∧ (∀ k, k < 64 → ∀ i, rg k = some i → i < n) ∧ ∀ i, i < n → sp_wf t i (t i)
/-- what a call of the class leaves as it was -/
def sc_F (b lo : Nat) (H H' : Heap) : Prop := H.size ≤ H'.size ∧ ∀ q, b + 3 ≤ q → q < lo → H'[q]? = H[q]?
theorem sc_F.rf {b lo : Nat} {H : Heap} : sc_F b lo H H := ⟨Nat.le_refl _, fun _ _ _ => rfl⟩
theorem sc_F.tr {b lo : Nat} {H H1 H2 : Heap} (h1 : sc_F b lo H H1) (h2 : sc_F b lo H1 H2) : sc_F b lo H H2 := ⟨Nat.le_trans h1.1 h2.1, fun q a c => (h2.2 q a c).trans (h1.2 q a c)⟩
theorem ob_ia {G : sg_G} {H : Heap} {a a' n : Nat} {fs : List Value} {f : Nat → Int32} (hw : (sg_D G).1 0 ≠ sg_I G) (h : ob_ G H a 0 fs) (h' : ia_ G H a' n f) : a' ≠ a := by
  rintro rfl
  obtain ⟨r, h1, cell, q1, q2, q3, q4⟩ := h
  have h2 : H[a']? = some (arrV (sg_I G) n (fun j => .int (f j))) := h'
  have e := Option.some.inj (q1.symm.trans h2)
  rw [e] at q2
  exact hw q2.symm
theorem ob_ra {G : sg_G} {H : Heap} {a a' n : Nat} {fs : List Value} {f : Nat → Option Nat} (hw : (sg_D G).1 0 ≠ sg_Y G) (h : ob_ G H a 0 fs) (h' : ra_ G H a' n f) : a' ≠ a := by
  rintro rfl
  obtain ⟨r, h1, cell, q1, q2, q3, q4⟩ := h
  have h2 : H[a']? = some (arrV (sg_Y G) n (fun j => va_rf (f j))) := h'
  have e := Option.some.inj (q1.symm.trans h2)
  rw [e] at q2
  exact hw q2.symm
/-- one object, one list of fields -/
theorem ob_one {G : sg_G} {H : Heap} {a ci : Nat} {fs fs' : List Value} (h : ob_ G H a ci fs) (h' : ob_ G H a ci fs') {r : vw_C} (hc : vwCl[ci]? = some r) {k : Nat} (hk : k < r.2.2) : vp_V fs k = vp_V fs' k := by
  obtain ⟨r1, h1, cell, q1, q2, q3, q4⟩ := h
  obtain ⟨r2, g1, cell', p1, p2, p3, p4⟩ := h'
  have e := Option.some.inj (q1.symm.trans p1)
  subst e
  have e1 : r1 = r := Option.some.inj (h1.symm.trans hc)
  have e2 : r2 = r := Option.some.inj (g1.symm.trans hc)
  subst e1
  subst e2
  have := (q4 k hk).symm.trans (p4 k hk)
  exact Option.some.inj this
theorem tob_pl {G : sg_G} {H : Heap} {a na pa na' pa' : Nat} {so la pl so' la' pl' : Int32} {dv fc dv' fc' : Bool} (h : tob G H a so la na pa pl dv fc) (h' : tob G H a so' la' na' pa' pl' dv' fc') : pl = pl' := by
  have := ob_one h h' (r := (RX0, TX0, 7)) rfl (k := 4) (by decide)
  exact Value.int.inj this
section SCX
variable {G : sg_G} {b lo n dc : Nat} {t : Nat → sp_T} {dv fc : Nat → Bool} {rg : Nat → Option Nat} {ta na pa : Nat → Nat} {H : Heap}
theorem sc_inj (h : sc_X G b lo n t dv fc rg dc ta na pa H) {i j : Nat} (hi : i < n) (hj : j < n) (e : ta i = ta j) : i = j := by
  obtain ⟨-, -, -, -, hn, -, -, -, -, hT, -⟩ := h
  have h1 := (hT i hi).2.2.2.1
  have h2 := (hT j hj).2.2.2.1
  rw [e] at h1
  exact (nI_eq (by omega) (by omega)).mp (tob_pl h1 h2)
theorem sc_injo (h : sc_X G b lo n t dv fc rg dc ta na pa H) {o o' : Option Nat} (ho : ∀ j, o = some j → j < n) (ho' : ∀ j, o' = some j → j < n) (e : o.map ta = o'.map ta) : o = o' := by
  cases o with
  | none => cases o' with
    | none => rfl
    | some y => cases e
  | some x => cases o' with
    | none => cases e
    | some y => rw [sc_inj h (ho x rfl) (ho' y rfl) (Option.some.inj e)]
theorem sc_O.kept {H1 : Heap} {d : sp_T} {w nw pw : Nat} {pl : Int32} {v f : Bool} (h : sc_O G H b lo ta d w nw pw pl v f) (h1 : H1[w]? = H[w]?) (h2 : H1[nw]? = H[nw]?) (h3 : H1[pw]? = H[pw]?) : sc_O G H1 b lo ta d w nw pw pl v f :=
  ⟨h.1, h.2.1, h.2.2.1, h.2.2.2.1.kept h1, h.2.2.2.2.1.kept h2, h.2.2.2.2.2.kept h3⟩
/-- nothing of the class has changed -/
theorem sc_X.kept {H1 : Heap} (h : sc_X G b lo n t dv fc rg dc ta na pa H) (hz : H.size ≤ H1.size) (hq : ∀ q, (q < b + 4 ∨ lo ≤ q) → b ≤ q → q < H.size → H1[q]? = H[q]?) : sc_X G b lo n t dv fc rg dc ta na pa H1 := by
  obtain ⟨hw, h0, h4, hl, hn, hX, hR, hM, hZ, hT, hr, hwf⟩ := h
  refine ⟨hw, h0, h4, by omega, hn, hX.kept (hq _ (by omega) (by omega) (va_at.lt hX)), hR.kept (hq _ (by omega) (by omega) (va_at.lt hR)), hM.kept (hq _ (by omega) (by omega) (va_at.lt hM)), hZ.kept (hq _ (by omega) (by omega) (va_at.lt hZ)), fun i hi => ?_, hr, hwf⟩
  have a := hT i hi
  obtain ⟨a1, a2, a3, a4, a5, a6⟩ := id a
  exact a.kept (hq _ (by omega) (by omega) (va_at.lt a4)) (hq _ (by omega) (by omega) (va_at.lt a5)) (hq _ (by omega) (by omega) (va_at.lt a6))
/-- a term's two marks change -/
theorem sc_fl {H1 : Heap} {dv' fc' : Nat → Bool} (h : sc_X G b lo n t dv fc rg dc ta na pa H) {i : Nat} (hi : i < n) (hd : ∀ j, j ≠ i → dv' j = dv j) (hf : ∀ j, j ≠ i → fc' j = fc j) (ho : tob G H1 (ta i) (sp_so (t i)) (sp_la (t i)) (na i) (pa i) (nI i) (dv' i) (fc' i)) (hz : H1.size = H.size) (hq : ∀ q, q ≠ ta i → H1[q]? = H[q]?) : sc_X G b lo n t dv' fc' rg dc ta na pa H1 := by
  have inj := @sc_inj G b lo n dc t dv fc rg ta na pa H h
  obtain ⟨hw, h0, h4, hl, hn, hX, hR, hM, hZ, hT, hr, hwf⟩ := h
  obtain ⟨a1, a2, a3, a4, a5, a6⟩ := hT i hi
  refine ⟨hw, h0, h4, by omega, hn, hX.kept (hq _ (by omega)), hR.kept (hq _ (by omega)), hM.kept (hq _ (by omega)), hZ.kept (hq _ (by omega)), fun j hj => ?_, hr, hwf⟩
  obtain ⟨c1, c2, c3, c4, c5, c6⟩ := hT j hj
  by_cases e : j = i
  · subst e
    exact ⟨c1, c2, c3, ho, c5.kept (hq _ (ob_ia hw.1 a4 c5)), c6.kept (hq _ (ob_ra hw.2 a4 c6))⟩
  · rw [hd j e, hf j e]
    exact ⟨c1, c2, c3, c4.kept (hq _ (fun z => e (inj hj hi z))), c5.kept (hq _ (ob_ia hw.1 a4 c5)), c6.kept (hq _ (ob_ra hw.2 a4 c6))⟩
/-- the count of what is derived changes -/
theorem sc_dc {H1 : Heap} {dc' : Nat} (h : sc_X G b lo n t dv fc rg dc ta na pa H) (ho : ob_ G H1 b 1 [.ref (b + 1), .ref (b + 2), .int (nI n), .int (nI dc'), .ref (b + 3)]) (hz : H1.size = H.size) (hq : ∀ q, q ≠ b → H1[q]? = H[q]?) : sc_X G b lo n t dv fc rg dc' ta na pa H1 := by
  obtain ⟨hw, h0, h4, hl, hn, hX, hR, hM, hZ, hT, hr, hwf⟩ := h
  refine ⟨hw, h0, h4, by omega, hn, ho, hR.kept (hq _ (by omega)), hM.kept (hq _ (by omega)), hZ.kept (hq _ (by omega)), fun j hj => ?_, hr, hwf⟩
  have a := hT j hj
  obtain ⟨a1, a2, a3, a4, a5, a6⟩ := id a
  exact a.kept (hq _ (by omega)) (hq _ (by omega)) (hq _ (by omega))
/-- a register gets a term -/
theorem sc_rg {H1 : Heap} (h : sc_X G b lo n t dv fc rg dc ta na pa H) {k i : Nat} (hk : k < 64) (hi : i < n) (ho : ra_ G H1 (b + 1) 64 (va_up (fun k => (rg k).map ta) k (some (ta i)))) (hz : H1.size = H.size) (hq : ∀ q, q ≠ b + 1 → H1[q]? = H[q]?) : sc_X G b lo n t dv fc (va_up rg k (some i)) dc ta na pa H1 := by
  obtain ⟨hw, h0, h4, hl, hn, hX, hR, hM, hZ, hT, hr, hwf⟩ := h
  refine ⟨hw, h0, h4, by omega, hn, hX.kept (hq _ (by omega)), ra_to ho (fun j hj => ?_), hM.kept (hq _ (by omega)), hZ.kept (hq _ (by omega)), fun j hj => ?_, fun j hj x hx => ?_, hwf⟩
  · by_cases e : j = k
    · subst e; rw [va_up_self, va_up_self]; rfl
    · rw [va_up_ne _ _ e, va_up_ne _ _ e]
  · have a := hT j hj
    obtain ⟨a1, a2, a3, a4, a5, a6⟩ := id a
    exact a.kept (hq _ (by omega)) (hq _ (by omega)) (hq _ (by omega))
  · by_cases e : j = k
    · subst e; rw [va_up_self] at hx; cases hx; exact hi
    · rw [va_up_ne _ _ e] at hx; exact hr j hj x hx
/-- how a term is made doesn't depend on later ones -/
theorem sp_wf_to {t t' : Nat → sp_T} {n : Nat} {d : sp_T} (h : sp_wf t n d) (e : ∀ i, i < n → t' i = t i) : sp_wf t' n d := by
  obtain ⟨hb, h⟩ := h
  refine ⟨hb, ?_⟩
  rcases h with h | ⟨a, b, c, ⟨x, h1, h2⟩, h3⟩ | ⟨a, b, c, ⟨x, y, h1, h2, h3, h4⟩, h5⟩ | h | h | ⟨a, b, c, ⟨x, y, h1, h2, h3⟩, h4⟩ | h
  · exact Or.inl h
  · exact Or.inr (Or.inl ⟨a, b, c, ⟨x, h1, by rw [e x (hb 0 (by omega) x h1)]; exact h2⟩, h3⟩)
  · exact Or.inr (Or.inr (Or.inl ⟨a, b, c, ⟨x, y, h1, h2, by rw [e x (hb 0 (by omega) x h1)]; exact h3, by rw [e y (hb 1 (by omega) y h2)]; exact h4⟩, h5⟩))
  · exact Or.inr (Or.inr (Or.inr (Or.inl h)))
  · exact Or.inr (Or.inr (Or.inr (Or.inr (Or.inl h))))
  · exact Or.inr (Or.inr (Or.inr (Or.inr (Or.inr (Or.inl ⟨a, b, c, ⟨x, y, h1, h2, by rw [e x (hb 0 (by omega) x h1)]; exact h3⟩, h4⟩)))))
  · exact Or.inr (Or.inr (Or.inr (Or.inr (Or.inr (Or.inr h)))))
theorem mapta {ta : Nat → Nat} {n w : Nat} {o : Option Nat} (h : ∀ j, o = some j → j < n) : o.map (va_up ta n w) = o.map ta := by
  cases o with
  | none => rfl
  | some j => rw [Option.map_some, Option.map_some, va_up_ne _ _ (Nat.ne_of_lt (h j rfl))]
/-- one more term -/
theorem sc_grow {H1 : Heap} {d : sp_T} {w nw pw : Nat} (h : sc_X G b lo n t dv fc rg dc ta na pa H) (hn1 : n < 512) (hO : sc_O G H1 b lo ta d w nw pw (nI n) false false) (hne : ∀ i, i < n → ta i ≠ w) (hwf : sp_wf t n d)
    (hX1 : ob_ G H1 b 1 [.ref (b + 1), .ref (b + 2), .int (nI (n + 1)), .int (nI dc), .ref (b + 3)]) (hM1 : ra_ G H1 (b + 2) 512 (va_up (fun k => if k < n then some (ta k) else none) n (some w))) (hz : H1.size = H.size) (hob : ∃ fs, ob_ G H w 0 fs) (hq : ∀ q, q ≠ b → q ≠ b + 2 → q ≠ w → H1[q]? = H[q]?) :
    sc_X G b lo (n + 1) (va_up t n d) (va_up dv n false) (va_up fc n false) rg dc (va_up ta n w) (va_up na n nw) (va_up pa n pw) H1 := by
  obtain ⟨hw, h0, h4, hl, hn, hX, hR, hM, hZ, hT, hr, hwf0⟩ := h
  obtain ⟨fs, hob⟩ := hob
  have hO' := hO
  obtain ⟨o1, o2, o3, o4, o5, o6⟩ := hO
  refine ⟨hw, h0, h4, by omega, by omega, hX1, ?_, ra_to hM1 (fun j hj => ?_), hZ.kept (hq _ (by omega) (by omega) (by omega)), fun i hi => ?_, fun k hk i hi => ?_, fun i hi => ?_⟩
  · exact ra_to (hR.kept (hq _ (by omega) (by omega) (by omega))) (fun j hj => (mapta (hr j hj)).symm)
  · by_cases e : j = n
    · subst e; rw [va_up_self, if_pos (by omega), va_up_self]
    · rw [va_up_ne _ _ e, va_up_ne _ _ e]
      by_cases hjn : j < n
      · rw [if_pos hjn, if_pos (by omega)]
      · rw [if_neg hjn, if_neg (by omega)]
  · by_cases e : i = n
    · subst e
      rw [va_up_self, va_up_self, va_up_self, va_up_self, va_up_self, va_up_self]
      exact ⟨o1, o2, o3, o4, o5, ra_to o6 (fun k hk => (mapta (hwf.1 k hk)).symm)⟩
    · have hin : i < n := by omega
      rw [va_up_ne _ _ e, va_up_ne _ _ e, va_up_ne _ _ e, va_up_ne _ _ e, va_up_ne _ _ e, va_up_ne _ _ e]
      obtain ⟨c1, c2, c3, c4, c5, c6⟩ := hT i hin
      have hbw := hwf0 i hin
      refine ⟨c1, c2, c3, c4.kept (hq _ (by omega) (by omega) (hne i hin)), c5.kept (hq _ (by omega) (by omega) (ob_ia hw.1 hob c5)), ra_to (c6.kept (hq _ (by omega) (by omega) (ob_ra hw.2 hob c6))) (fun k hk => (mapta (fun j hj => Nat.lt_trans (hbw.1 k hk j hj) hin)).symm)⟩
  · have := hr k hk i hi
    omega
  · by_cases e : i = n
    · subst e
      rw [va_up_self]
      exact sp_wf_to hwf (fun j hj => va_up_ne _ _ (Nat.ne_of_lt hj))
    · rw [va_up_ne _ _ e]
      exact sp_wf_to (hwf0 i (by omega)) (fun j hj => va_up_ne _ _ (by omega))
end SCX
end
section
/-! registers, slots, kinds -/
def sp_ir (x : Int32) : Bool := decide (¬ x < 0 ∧ x < 64)
def sp_is (x : Int32) : Bool := decide (¬ x < 0 ∧ x < 4)
def sp_ik (x : Int32) : Bool := decide (1 ≤ x ∧ x ≤ 7)
theorem sp_ir_of {x : Int32} (h : sp_ir x = true) : ∃ j, j < 64 ∧ x = nI j := by
  have h' := of_decide_eq_true h
  rcases pk_ix x (n := 64) (by decide) with a | a | a
  · exact absurd a h'.1
  · exact absurd h'.2 (Int32.not_lt.mpr a)
  · exact a
theorem sp_is_of {x : Int32} (h : sp_is x = true) : ∃ j, j < 4 ∧ x = nI j := by
  have h' := of_decide_eq_true h
  rcases pk_ix x (n := 4) (by decide) with a | a | a
  · exact absurd a h'.1
  · exact absurd h'.2 (Int32.not_lt.mpr a)
  · exact a
theorem sp_ir_nI {j : Nat} (h : j < 64) : sp_ir (nI j) = true := decide_eq_true ⟨nI_pos (by omega), (nI_ltI (a := j) (b := 64) (by omega) (by omega)).mpr h⟩
theorem sp_is_nI {j : Nat} (h : j < 4) : sp_is (nI j) = true := decide_eq_true ⟨nI_pos (by omega), (nI_ltI (a := j) (b := 4) (by omega) (by omega)).mpr h⟩
theorem sp_ik_of {x : Int32} (h : sp_ik x = true) : ∃ k, k < 7 ∧ x = nI (k + 1) := by
  have h' := of_decide_eq_true h
  rcases pk_ix x (n := 8) (by decide) with a | a | ⟨j, hj, e⟩
  · exact absurd (Int32.lt_of_lt_of_le a (show (0 : Int32) ≤ 1 by decide)) (Int32.not_lt.mpr h'.1)
  · exact absurd (Int32.lt_of_lt_of_le (show (7 : Int32) < nI 8 by decide) a) (Int32.not_lt.mpr h'.2)
  · have h1 : 1 ≤ j := (nI_leI (a := 1) (b := j) (by omega) (by omega)).mp (by rw [← e]; exact h'.1)
    exact ⟨j - 1, by omega, by rw [e]; congr 1; omega⟩
def sp_rg (rg : Nat → Option Nat) (x : Int32) : Option Nat := if sp_ir x = true then rg x.toNatClampNeg else none
theorem sp_rg_nI {rg : Nat → Option Nat} {j : Nat} (h : j < 64) : sp_rg rg (nI j) = rg j := by
  unfold sp_rg
  rw [if_pos (sp_ir_nI h), nI_clamp (by omega)]
theorem sp_rg_no {rg : Nat → Option Nat} {x : Int32} (h : sp_ir x = false) : sp_rg rg x = none := by
  unfold sp_rg
  rw [h, if_neg (by decide)]
theorem sp_rg_lt {rg : Nat → Option Nat} {n i : Nat} {x : Int32} (hr : ∀ k, k < 64 → ∀ i, rg k = some i → i < n) (h : sp_rg rg x = some i) : i < n := by
  cases hx : sp_ir x with
  | false => rw [sp_rg_no hx] at h; cases h
  | true =>
    obtain ⟨j, hj, rfl⟩ := sp_ir_of hx
    rw [sp_rg_nI hj] at h
    exact hr j hj i h
def sp_rs (t : Nat → sp_T) (rg : Nat → Option Nat) (x v : Int32) : Option Nat := match sp_rg rg x with
  | some i => if sp_so (t i) = v then some i else none
  | none => none
theorem sp_rs_n {t : Nat → sp_T} {rg : Nat → Option Nat} {x v : Int32} (h : sp_rg rg x = none) : sp_rs t rg x v = none := by unfold sp_rs; rw [h]
theorem sp_rs_s {t : Nat → sp_T} {rg : Nat → Option Nat} {x v : Int32} {i : Nat} (h : sp_rg rg x = some i) (e : sp_so (t i) = v) : sp_rs t rg x v = some i := by unfold sp_rs; rw [h]; exact if_pos e
theorem sp_rs_x {t : Nat → sp_T} {rg : Nat → Option Nat} {x v : Int32} {i : Nat} (h : sp_rg rg x = some i) (e : ¬ sp_so (t i) = v) : sp_rs t rg x v = none := by unfold sp_rs; rw [h]; exact if_neg e
theorem sp_rs_of {t : Nat → sp_T} {rg : Nat → Option Nat} {x v : Int32} {i : Nat} (h : sp_rs t rg x v = some i) : sp_rg rg x = some i ∧ sp_so (t i) = v := by
  unfold sp_rs at h
  split at h
  · rename_i j hj
    split at h
    · rename_i e
      cases h
      exact ⟨hj, e⟩
    · cases h
  · cases h
def sp_tn (rg : Nat → Option Nat) (y : Int32) : Bool := decide (y = -1) || (sp_rg rg y).isSome
/-- four terms -/
def sp_p4 (o1 o2 o3 : Option Nat) : Nat → Option Nat := va_up (va_up (va_up (va_up (fun _ => none) 0 o1) 1 o2) 2 o3) 3 none
theorem sp_p4_map (f : Nat → Nat) (o1 o2 o3 : Option Nat) (k : Nat) : sp_p4 (o1.map f) (o2.map f) (o3.map f) k = (sp_p4 o1 o2 o3 k).map f := by
  unfold sp_p4 va_up
  repeat' split
  all_goals rfl
end
section
set_option maxHeartbeats 4000000 in
set_option maxRecDepth 100000 in
theorem c_X1_isRegister (l : Launch) (G : sg_G) (H : Heap) (x : Int32) : xC l G yX1_isRegister cX1_isRegister 1 (some FieldType.boolean) 0 0 0 [.int x] H (xPu (.int (bI (sp_ir x))) H) := by
  refine xC.start (by decide) (Nat.le_of_ble_eq_true rfl) ?_
  intro p e s m args below meth c ls E hnm hs0 hl
  obtain ⟨hx, hb, hml, hown, hts, hr, hlocks, hK, hbs⟩ := id E
  have hl : lv_has ls 1 [(0, .int x)] := hl
  refine xl (fun _ => lv_iload_n hx hb dX1_isRegister_0 rfl (lv_at hl 0 rfl)) ?_
  refine xb (fun _ => lv_if_lt (tgt := 14) hx hb dX1_isRegister_1 (by decide)) (fun c_1 => ?_) (fun c_1 => ?_)
  · refine xl (fun _ => lv_iconst (v := 0) hx hb dX1_isRegister_14 (by decide)) ?_
    exact x_zret hx hb hr hlocks hs0 hbs (by decide) (by decide) (by decide) dX1_isRegister_15 (pu0 (decide_eq_false (fun z => z.1 c_1)))
  · refine xl (fun _ => lv_iload_n hx hb dX1_isRegister_4 rfl (lv_at hl 0 rfl)) ?_
    refine xl (fun _ => lv_bipush (v := 64) hx hb dX1_isRegister_5 (by decide)) ?_
    refine xb (fun _ => lv_icmp_ge (tgt := 14) hx hb dX1_isRegister_7 (by decide)) (fun c_7 => ?_) (fun c_7 => ?_)
    · refine xl (fun _ => lv_iconst (v := 0) hx hb dX1_isRegister_14 (by decide)) ?_
      exact x_zret hx hb hr hlocks hs0 hbs (by decide) (by decide) (by decide) dX1_isRegister_15 (pu0 (decide_eq_false (fun z => absurd z.2 (Int32.not_lt.mpr c_7))))
    · refine xl (fun _ => lv_iconst (v := 1) hx hb dX1_isRegister_10 (by decide)) ?_
      refine xl (fun _ => lv_goto (tgt := 15) hx hb dX1_isRegister_11 (by decide)) ?_
      exact x_zret hx hb hr hlocks hs0 hbs (by decide) (by decide) (by decide) dX1_isRegister_15 (pu1 (decide_eq_true ⟨c_1, Int32.not_le.mp c_7⟩))

set_option maxHeartbeats 4000000 in
set_option maxRecDepth 100000 in
theorem c_X1_isSlot (l : Launch) (G : sg_G) (H : Heap) (x : Int32) : xC l G yX1_isSlot cX1_isSlot 1 (some FieldType.boolean) 0 0 0 [.int x] H (xPu (.int (bI (sp_is x))) H) := by
  refine xC.start (by decide) (Nat.le_of_ble_eq_true rfl) ?_
  intro p e s m args below meth c ls E hnm hs0 hl
  obtain ⟨hx, hb, hml, hown, hts, hr, hlocks, hK, hbs⟩ := id E
  have hl : lv_has ls 1 [(0, .int x)] := hl
  refine xl (fun _ => lv_iload_n hx hb dX1_isSlot_0 rfl (lv_at hl 0 rfl)) ?_
  refine xb (fun _ => lv_if_lt (tgt := 13) hx hb dX1_isSlot_1 (by decide)) (fun c_1 => ?_) (fun c_1 => ?_)
  · refine xl (fun _ => lv_iconst (v := 0) hx hb dX1_isSlot_13 (by decide)) ?_
    exact x_zret hx hb hr hlocks hs0 hbs (by decide) (by decide) (by decide) dX1_isSlot_14 (pu0 (decide_eq_false (fun z => z.1 c_1)))
  · refine xl (fun _ => lv_iload_n hx hb dX1_isSlot_4 rfl (lv_at hl 0 rfl)) ?_
    refine xl (fun _ => lv_iconst (v := 4) hx hb dX1_isSlot_5 (by decide)) ?_
    refine xb (fun _ => lv_icmp_ge (tgt := 13) hx hb dX1_isSlot_6 (by decide)) (fun c_6 => ?_) (fun c_6 => ?_)
    · refine xl (fun _ => lv_iconst (v := 0) hx hb dX1_isSlot_13 (by decide)) ?_
      exact x_zret hx hb hr hlocks hs0 hbs (by decide) (by decide) (by decide) dX1_isSlot_14 (pu0 (decide_eq_false (fun z => absurd z.2 (Int32.not_lt.mpr c_6))))
    · refine xl (fun _ => lv_iconst (v := 1) hx hb dX1_isSlot_9 (by decide)) ?_
      refine xl (fun _ => lv_goto (tgt := 14) hx hb dX1_isSlot_10 (by decide)) ?_
      exact x_zret hx hb hr hlocks hs0 hbs (by decide) (by decide) (by decide) dX1_isSlot_14 (pu1 (decide_eq_true ⟨c_1, Int32.not_le.mp c_6⟩))

set_option maxHeartbeats 4000000 in
set_option maxRecDepth 100000 in
theorem c_X1_isKind (l : Launch) (G : sg_G) (H : Heap) (x : Int32) : xC l G yX1_isKind cX1_isKind 1 (some FieldType.boolean) 0 0 0 [.int x] H (xPu (.int (bI (sp_ik x))) H) := by
  refine xC.start (by decide) (Nat.le_of_ble_eq_true rfl) ?_
  intro p e s m args below meth c ls E hnm hs0 hl
  obtain ⟨hx, hb, hml, hown, hts, hr, hlocks, hK, hbs⟩ := id E
  have hl : lv_has ls 1 [(0, .int x)] := hl
  refine xl (fun _ => lv_iload_n hx hb dX1_isKind_0 rfl (lv_at hl 0 rfl)) ?_
  refine xl (fun _ => lv_iconst (v := 1) hx hb dX1_isKind_1 (by decide)) ?_
  refine xb (fun _ => lv_icmp_lt (tgt := 15) hx hb dX1_isKind_2 (by decide)) (fun c_2 => ?_) (fun c_2 => ?_)
  · refine xl (fun _ => lv_iconst (v := 0) hx hb dX1_isKind_15 (by decide)) ?_
    exact x_zret hx hb hr hlocks hs0 hbs (by decide) (by decide) (by decide) dX1_isKind_16 (pu0 (decide_eq_false (fun z => absurd c_2 (Int32.not_lt.mpr z.1))))
  · refine xl (fun _ => lv_iload_n hx hb dX1_isKind_5 rfl (lv_at hl 0 rfl)) ?_
    refine xl (fun _ => lv_bipush (v := 7) hx hb dX1_isKind_6 (by decide)) ?_
    refine xb (fun _ => lv_icmp_gt (tgt := 15) hx hb dX1_isKind_8 (by decide)) (fun c_8 => ?_) (fun c_8 => ?_)
    · refine xl (fun _ => lv_iconst (v := 0) hx hb dX1_isKind_15 (by decide)) ?_
      exact x_zret hx hb hr hlocks hs0 hbs (by decide) (by decide) (by decide) dX1_isKind_16 (pu0 (decide_eq_false (fun z => absurd c_8 (Int32.not_lt.mpr z.2))))
    · refine xl (fun _ => lv_iconst (v := 1) hx hb dX1_isKind_11 (by decide)) ?_
      refine xl (fun _ => lv_goto (tgt := 16) hx hb dX1_isKind_12 (by decide)) ?_
      exact x_zret hx hb hr hlocks hs0 hbs (by decide) (by decide) (by decide) dX1_isKind_16 (pu1 (decide_eq_true ⟨Int32.not_lt.mp c_2, Int32.not_lt.mp c_8⟩))

set_option maxHeartbeats 4000000 in
set_option maxRecDepth 100000 in
theorem c_X1_termIn (l : Launch) (G : sg_G) (H : Heap) (b lo n dc : Nat) (t : Nat → sp_T) (dv fc : Nat → Bool) (rg : Nat → Option Nat) (ta na pa : Nat → Nat) (hC : sc_X G b lo n t dv fc rg dc ta na pa H) (x : Int32) : xC l G yX1_termIn cX1_termIn 2 (some (FieldType.object "TermSpread$Term")) 1 0 0 [.ref b, .int x] H (xPu (va_rf ((sp_rg rg x).map ta)) H) := by
  refine xC.start (by decide) (Nat.le_of_ble_eq_true rfl) ?_
  intro p e s m args below meth c ls E hnm hs0 hl
  obtain ⟨hx, hb, hml, hown, hts, hr, hlocks, hK, hbs⟩ := id E
  have hl : lv_has ls 2 [(0, .ref b), (1, .int x)] := hl
  obtain ⟨hw, hb0, hb4, hlo, hn5, hX, hRG, hMD, hZR, hT, hrg, hwf⟩ := id hC
  refine xl (fun _ => lv_iload_n hx hb dX1_termIn_0 rfl (lv_at hl 1 rfl)) ?_
  refine x_callS E hl (c_X1_isRegister l G H x) xm_yX1_isRegister wMX1_109 wS_yX1_isRegister (rest := []) rfl (by decide) (by decide) ⟨by decide, by decide⟩ dX1_termIn_1 (x_pure (r := .int (bI (sp_ir x))) (st1 := []) ?_)
  refine xb (fun _ => lv_if_eq (tgt := 16) hx hb dX1_termIn_4 (by decide)) (fun c_4 => ?_) (fun c_4 => ?_)
  · have c_4 := bI_f c_4
    refine xl (fun _ => lv_null hx hb dX1_termIn_16) ?_
    exact x_aret hx hb hr hlocks hs0 hbs (Or.inl rfl) (by decide) (by decide) dX1_termIn_17 (⟨by rw [sp_rg_no c_4]; rfl, rfl⟩)
  · have c_4 := bI_t c_4
    obtain ⟨j, hj, rfl⟩ := sp_ir_of c_4
    refine xl (fun _ => lv_aload_n hx hb dX1_termIn_7 rfl (lv_at hl 0 rfl)) ?_
    refine x_get (ci := 1) hx hb hts hown hK wiX1 hX rfl 0 (by decide) wFX1_11 rfl rfl dX1_termIn_8 ?_
    refine xl (fun _ => lv_iload_n hx hb dX1_termIn_11 rfl (lv_at hl 1 rfl)) ?_
    refine x_aald hx hb hK hRG j (rfl) (by omega) (by decide) dX1_termIn_12 ?_
    refine xl (fun _ => lv_goto (tgt := 17) hx hb dX1_termIn_13 (by decide)) ?_
    exact x_aret hx hb hr hlocks hs0 hbs (va_rf_or _) (by decide) (by decide) dX1_termIn_17 (⟨by rw [sp_rg_nI hj], rfl⟩)

theorem c_X1_termIn_n (l : Launch) (G : sg_G) (H : Heap) (b lo n dc : Nat) (t : Nat → sp_T) (dv fc : Nat → Bool) (rg : Nat → Option Nat) (ta na pa : Nat → Nat) (hC : sc_X G b lo n t dv fc rg dc ta na pa H) (x : Int32) (h : sp_rg rg x = none) : xC l G yX1_termIn cX1_termIn 2 (some (.object "TermSpread$Term")) 1 0 0 [.ref b, .int x] H (xPu .null H) := by
  have q := c_X1_termIn l G H b lo n dc t dv fc rg ta na pa hC x
  rw [h] at q
  exact q
theorem c_X1_termIn_s (l : Launch) (G : sg_G) (H : Heap) (b lo n dc : Nat) (t : Nat → sp_T) (dv fc : Nat → Bool) (rg : Nat → Option Nat) (ta na pa : Nat → Nat) (hC : sc_X G b lo n t dv fc rg dc ta na pa H) (x : Int32) {i : Nat} (h : sp_rg rg x = some i) : xC l G yX1_termIn cX1_termIn 2 (some (.object "TermSpread$Term")) 1 0 0 [.ref b, .int x] H (xPu (.ref (ta i)) H) := by
  have q := c_X1_termIn l G H b lo n dc t dv fc rg ta na pa hC x
  rw [h] at q
  exact q

set_option maxHeartbeats 4000000 in
set_option maxRecDepth 100000 in
theorem c_X1_termOfSort (l : Launch) (G : sg_G) (H : Heap) (b lo n dc : Nat) (t : Nat → sp_T) (dv fc : Nat → Bool) (rg : Nat → Option Nat) (ta na pa : Nat → Nat) (hC : sc_X G b lo n t dv fc rg dc ta na pa H) (x v : Int32) : xC l G yX1_termOfSort cX1_termOfSort 4 (some (FieldType.object "TermSpread$Term")) 2 0 0 [.ref b, .int x, .int v] H (xPu (va_rf ((sp_rs t rg x v).map ta)) H) := by
  refine xC.start (by decide) (Nat.le_of_ble_eq_true rfl) ?_
  intro p e s m args below meth c ls E hnm hs0 hl
  obtain ⟨hx, hb, hml, hown, hts, hr, hlocks, hK, hbs⟩ := id E
  have hl : lv_has ls 4 [(0, .ref b), (1, .int x), (2, .int v)] := hl
  obtain ⟨hw, hb0, hb4, hlo, hn5, hX, hRG, hMD, hZR, hT, hrg, hwf⟩ := id hC
  refine xl (fun _ => lv_aload_n hx hb dX1_termOfSort_0 rfl (lv_at hl 0 rfl)) ?_
  refine xl (fun _ => lv_iload_n hx hb dX1_termOfSort_1 rfl (lv_at hl 1 rfl)) ?_
  rcases hs_2 : sp_rg rg x with _ | i
  · refine x_callV E hl (c_X1_termIn_n l G H b lo n dc t dv fc rg ta na pa hC x hs_2) xm_yX1_termIn wMX1_49 wI_yX1_termIn wT_yX1_termIn (ci := 1) rfl rfl hX (rest := []) rfl (by decide) (by decide) ⟨by decide, by decide⟩ dX1_termOfSort_2 (x_pure (r := .null) (st1 := []) ?_)
    refine xs (fun _ => lv_astore_nN (i := 3) (lv' := [(3, .null), (0, .ref b), (1, .int x), (2, .int v)]) hx hb dX1_termOfSort_5 rfl hl (by decide) (rfl)) (fun ls hl => ?_)
    refine xl (fun _ => lv_aload_nN hx hb dX1_termOfSort_6 rfl (lv_at hl 0 rfl)) ?_
    refine xl (fun _ => lv_ifnullN (tgt := 22) hx hb dX1_termOfSort_7 (by decide)) ?_
    refine xl (fun _ => lv_null hx hb dX1_termOfSort_22) ?_
    exact x_aret hx hb hr hlocks hs0 hbs (Or.inl rfl) (by decide) (by decide) dX1_termOfSort_23 (⟨by rw [sp_rs_n hs_2]; rfl, rfl⟩)
  · have hi := sp_rg_lt hrg hs_2
    refine x_callV E hl (c_X1_termIn_s l G H b lo n dc t dv fc rg ta na pa hC x hs_2) xm_yX1_termIn wMX1_49 wI_yX1_termIn wT_yX1_termIn (ci := 1) rfl rfl hX (rest := []) rfl (by decide) (by decide) ⟨by decide, by decide⟩ dX1_termOfSort_2 (x_pure (r := .ref (ta i)) (st1 := []) ?_)
    refine xs (fun _ => lv_astore_n (i := 3) (lv' := [(3, .ref (ta i)), (0, .ref b), (1, .int x), (2, .int v)]) hx hb dX1_termOfSort_5 rfl hl (by decide) (rfl)) (fun ls hl => ?_)
    refine xl (fun _ => lv_aload_n hx hb dX1_termOfSort_6 rfl (lv_at hl 0 rfl)) ?_
    refine xl (fun _ => lv_ifnull hx hb dX1_termOfSort_7) ?_
    refine xl (fun _ => lv_aload_n hx hb dX1_termOfSort_10 rfl (lv_at hl 0 rfl)) ?_
    refine x_get (ci := 0) hx hb hts hown hK wiX0 ((hT i hi).2.2.2.1) rfl 0 (by decide) wFX1_78 rfl rfl dX1_termOfSort_11 ?_
    refine xl (fun _ => lv_iload_n hx hb dX1_termOfSort_14 rfl (lv_at hl 3 rfl)) ?_
    refine xb (fun _ => lv_icmp_ne (tgt := 22) hx hb dX1_termOfSort_15 (by decide)) (fun c_15 => ?_) (fun c_15 => ?_)
    · refine xl (fun _ => lv_null hx hb dX1_termOfSort_22) ?_
      exact x_aret hx hb hr hlocks hs0 hbs (Or.inl rfl) (by decide) (by decide) dX1_termOfSort_23 (⟨by rw [sp_rs_x hs_2 c_15]; rfl, rfl⟩)
    · refine xl (fun _ => lv_aload_n hx hb dX1_termOfSort_18 rfl (lv_at hl 0 rfl)) ?_
      refine xl (fun _ => lv_goto (tgt := 23) hx hb dX1_termOfSort_19 (by decide)) ?_
      exact x_aret hx hb hr hlocks hs0 hbs (Or.inr ⟨_, rfl⟩) (by decide) (by decide) dX1_termOfSort_23 (⟨by rw [sp_rs_s hs_2 c_15]; rfl, rfl⟩)

theorem c_X1_termOfSort_n (l : Launch) (G : sg_G) (H : Heap) (b lo n dc : Nat) (t : Nat → sp_T) (dv fc : Nat → Bool) (rg : Nat → Option Nat) (ta na pa : Nat → Nat) (hC : sc_X G b lo n t dv fc rg dc ta na pa H) (x v : Int32) (h : sp_rs t rg x v = none) : xC l G yX1_termOfSort cX1_termOfSort 4 (some (.object "TermSpread$Term")) 2 0 0 [.ref b, .int x, .int v] H (xPu .null H) := by
  have q := c_X1_termOfSort l G H b lo n dc t dv fc rg ta na pa hC x v
  rw [h] at q
  exact q
theorem c_X1_termOfSort_s (l : Launch) (G : sg_G) (H : Heap) (b lo n dc : Nat) (t : Nat → sp_T) (dv fc : Nat → Bool) (rg : Nat → Option Nat) (ta na pa : Nat → Nat) (hC : sc_X G b lo n t dv fc rg dc ta na pa H) (x v : Int32) {i : Nat} (h : sp_rs t rg x v = some i) : xC l G yX1_termOfSort cX1_termOfSort 4 (some (.object "TermSpread$Term")) 2 0 0 [.ref b, .int x, .int v] H (xPu (.ref (ta i)) H) := by
  have q := c_X1_termOfSort l G H b lo n dc t dv fc rg ta na pa hC x v
  rw [h] at q
  exact q

set_option maxHeartbeats 4000000 in
set_option maxRecDepth 100000 in
theorem c_X1_isTermOrNothing (l : Launch) (G : sg_G) (H : Heap) (b lo n dc : Nat) (t : Nat → sp_T) (dv fc : Nat → Bool) (rg : Nat → Option Nat) (ta na pa : Nat → Nat) (hC : sc_X G b lo n t dv fc rg dc ta na pa H) (y : Int32) : xC l G yX1_isTermOrNothing cX1_isTermOrNothing 2 (some FieldType.boolean) 2 0 0 [.ref b, .int y] H (xPu (.int (bI (sp_tn rg y))) H) := by
  refine xC.start (by decide) (Nat.le_of_ble_eq_true rfl) ?_
  intro p e s m args below meth c ls E hnm hs0 hl
  obtain ⟨hx, hb, hml, hown, hts, hr, hlocks, hK, hbs⟩ := id E
  have hl : lv_has ls 2 [(0, .ref b), (1, .int y)] := hl
  obtain ⟨hw, hb0, hb4, hlo, hn5, hX, hRG, hMD, hZR, hT, hrg, hwf⟩ := id hC
  refine xl (fun _ => lv_iload_n hx hb dX1_isTermOrNothing_0 rfl (lv_at hl 1 rfl)) ?_
  refine xl (fun _ => lv_iconst (v := (-1)) hx hb dX1_isTermOrNothing_1 (by decide)) ?_
  refine xb (fun _ => lv_icmp_eq (tgt := 13) hx hb dX1_isTermOrNothing_2 (by decide)) (fun c_2 => ?_) (fun c_2 => ?_)
  · refine xl (fun _ => lv_iconst (v := 1) hx hb dX1_isTermOrNothing_13 (by decide)) ?_
    refine xl (fun _ => lv_goto (tgt := 18) hx hb dX1_isTermOrNothing_14 (by decide)) ?_
    exact x_zret hx hb hr hlocks hs0 hbs (by decide) (by decide) (by decide) dX1_isTermOrNothing_18 (pu1 (by simp [sp_tn, c_2]))
  · refine xl (fun _ => lv_aload_n hx hb dX1_isTermOrNothing_5 rfl (lv_at hl 0 rfl)) ?_
    refine xl (fun _ => lv_iload_n hx hb dX1_isTermOrNothing_6 rfl (lv_at hl 1 rfl)) ?_
    rcases hs_7 : sp_rg rg y with _ | i
    · refine x_callV E hl (c_X1_termIn_n l G H b lo n dc t dv fc rg ta na pa hC y hs_7) xm_yX1_termIn wMX1_49 wI_yX1_termIn wT_yX1_termIn (ci := 1) rfl rfl hX (rest := []) rfl (by decide) (by decide) ⟨by decide, by decide⟩ dX1_isTermOrNothing_7 (x_pure (r := .null) (st1 := []) ?_)
      refine xl (fun _ => lv_ifnullN (tgt := 17) hx hb dX1_isTermOrNothing_10 (by decide)) ?_
      refine xl (fun _ => lv_iconst (v := 0) hx hb dX1_isTermOrNothing_17 (by decide)) ?_
      exact x_zret hx hb hr hlocks hs0 hbs (by decide) (by decide) (by decide) dX1_isTermOrNothing_18 (pu0 (by simp [sp_tn, hs_7, c_2]))
    · have hi := sp_rg_lt hrg hs_7
      refine x_callV E hl (c_X1_termIn_s l G H b lo n dc t dv fc rg ta na pa hC y hs_7) xm_yX1_termIn wMX1_49 wI_yX1_termIn wT_yX1_termIn (ci := 1) rfl rfl hX (rest := []) rfl (by decide) (by decide) ⟨by decide, by decide⟩ dX1_isTermOrNothing_7 (x_pure (r := .ref (ta i)) (st1 := []) ?_)
      refine xl (fun _ => lv_ifnull hx hb dX1_isTermOrNothing_10) ?_
      refine xl (fun _ => lv_iconst (v := 1) hx hb dX1_isTermOrNothing_13 (by decide)) ?_
      refine xl (fun _ => lv_goto (tgt := 18) hx hb dX1_isTermOrNothing_14 (by decide)) ?_
      exact x_zret hx hb hr hlocks hs0 hbs (by decide) (by decide) (by decide) dX1_isTermOrNothing_18 (pu1 (by simp [sp_tn, hs_7]))

set_option maxHeartbeats 4000000 in
set_option maxRecDepth 100000 in
theorem c_X1_plainTerm (l : Launch) (G : sg_G) (H : Heap) (b dc : Nat) (xn : Int32) (hX : ob_ G H b 1 [.ref (b + 1), .ref (b + 2), .int xn, .int (nI dc), .ref (b + 3)]) (so la : Int32) (o1 o2 o3 : Option Nat) (h1 : ∀ v, o1 = some v → ∃ fs, ob_ G H v 0 fs) (h2 : ∀ v, o2 = some v → ∃ fs, ob_ G H v 0 fs) (h3 : ∀ v, o3 = some v → ∃ fs, ob_ G H v 0 fs) : xC l G yX1_plainTerm cX1_plainTerm 7 (some (FieldType.object "TermSpread$Term")) 2 2 11 [.ref b, .int so, .int la, va_rf o1, va_rf o2, va_rf o3] H (fun r H' => r = some (.ref (H.size + 1)) ∧ tob G H' (H.size + 1) so la (b + 3) H.size 0 false false ∧ ra_ G H' H.size 4 (sp_p4 o1 o2 o3) ∧ H'.size = H.size + 2 ∧ ∀ q, q < H.size → H'[q]? = H[q]?) := by
  refine xC.start (by decide) (by simp [lg_sl, cat_rf, cat_int, cat_ref, cat_null]) ?_
  intro p e s m args below meth c ls E hnm hs0 hl
  obtain ⟨hx, hb, hml, hown, hts, hr, hlocks, hK, hbs⟩ := id E
  have hl : lv_has ls 7 [(0, .ref b), (1, .int so), (2, .int la), (3, va_rf o1), (4, va_rf o2), (5, va_rf o3)] := by simpa [lv_args, cat_rf, cat_int, cat_ref, cat_null] using hl
  have hBH : sg_B G ≤ H.size := by rw [← hs0]; exact hbs
  refine xl (fun _ => lv_iconst (v := 4) hx hb dX1_plainTerm_0 (by decide)) ?_
  refine x_newr (N := 4) hx hb hts hown hK wKX1_9 (by decide) (by decide) (by decide) (by decide) (by decide) dX1_plainTerm_1 (fun H_1 ho_2 hz_3 hq_4 => ?_)
  have k_5 := va_at.kept (H1 := H_1) (hX) (hq_4 _ (va_at.lt (hX)))
  have hF : ∀ q, q < H.size → H_1[q]? = H[q]? := hq_4
  have hZ : H_1.size = H.size + 1 := hz_3
  refine xl (fun _ => lv_dup hx hb dX1_plainTerm_4 rfl) ?_
  refine xl (fun _ => lv_iconst (v := 0) hx hb dX1_plainTerm_5 (by decide)) ?_
  refine x_aload_nq hx hb dX1_plainTerm_6 rfl (lv_at hl 3 rfl) ?_
  refine x_aast (o := o1) hx hb hK ho_2 (fun v h => by obtain ⟨fs, hf⟩ := h1 v h; exact ⟨fs, va_at.kept hf (hF _ (va_at.lt hf))⟩) 0 (rfl) (by decide) (by decide) (by omega) dX1_plainTerm_7 (fun H_6 ho_7 hz_8 hq_9 => ?_)
  have ho_7 : ra_ G H_6 H.size 4 (va_up (fun _ => none) 0 o1) := ho_7
  have k_10 := va_at.kept (H1 := H_6) (k_5) (hq_9 _ (by have := va_at.lt hX; omega))
  have hF : ∀ q, q < H.size → H_6[q]? = H[q]? := fun q h => (hq_9 q (by omega)).trans (hF q h)
  have hZ : H_6.size = H.size + 1 := hz_8.trans hZ
  refine xl (fun _ => lv_dup hx hb dX1_plainTerm_8 rfl) ?_
  refine xl (fun _ => lv_iconst (v := 1) hx hb dX1_plainTerm_9 (by decide)) ?_
  refine x_aloadq hx hb dX1_plainTerm_10 (lv_at hl 4 rfl) ?_
  refine x_aast (o := o2) hx hb hK ho_7 (fun v h => by obtain ⟨fs, hf⟩ := h2 v h; exact ⟨fs, va_at.kept hf (hF _ (va_at.lt hf))⟩) 1 (rfl) (by decide) (by decide) (by omega) dX1_plainTerm_12 (fun H_11 ho_12 hz_13 hq_14 => ?_)
  have ho_12 : ra_ G H_11 H.size 4 (va_up (va_up (fun _ => none) 0 o1) 1 o2) := ho_12
  have k_15 := va_at.kept (H1 := H_11) (k_10) (hq_14 _ (by have := va_at.lt hX; omega))
  have hF : ∀ q, q < H.size → H_11[q]? = H[q]? := fun q h => (hq_14 q (by omega)).trans (hF q h)
  have hZ : H_11.size = H.size + 1 := hz_13.trans hZ
  refine xl (fun _ => lv_dup hx hb dX1_plainTerm_13 rfl) ?_
  refine xl (fun _ => lv_iconst (v := 2) hx hb dX1_plainTerm_14 (by decide)) ?_
  refine x_aloadq hx hb dX1_plainTerm_15 (lv_at hl 5 rfl) ?_
  refine x_aast (o := o3) hx hb hK ho_12 (fun v h => by obtain ⟨fs, hf⟩ := h3 v h; exact ⟨fs, va_at.kept hf (hF _ (va_at.lt hf))⟩) 2 (rfl) (by decide) (by decide) (by omega) dX1_plainTerm_17 (fun H_16 ho_17 hz_18 hq_19 => ?_)
  have ho_17 : ra_ G H_16 H.size 4 (va_up (va_up (va_up (fun _ => none) 0 o1) 1 o2) 2 o3) := ho_17
  have k_20 := va_at.kept (H1 := H_16) (k_15) (hq_19 _ (by have := va_at.lt hX; omega))
  have hF : ∀ q, q < H.size → H_16[q]? = H[q]? := fun q h => (hq_19 q (by omega)).trans (hF q h)
  have hZ : H_16.size = H.size + 1 := hz_18.trans hZ
  refine xl (fun _ => lv_dup hx hb dX1_plainTerm_18 rfl) ?_
  refine xl (fun _ => lv_iconst (v := 3) hx hb dX1_plainTerm_19 (by decide)) ?_
  refine xl (fun _ => lv_null hx hb dX1_plainTerm_20) ?_
  refine x_aast (o := none) hx hb hK ho_17 (fun v h => by cases h) 3 (rfl) (by decide) (by decide) (by omega) dX1_plainTerm_21 (fun H_21 ho_22 hz_23 hq_24 => ?_)
  have ho_22 : ra_ G H_21 H.size 4 (va_up (va_up (va_up (va_up (fun _ => none) 0 o1) 1 o2) 2 o3) 3 none) := ho_22
  have k_25 := va_at.kept (H1 := H_21) (k_20) (hq_24 _ (by have := va_at.lt hX; omega))
  have hF : ∀ q, q < H.size → H_21[q]? = H[q]? := fun q h => (hq_24 q (by omega)).trans (hF q h)
  have hZ : H_21.size = H.size + 1 := hz_23.trans hZ
  refine xs (fun _ => lv_astore (i := 6) (lv' := [(6, .ref H.size), (0, .ref b), (1, .int so), (2, .int la), (3, va_rf o1), (4, va_rf o2), (5, va_rf o3)]) hx hb dX1_plainTerm_22 hl (by decide) (by simp [List.filter, cat_rf, cat_int, cat_ref, cat_null])) (fun ls hl => ?_)
  refine x_new (ci := 0) (fs := [.int 0, .int 0, .null, .null, .int 0, .int 0, .int 0]) hx hb hts hown hK wiX0 tyX0 tyX0_ok wKX1_9 wN_X0 wZ_X0 rfl (fun j hj => by rcases (show j = 0 ∨ j = 1 ∨ j = 2 ∨ j = 3 ∨ j = 4 ∨ j = 5 ∨ j = 6 by omega) with rfl | rfl | rfl | rfl | rfl | rfl | rfl <;> rfl) (by decide) (by decide) dX1_plainTerm_24 (fun H_26 ho_27 hz_28 hq_29 => ?_)
  have k_30 := va_at.kept (H1 := H_26) (k_25) (hq_29 _ (va_at.lt (k_25)))
  have k_31 := va_at.kept (H1 := H_26) (ho_22) (hq_29 _ (va_at.lt (ho_22)))
  have hA2 := k_31
  refine xl (fun _ => lv_dup hx hb dX1_plainTerm_27 rfl) ?_
  refine xl (fun _ => lv_iload_n hx hb dX1_plainTerm_28 rfl (lv_at hl 2 rfl)) ?_
  refine xl (fun _ => lv_iload_n hx hb dX1_plainTerm_29 rfl (lv_at hl 3 rfl)) ?_
  refine xl (fun _ => lv_aload_n hx hb dX1_plainTerm_30 rfl (lv_at hl 1 rfl)) ?_
  refine x_get (ci := 1) hx hb hts hown hK wiX1 k_30 rfl 4 (by decide) wFX1_25 rfl rfl dX1_plainTerm_31 ?_
  refine xl (fun _ => lv_aload hx hb dX1_plainTerm_34 (lv_at hl 0 rfl)) ?_
  refine x_callI E hl (c_X0_init l G H_26 H_21.size (b + 3) H.size so la ho_27 (by omega)) xm_yX0_init rfl wMX1_112 wI_yX0_init (rest := [.ref H_21.size]) rfl (by simp [cat_rf, cat_int, cat_ref, cat_null]) (by decide) ⟨by decide, by decide⟩ dX1_plainTerm_36 (fun v_32 H_33 hp_34 hz_35 hq_36 => ?_)
  obtain ⟨rfl, ht1, ht2, ht3⟩ := hp_34
  refine xg (g2 := F0 m 39 ls [.ref H_21.size]) rfl ?_
  exact x_aret hx hb hr hlocks hs0 hbs (Or.inr ⟨_, rfl⟩) (by decide) (by decide) dX1_plainTerm_39 (⟨by rw [hZ], by rw [← hZ]; exact ht1, va_at.kept (H1 := H_33) hA2 (ht3 _ (by omega)), by omega, fun q h => ((ht3 q (by omega)).trans (hq_29 q (by omega))).trans (hF q h)⟩)
end
section
/-! DERIVING, as the class does it -/
abbrev sp_B (dv : Nat → Bool) : Nat → Prop := fun j => dv j = true
def fcI (n : Nat) (t : Nat → sp_T) (dv fc : Nat → Bool) : Prop := ∀ x, x < n → sp_so (t x) = 1 → (fc x = true ↔ sp_sh n t (sp_B dv) x)
def sc_V (G : sg_G) (b lo n : Nat) (t : Nat → sp_T) (rg : Nat → Option Nat) (ta na pa : Nat → Nat) (dv : Nat → Bool) (H : Heap) : Prop := ∃ fc, sc_X G b lo n t dv fc rg (sp_ct dv n) ta na pa H ∧ fcI n t dv fc
theorem sp_up_id {dv : Nat → Bool} {i : Nat} (h : dv i = true) : sp_up dv i = dv := by
  funext j
  by_cases e : j = i
  · rw [e, sp_up_self, h]
  · exact sp_up_ne dv e
def sp_uo (dv : Nat → Bool) (o : Option Nat) : Nat → Bool := match o with
  | none => dv
  | some i => sp_up dv i
def sp_us (dv : Nat → Bool) (p : Nat → Option Nat) : Nat → Nat → Bool
  | 0 => dv
  | k + 1 => sp_uo (sp_us dv p k) (p k)
def sp_pi (dv : Nat → Bool) (o : Option Nat) : Bool := match o with
  | none => true
  | some j => dv j
def sp_ta (t : Nat → sp_T) (dv : Nat → Bool) (i : Nat) : Nat → Bool :=
  if sp_so (t i) = 7 then sp_us dv (sp_pa (t i)) 4
  else if sp_so (t i) = 5 then (if sp_pi (sp_uo dv (sp_pa (t i) 1)) (sp_pa (t i) 0) = true then sp_uo (sp_uo dv (sp_pa (t i) 1)) (sp_pa (t i) 2) else sp_uo dv (sp_pa (t i) 1))
  else if sp_so (t i) = 6 then sp_uo dv (sp_pa (t i) 1) else dv
def sp_tA (t : Nat → sp_T) : Nat → (Nat → Bool) → Nat → Bool
  | 0, dv => dv
  | k + 1, dv => sp_tA t k (if dv k = true then sp_ta t dv k else dv)
noncomputable def mkB (n : Nat) (t : Nat → sp_T) (dv : Nat → Bool) (i : Nat) : Bool := @decide (sp_mk n t (sp_B dv) (t i)) (Classical.propDecidable _)
noncomputable def sp_pA (n : Nat) (t : Nat → sp_T) (dv : Nat → Bool) : Nat → Nat → Bool
  | 0 => dv
  | k + 1 => if sp_pA n t dv k k = false ∧ mkB n t (sp_pA n t dv k) k = true then sp_up (sp_pA n t dv k) k else sp_pA n t dv k
theorem mkB_t {n : Nat} {t : Nat → sp_T} {dv : Nat → Bool} {i : Nat} : mkB n t dv i = true ↔ sp_mk n t (sp_B dv) (t i) := by
  unfold mkB
  exact @decide_eq_true_iff _ (Classical.propDecidable _)
/-! what grows -/
theorem sp_uo_ext {dv : Nat → Bool} {o : Option Nat} {j : Nat} (h : dv j = true) : sp_uo dv o j = true := by
  cases o with
  | none => exact h
  | some i => exact sp_up_mono dv i j h
theorem sp_uo_in {dv : Nat → Bool} {o : Option Nat} : sp_in (sp_B (sp_uo dv o)) o := by
  intro j e
  subst e
  exact sp_up_self dv j
theorem sp_uo_of {dv : Nat → Bool} {o : Option Nat} {D : Nat → Prop} {n : Nat} (h : ∀ i, i < n → dv i = true → D i) (ho : sp_in D o) : ∀ i, i < n → sp_uo dv o i = true → D i := by
  intro i hi e
  cases o with
  | none => exact h i hi e
  | some x =>
    rcases sp_up_of e with rfl | e
    · exact ho i rfl
    · exact h i hi e
theorem sp_us_ext {dv : Nat → Bool} {p : Nat → Option Nat} (k : Nat) {j : Nat} (h : dv j = true) : sp_us dv p k j = true := by
  induction k with
  | zero => exact h
  | succ k ih => exact sp_uo_ext ih
theorem sp_us_in {dv : Nat → Bool} {p : Nat → Option Nat} (m : Nat) : ∀ k, k < m → sp_in (sp_B (sp_us dv p m)) (p k) := by
  induction m with
  | zero => intro k hk; omega
  | succ m ih =>
    intro k hk
    by_cases e : k = m
    · subst e; exact sp_uo_in
    · intro j ej
      exact sp_uo_ext (ih k (by omega) j ej)
theorem sp_us_of {dv : Nat → Bool} {p : Nat → Option Nat} {D : Nat → Prop} {n : Nat} (h : ∀ i, i < n → dv i = true → D i) (m : Nat) (ho : ∀ k, k < m → sp_in D (p k)) : ∀ i, i < n → sp_us dv p m i = true → D i := by
  induction m with
  | zero => exact h
  | succ m ih => exact sp_uo_of (ih (fun k hk => ho k (by omega))) (ho m (by omega))
theorem sp_pi_in {dv : Nat → Bool} {o : Option Nat} : sp_pi dv o = true ↔ sp_in (sp_B dv) o := by
  cases o with
  | none => exact ⟨fun _ j e => (by cases e), fun _ => rfl⟩
  | some x => exact ⟨fun h j e => by cases e; exact h, fun h => h x rfl⟩
theorem sp_ta_ext {t : Nat → sp_T} {dv : Nat → Bool} {i j : Nat} (h : dv j = true) : sp_ta t dv i j = true := by
  unfold sp_ta
  split
  · exact sp_us_ext 4 h
  · split
    · split
      · exact sp_uo_ext (sp_uo_ext h)
      · exact sp_uo_ext h
    · split
      · exact sp_uo_ext h
      · exact h
theorem sp_in_ofl {S D : Nat → Prop} {n : Nat} (h : ∀ i, i < n → S i → D i) {o : Option Nat} (ho : ∀ j, o = some j → j < n) (a : sp_in S o) : sp_in D o := fun j e => h j (ho j e) (a j e)
theorem sp_ta_of {t : Nat → sp_T} {dv : Nat → Bool} {D : Nat → Prop} {n i : Nat} (h : ∀ i, i < n → dv i = true → D i) (hb : sp_bd n (t i)) (ha : sp_an D (t i)) : ∀ j, j < n → sp_ta t dv i j = true → D j := by
  unfold sp_ta
  split
  · rename_i h7
    exact sp_us_of h 4 (ha.1 h7)
  · split
    · rename_i h5
      have h1 := sp_uo_of h (ha.2.1 h5).1
      split
      · rename_i hk
        exact sp_uo_of h1 ((ha.2.1 h5).2 (sp_in_ofl h1 (hb 0 (by omega)) (sp_pi_in.mp hk)))
      · exact h1
    · split
      · rename_i h6
        exact sp_uo_of h (ha.2.2 h6)
      · exact h
/-- taken apart, and nothing new: it was closed there -/
theorem sp_ta_an {t : Nat → sp_T} {dv : Nat → Bool} {n i : Nat} (hb : sp_bd n (t i)) (h : ∀ j, j < n → sp_ta t dv i j = true → dv j = true) : sp_an (sp_B dv) (t i) := by
  refine ⟨fun h7 k hk => ?_, fun h5 => ?_, fun h6 => ?_⟩
  · have e : sp_ta t dv i = sp_us dv (sp_pa (t i)) 4 := by unfold sp_ta; rw [if_pos h7]
    rw [e] at h
    exact sp_in_ofl (S := sp_B (sp_us dv (sp_pa (t i)) 4)) h (hb k hk) (sp_us_in 4 k hk)
  · have n7 : ¬ sp_so (t i) = 7 := by rw [h5]; decide
    have e : sp_ta t dv i = (if sp_pi (sp_uo dv (sp_pa (t i) 1)) (sp_pa (t i) 0) = true then sp_uo (sp_uo dv (sp_pa (t i) 1)) (sp_pa (t i) 2) else sp_uo dv (sp_pa (t i) 1)) := by unfold sp_ta; rw [if_neg n7, if_pos h5]
    rw [e] at h
    refine ⟨?_, fun hk => ?_⟩
    · intro j ej
      refine h j (hb 1 (by omega) j ej) ?_
      split
      · exact sp_uo_ext (sp_uo_in j ej)
      · exact sp_uo_in j ej
    · have hp : sp_pi (sp_uo dv (sp_pa (t i) 1)) (sp_pa (t i) 0) = true := sp_pi_in.mpr (fun j ej => sp_uo_ext (hk j ej))
      rw [if_pos hp] at h
      intro j ej
      exact h j (hb 2 (by omega) j ej) (sp_uo_in j ej)
  · have n7 : ¬ sp_so (t i) = 7 := by rw [h6]; decide
    have n5 : ¬ sp_so (t i) = 5 := by rw [h6]; decide
    have e : sp_ta t dv i = sp_uo dv (sp_pa (t i) 1) := by unfold sp_ta; rw [if_neg n7, if_neg n5, if_pos h6]
    rw [e] at h
    intro j ej
    exact h j (hb 1 (by omega) j ej) (sp_uo_in j ej)
theorem sp_an_to {n : Nat} {S S' : Nat → Prop} {d : sp_T} (hb : sp_bd n d) (h : ∀ i, i < n → (S i ↔ S' i)) (a : sp_an S d) : sp_an S' d :=
  ⟨fun h7 k hk => sp_in_ofl (fun i hi => (h i hi).mp) (hb k hk) (a.1 h7 k hk), fun h5 => ⟨sp_in_ofl (fun i hi => (h i hi).mp) (hb 1 (by omega)) (a.2.1 h5).1, fun hk => sp_in_ofl (fun i hi => (h i hi).mp) (hb 2 (by omega)) ((a.2.1 h5).2 (sp_in_ofl (fun i hi => (h i hi).mpr) (hb 0 (by omega)) hk))⟩, fun h6 => sp_in_ofl (fun i hi => (h i hi).mp) (hb 1 (by omega)) (a.2.2 h6)⟩
theorem sp_sh_to {n : Nat} {t : Nat → sp_T} {S S' : Nat → Prop} (h : ∀ i, i < n → S i → S' i) {x : Nat} (hx : x < n) (a : sp_sh n t S x) : sp_sh n t S' x := by
  rcases a with a | ⟨j, h1, h2, h3, h4⟩
  · exact Or.inl (h x hx a)
  · exact Or.inr ⟨j, h1, h2, h3, h j h1 h4⟩
theorem sp_mk_to {n : Nat} {t : Nat → sp_T} {S S' : Nat → Prop} {d : sp_T} (hb : sp_bd n d) (h : ∀ i, i < n → S i → S' i) (a : sp_mk n t S d) : sp_mk n t S' d := by
  rcases a with ⟨h1, x, y, h2, h3, h4⟩ | ⟨h1, h2, h3⟩
  · refine Or.inl ⟨h1, x, y, h2, h3, ?_⟩
    have hx := hb 0 (by omega) x h2
    have hy := hb 1 (by omega) y h3
    rcases h4 with ⟨u, v⟩ | ⟨u, v⟩
    · exact Or.inl ⟨h x hx u, sp_sh_to h hy v⟩
    · exact Or.inr ⟨h y hy u, sp_sh_to h hx v⟩
  · exact Or.inr ⟨h1, h2, fun k hk => sp_in_ofl h (hb k hk) (h3 k hk)⟩
theorem sp_tA_ext {t : Nat → sp_T} (k : Nat) : ∀ {dv : Nat → Bool} {j : Nat}, dv j = true → sp_tA t k dv j = true := by
  induction k with
  | zero => intro dv j h; exact h
  | succ k ih =>
    intro dv j h
    refine ih ?_
    split
    · exact sp_ta_ext h
    · exact h
theorem sp_tA_of {t : Nat → sp_T} {D : Nat → Prop} {n : Nat} (hb : ∀ i, i < n → sp_bd n (t i)) (ha : ∀ i, i < n → D i → sp_an D (t i)) (k : Nat) : k ≤ n → ∀ {dv : Nat → Bool}, (∀ i, i < n → dv i = true → D i) → ∀ j, j < n → sp_tA t k dv j = true → D j := by
  induction k with
  | zero => intro _ dv h; exact h
  | succ k ih =>
    intro hk dv h
    refine ih (by omega) (dv := if dv k = true then sp_ta t dv k else dv) ?_
    split
    · rename_i hdk
      exact sp_ta_of h (hb k (by omega)) (ha k (by omega) (h k (by omega) hdk))
    · exact h
theorem sp_tA_an {t : Nat → sp_T} {n : Nat} (hb : ∀ i, i < n → sp_bd n (t i)) (k : Nat) : k ≤ n → ∀ {dv : Nat → Bool}, (∀ j, j < n → sp_tA t k dv j = true → dv j = true) → ∀ i, i < k → dv i = true → sp_an (sp_B dv) (t i) := by
  induction k with
  | zero => intro _ dv _ i hi; omega
  | succ k ih =>
    intro hk dv h i hi hdi
    have e1 : ∀ j, j < n → ((if dv k = true then sp_ta t dv k else dv) j = true ↔ dv j = true) := by
      intro j hj
      refine ⟨fun a => h j hj (sp_tA_ext k a), fun a => ?_⟩
      split
      · exact sp_ta_ext a
      · exact a
    by_cases e : i = k
    · subst e
      rw [if_pos hdi] at e1
      exact sp_ta_an (hb i (by omega)) (fun j hj a => (e1 j hj).mp a)
    · have := ih (by omega) (dv := if dv k = true then sp_ta t dv k else dv) (fun j hj a => (e1 j hj).mpr (h j hj a)) i (by omega) ((e1 i (by omega)).mpr hdi)
      exact sp_an_to (hb i (by omega)) e1 this
theorem sp_pA_ext {n : Nat} {t : Nat → sp_T} {dv : Nat → Bool} (k : Nat) {j : Nat} (h : dv j = true) : sp_pA n t dv k j = true := by
  induction k with
  | zero => exact h
  | succ k ih =>
    show (if _ then _ else _ : Nat → Bool) j = true
    split
    · exact sp_up_mono _ _ _ ih
    · exact ih
theorem sp_pA_of {n : Nat} {t : Nat → sp_T} {D : Nat → Prop} (hb : ∀ i, i < n → sp_bd n (t i)) (hm : ∀ i, i < n → sp_mk n t D (t i) → D i) {dv : Nat → Bool} (h : ∀ i, i < n → dv i = true → D i) (k : Nat) : k ≤ n → ∀ j, j < n → sp_pA n t dv k j = true → D j := by
  induction k with
  | zero => intro _; exact h
  | succ k ih =>
    intro hk
    have ih := ih (by omega)
    intro j hj e
    rw [show sp_pA n t dv (k + 1) = (if sp_pA n t dv k k = false ∧ mkB n t (sp_pA n t dv k) k = true then sp_up (sp_pA n t dv k) k else sp_pA n t dv k) from rfl] at e
    split at e
    · rename_i hc
      rcases sp_up_of e with rfl | e
      · exact hm j hj (sp_mk_to (hb j hj) ih (mkB_t.mp hc.2))
      · exact ih j hj e
    · exact ih j hj e
theorem sp_pA_step {n : Nat} {t : Nat → sp_T} {dv : Nat → Bool} (k m : Nat) {j : Nat} (h : sp_pA n t dv k j = true) : sp_pA n t dv (k + m) j = true := by
  induction m with
  | zero => exact h
  | succ m ih =>
    show (if _ then _ else _ : Nat → Bool) j = true
    split
    · exact sp_up_mono _ _ _ ih
    · exact ih
theorem sp_pA_cl {n : Nat} {t : Nat → sp_T} (hb : ∀ i, i < n → sp_bd n (t i)) {dv : Nat → Bool} (h : ∀ j, j < n → sp_pA n t dv n j = true → dv j = true) : ∀ i, i < n → sp_mk n t (sp_B dv) (t i) → dv i = true := by
  intro i hi hm
  have e : ∀ k, k ≤ n → ∀ j, j < n → (sp_pA n t dv k j = true ↔ dv j = true) := fun k hk j hj => ⟨fun a => h j hj (by have := sp_pA_step k (n - k) a; rw [show k + (n - k) = n by omega] at this; exact this), sp_pA_ext k⟩
  cases hd : dv i with
  | true => rfl
  | false =>
    have h1 : sp_pA n t dv i i = false := by
      cases hc : sp_pA n t dv i i with
      | false => rfl
      | true => rw [(e i (by omega) i hi).mp hc] at hd; cases hd
    have h2 : mkB n t (sp_pA n t dv i) i = true := mkB_t.mpr (sp_mk_to (hb i hi) (fun j hj a => (e i (by omega) j hj).mpr a) hm)
    have h3 : sp_pA n t dv (i + 1) i = true := by
      show (if _ then _ else _ : Nat → Bool) i = true
      rw [if_pos ⟨h1, h2⟩]
      exact sp_up_self _ _
    rw [(e (i + 1) (by omega) i hi).mp h3] at hd
    cases hd
/-- what spread has done -/
def sp_ok (n : Nat) (t : Nat → sp_T) (dv dv' : Nat → Bool) : Prop :=
  (∀ j, dv j = true → dv' j = true) ∧ ∀ D : Nat → Prop, (∀ i, i < n → D i → sp_an D (t i)) → (∀ i, i < n → sp_mk n t D (t i) → D i) → (∀ i, i < n → dv i = true → D i) → ∀ i, i < n → dv' i = true → D i
def sp_cd (n : Nat) (t : Nat → sp_T) (dv : Nat → Bool) : Prop := (∀ i, i < n → dv i = true → sp_an (sp_B dv) (t i)) ∧ ∀ i, i < n → sp_mk n t (sp_B dv) (t i) → dv i = true
theorem sp_ok_rf {n : Nat} {t : Nat → sp_T} {dv : Nat → Bool} : sp_ok n t dv dv := ⟨fun _ h => h, fun _ _ _ h => h⟩
theorem sp_ok_ps {n : Nat} {t : Nat → sp_T} {dv e : Nat → Bool} (hb : ∀ i, i < n → sp_bd n (t i)) (h : sp_ok n t dv e) : sp_ok n t dv (sp_pA n t (sp_tA t n e) n) :=
  ⟨fun j a => sp_pA_ext n (sp_tA_ext n (h.1 j a)), fun D ha hm hd => sp_pA_of hb hm (sp_tA_of hb ha n (Nat.le_refl n) (h.2 D ha hm hd)) n (Nat.le_refl n)⟩
theorem sp_cd_ps {n : Nat} {t : Nat → sp_T} {e : Nat → Bool} (hb : ∀ i, i < n → sp_bd n (t i)) (h : sp_ct (sp_pA n t (sp_tA t n e) n) n ≤ sp_ct e n) : sp_cd n t (sp_pA n t (sp_tA t n e) n) := by
  have h0 := sp_ct_same (n := n) (b := e) (b' := sp_pA n t (sp_tA t n e) n) (fun i _ a => sp_pA_ext n (sp_tA_ext n a)) h
  have h1 : ∀ j, j < n → sp_tA t n e j = true → e j = true := fun j hj a => h0 j hj (sp_pA_ext n a)
  have q : ∀ j, j < n → (sp_B e j ↔ sp_B (sp_pA n t (sp_tA t n e) n) j) := fun j hj => ⟨fun a => sp_pA_ext n (sp_tA_ext n a), h0 j hj⟩
  refine ⟨fun i hi a => sp_an_to (hb i hi) q (sp_tA_an hb n (Nat.le_refl n) h1 i hi ((q i hi).mpr a)), fun i hi a => ?_⟩
  refine sp_pA_ext n (sp_pA_cl hb (dv := sp_tA t n e) (fun j hj a => sp_tA_ext n (h0 j hj a)) i hi ?_)
  exact sp_mk_to (hb i hi) (fun j hj a => sp_tA_ext n (h0 j hj a)) a
/-! the face's mark -/
theorem fcI_2 {n : Nat} {t : Nat → sp_T} {dv fc : Nat → Bool} (h : fcI n t dv fc) {i x : Nat} (hi : i < n) (h2 : sp_so (t i) = 2) (hx : sp_pa (t i) 0 = some x) : fcI n t (sp_up dv i) (sp_up fc x) := by
  intro y hy h1
  constructor
  · intro a
    rcases sp_up_of a with rfl | a
    · exact Or.inr ⟨i, hi, h2, hx, sp_up_self dv i⟩
    · exact sp_sh_to (fun j _ q => sp_up_mono dv i j q) hy ((h y hy h1).mp a)
  · intro a
    rcases a with a | ⟨j, q1, q2, q3, q4⟩
    · rcases sp_up_of a with rfl | a
      · rw [h1] at h2; exact absurd h2 (by decide)
      · exact sp_up_mono _ _ _ ((h y hy h1).mpr (Or.inl a))
    · rcases sp_up_of q4 with rfl | q4
      · rw [q3] at hx; cases hx; exact sp_up_self _ _
      · exact sp_up_mono _ _ _ ((h y hy h1).mpr (Or.inr ⟨j, q1, q2, q3, q4⟩))
theorem fcI_1 {n : Nat} {t : Nat → sp_T} {dv fc : Nat → Bool} (h : fcI n t dv fc) {i : Nat} (hs : sp_so (t i) = 1) : fcI n t (sp_up dv i) (sp_up fc i) := by
  intro y hy h1
  constructor
  · intro a
    rcases sp_up_of a with rfl | a
    · exact Or.inl (sp_up_self dv y)
    · exact sp_sh_to (fun j _ q => sp_up_mono dv i j q) hy ((h y hy h1).mp a)
  · intro a
    rcases a with a | ⟨j, q1, q2, q3, q4⟩
    · rcases sp_up_of a with rfl | a
      · exact sp_up_self _ _
      · exact sp_up_mono _ _ _ ((h y hy h1).mpr (Or.inl a))
    · rcases sp_up_of q4 with rfl | q4
      · rw [hs] at q2; exact absurd q2 (by decide)
      · exact sp_up_mono _ _ _ ((h y hy h1).mpr (Or.inr ⟨j, q1, q2, q3, q4⟩))
theorem fcI_0 {n : Nat} {t : Nat → sp_T} {dv fc : Nat → Bool} (h : fcI n t dv fc) {i : Nat} (n1 : ¬ sp_so (t i) = 1) (n2 : ¬ sp_so (t i) = 2) : fcI n t (sp_up dv i) fc := by
  intro y hy h1
  constructor
  · intro a
    exact sp_sh_to (fun j _ q => sp_up_mono dv i j q) hy ((h y hy h1).mp a)
  · intro a
    rcases a with a | ⟨j, q1, q2, q3, q4⟩
    · rcases sp_up_of a with rfl | a
      · exact absurd h1 n1
      · exact (h y hy h1).mpr (Or.inl a)
    · rcases sp_up_of q4 with rfl | q4
      · exact absurd q2 n2
      · exact (h y hy h1).mpr (Or.inr ⟨j, q1, q2, q3, q4⟩)
/-- of a PUBLIC its SECRET -/
theorem sp_wf2 {t : Nat → sp_T} {n : Nat} {d : sp_T} (h : sp_wf t n d) (h2 : sp_so d = 2) : ∃ x, sp_pa d 0 = some x ∧ x < n ∧ sp_so (t x) = 1 := by
  obtain ⟨hb, h⟩ := h
  rcases h with h | ⟨-, -, -, ⟨x, h3, h4⟩, -⟩ | h | h | h | h | h
  · rw [h2] at h; exact absurd h.1 (by decide)
  · exact ⟨x, h3, hb 0 (by omega) x h3, h4⟩
  all_goals (rw [h2] at h; exact absurd h.1 (by decide))
theorem sp_wf3 {t : Nat → sp_T} {n : Nat} {d : sp_T} (h : sp_wf t n d) (h3 : sp_so d = 3) : ∃ x y, sp_pa d 0 = some x ∧ sp_pa d 1 = some y ∧ x < n ∧ y < n ∧ sp_so (t x) = 1 ∧ sp_so (t y) = 1 := by
  obtain ⟨hb, h⟩ := h
  rcases h with h | h | ⟨-, -, -, ⟨x, y, q1, q2, q3, q4⟩, -⟩ | h | h | h | h
  · rw [h3] at h; exact absurd h.1 (by decide)
  · rw [h3] at h; exact absurd h.1 (by decide)
  · exact ⟨x, y, q1, q2, hb 0 (by omega) x q1, hb 1 (by omega) y q2, q3, q4⟩
  all_goals (rw [h3] at h; exact absurd h.1 (by decide))
theorem sc_pin {G : sg_G} {b lo n dc : Nat} {t : Nat → sp_T} {dv fc : Nat → Bool} {rg : Nat → Option Nat} {ta na pa : Nat → Nat} {H : Heap} (h : sc_X G b lo n t dv fc rg dc ta na pa H) {o : Option Nat} (ho : ∀ j, o = some j → j < n) : pin G H (o.map ta) (sp_pi dv o) := by
  obtain ⟨-, -, -, -, -, -, -, -, -, hT, -⟩ := h
  cases o with
  | none => exact ⟨fun _ => rfl, (fun q e => by cases e)⟩
  | some j => exact ⟨(fun e => by cases e), fun q e => by cases e; exact ⟨_, _, _, _, _, _, (hT j (ho j rfl)).2.2.2.1⟩⟩
theorem sc_bd {G : sg_G} {b lo n dc : Nat} {t : Nat → sp_T} {dv fc : Nat → Bool} {rg : Nat → Option Nat} {ta na pa : Nat → Nat} {H : Heap} (h : sc_X G b lo n t dv fc rg dc ta na pa H) : ∀ i, i < n → sp_bd n (t i) := by
  obtain ⟨-, -, -, -, -, -, -, -, -, -, -, hwf⟩ := h
  intro i hi k hk j e
  exact Nat.lt_trans ((hwf i hi).1 k hk j e) hi
theorem bool_eq {a b : Bool} (h : a = true ↔ b = true) : a = b := by
  cases a <;> cases b <;> simp at h ⊢
/-- canBeMadeByAttacker, of a term that is made -/
theorem c_can (l : Launch) (G : sg_G) (H : Heap) (b lo n dc : Nat) (t : Nat → sp_T) (dv fc : Nat → Bool) (rg : Nat → Option Nat) (ta na pa : Nat → Nat) (hC : sc_X G b lo n t dv fc rg dc ta na pa H) (hfI : fcI n t dv fc) (i : Nat) (hi : i < n) :
    xC l G yX0_canBeMadeByAttacker cX0_canBeMadeByAttacker 2 (some FieldType.boolean) 2 0 0 [.ref (ta i)] H (xPu (.int (bI (mkB n t dv i))) H) := by
  obtain ⟨-, -, -, -, -, -, -, -, -, hT, -, hwf⟩ := id hC
  obtain ⟨o1, o2, o3, o4, o5, o6⟩ := hT i hi
  have hbd := sc_bd hC i hi
  refine c_X0_canBeMade l G H (ta i) (na i) (pa i) _ _ _ _ _ _ o4 o6 _ (fun h1 => ?_) (fun h3 => ?_) (fun n1 n3 => ?_)
  · refine bF mkB_t (fun z => ?_)
    rcases z with z | z
    · rw [h1] at z; exact absurd z.1 (by decide)
    · exact z.1 h1
  · obtain ⟨x, y, q1, q2, q3, q4, q5, q6⟩ := sp_wf3 (hwf i hi) h3
    have hx := hT x (by omega)
    have hy := hT y (by omega)
    refine ⟨ta x, ta y, _, _, _, _, _, _, _, _, _, _, _, _, _, _, by rw [q1]; rfl, by rw [q2]; rfl, hx.2.2.2.1, hy.2.2.2.1, bool_eq ?_⟩
    rw [mkB_t, Bool.or_eq_true, Bool.and_eq_true, Bool.and_eq_true, hfI y (by omega) q6, hfI x (by omega) q5]
    constructor
    · intro z
      rcases z with ⟨-, x', y', e1, e2, z⟩ | z
      · rw [q1] at e1; rw [q2] at e2; cases e1; cases e2; exact z
      · exact absurd h3 z.2.1
    · intro z
      exact Or.inl ⟨h3, x, y, q1, q2, z⟩
  · refine ⟨fun k => sp_pi dv (sp_pa (t i) k), fun k hk => sc_pin hC (hbd k hk), bool_eq ?_⟩
    rw [mkB_t, Bool.and_eq_true, Bool.and_eq_true, Bool.and_eq_true, sp_pi_in, sp_pi_in, sp_pi_in, sp_pi_in]
    constructor
    · intro z
      rcases z with z | z
      · exact absurd z.1 n3
      · exact ⟨⟨⟨z.2.2 0 (by omega), z.2.2 1 (by omega)⟩, z.2.2 2 (by omega)⟩, z.2.2 3 (by omega)⟩
    · intro z
      refine Or.inr ⟨n1, n3, fun k hk => ?_⟩
      rcases (show k = 0 ∨ k = 1 ∨ k = 2 ∨ k = 3 by omega) with rfl | rfl | rfl | rfl
      · exact z.1.1.1
      · exact z.1.1.2
      · exact z.1.2
      · exact z.2
end
section
set_option maxHeartbeats 4000000 in
set_option maxRecDepth 100000 in
theorem c_X1_derive_n (l : Launch) (G : sg_G) (H : Heap) (b lo n : Nat) (t : Nat → sp_T) (rg : Nat → Option Nat) (ta na pa : Nat → Nat) (dv : Nat → Bool) (hV : sc_V G b lo n t rg ta na pa dv H)  : xC l G yX1_derive cX1_derive 3 none 1 0 0 [.ref b, .null] H (fun v H' => v = none ∧ sc_V G b lo n t rg ta na pa dv H' ∧ sc_F b lo H H' ∧ H'.size = H.size) := by
  refine xC.start (by decide) (Nat.le_of_ble_eq_true rfl) ?_
  intro p e s m args below meth c ls E hnm hs0 hl
  obtain ⟨hx, hb, hml, hown, hts, hr, hlocks, hK, hbs⟩ := id E
  have hl : lv_has ls 3 [(0, .ref b), (1, .null)] := hl
  obtain ⟨fc, hC, hfI⟩ := id hV
  obtain ⟨hw, hb0, hb4, hlo, hn5, hX, hRG, hMD, hZR, hT, hrg, hwf⟩ := id hC
  have hFF : sc_F b lo H H := sc_F.rf
  have hSS : H.size = H.size := rfl
  refine xl (fun _ => lv_aload_nN hx hb dX1_derive_0 rfl (lv_at hl 1 rfl)) ?_
  refine xl (fun _ => lv_ifnullN (tgt := 11) hx hb dX1_derive_1 (by decide)) ?_
  exact x_vret hx hb hr hlocks hs0 hbs (by decide) (by decide) dX1_derive_11 (⟨rfl, hV, hFF, hSS⟩)

set_option maxHeartbeats 4000000 in
set_option maxRecDepth 100000 in
theorem c_X1_derive_s (l : Launch) (G : sg_G) (H : Heap) (b lo n : Nat) (t : Nat → sp_T) (rg : Nat → Option Nat) (ta na pa : Nat → Nat) (dv : Nat → Bool) (hV : sc_V G b lo n t rg ta na pa dv H) (i : Nat) (hi : i < n) : xC l G yX1_derive cX1_derive 3 none 1 0 0 [.ref b, .ref (ta i)] H (fun v H' => v = none ∧ sc_V G b lo n t rg ta na pa (sp_up dv i) H' ∧ sc_F b lo H H' ∧ H'.size = H.size) := by
  refine xC.start (by decide) (Nat.le_of_ble_eq_true rfl) ?_
  intro p e s m args below meth c ls E hnm hs0 hl
  obtain ⟨hx, hb, hml, hown, hts, hr, hlocks, hK, hbs⟩ := id E
  have hl : lv_has ls 3 [(0, .ref b), (1, .ref (ta i))] := hl
  obtain ⟨fc, hC, hfI⟩ := id hV
  obtain ⟨hw, hb0, hb4, hlo, hn5, hX, hRG, hMD, hZR, hT, hrg, hwf⟩ := id hC
  have hFF : sc_F b lo H H := sc_F.rf
  have hSS : H.size = H.size := rfl
  refine xl (fun _ => lv_aload_n hx hb dX1_derive_0 rfl (lv_at hl 1 rfl)) ?_
  refine xl (fun _ => lv_ifnull hx hb dX1_derive_1) ?_
  refine xl (fun _ => lv_aload_n hx hb dX1_derive_4 rfl (lv_at hl 1 rfl)) ?_
  refine x_get (ci := 0) hx hb hts hown hK wiX0 ((hT i hi).2.2.2.1) rfl 5 (by decide) wFX1_84 rfl rfl dX1_derive_5 ?_
  refine xb (fun _ => lv_if_eq (tgt := 12) hx hb dX1_derive_8 (by decide)) (fun c_8 => ?_) (fun c_8 => ?_)
  · have c_8 := bI_f c_8
    refine xl (fun _ => lv_aload_n hx hb dX1_derive_12 rfl (lv_at hl 1 rfl)) ?_
    refine xl (fun _ => lv_iconst (v := 1) hx hb dX1_derive_13 (by decide)) ?_
    refine x_put (ci := 0) hx hb hts hown hK wiX0 tyX0 tyX0_ok nmX0 ((hT i hi).2.2.2.1) rfl 5 (by decide) wFX1_84 rfl rfl (rfl) (rfl) (by simp) (by have := (hT i hi).1; omega) dX1_derive_14 (fun H_1 ho_2 hz_3 hq_4 => ?_)
    have ho_2 : ob_ G H_1 (ta i) 0 [.int (sp_so (t i)), .int (sp_la (t i)), .ref (na i), .ref (pa i), .int (nI i), .int 1, .int (bI (fc i))] := ho_2
    have hC : sc_X G b lo n t (sp_up dv i) fc rg (sp_ct dv n) ta na pa H_1 := sc_fl hC hi (fun j e => sp_up_ne dv e) (fun _ _ => rfl) (by rw [sp_up_self]; exact ho_2) hz_3 hq_4
    have hFF : sc_F b lo H H_1 := hFF.tr ⟨by omega, fun q h1 h2 => hq_4 q (by have := (hT i hi).1; omega)⟩
    have hSS : H_1.size = H.size := hz_3.trans hSS
    obtain ⟨hw, hb0, hb4, hlo, hn5, hX, hRG, hMD, hZR, hT, hrg, hwf⟩ := id hC
    refine xl (fun _ => lv_aload_n hx hb dX1_derive_17 rfl (lv_at hl 0 rfl)) ?_
    refine xl (fun _ => lv_dup hx hb dX1_derive_18 rfl) ?_
    refine x_get (ci := 1) hx hb hts hown hK wiX1 hX rfl 3 (by decide) wFX1_22 rfl rfl dX1_derive_19 ?_
    refine xl (fun _ => lv_iconst (v := 1) hx hb dX1_derive_22 (by decide)) ?_
    refine xl (fun _ => lv_iadd hx hb dX1_derive_23) ?_
    rw [show ((nI (sp_ct dv n)) + 1) = (nI (sp_ct dv n + 1)) from nI_1 _]
    refine x_put (ci := 1) hx hb hts hown hK wiX1 tyX1 tyX1_ok nmX1 hX rfl 3 (by decide) wFX1_22 rfl rfl (rfl) (rfl) (by simp) (hb0) dX1_derive_24 (fun H_5 ho_6 hz_7 hq_8 => ?_)
    have ho_6 : ob_ G H_5 b 1 [.ref (b + 1), .ref (b + 2), .int (nI n), .int (nI (sp_ct dv n + 1)), .ref (b + 3)] := ho_6
    have hC : sc_X G b lo n t (sp_up dv i) fc rg (sp_ct dv n + 1) ta na pa H_5 := sc_dc hC ho_6 hz_7 hq_8
    have hFF : sc_F b lo H H_5 := hFF.tr ⟨by omega, fun q h1 h2 => hq_8 q (by omega)⟩
    have hSS : H_5.size = H.size := hz_7.trans hSS
    obtain ⟨hw, hb0, hb4, hlo, hn5, hX, hRG, hMD, hZR, hT, hrg, hwf⟩ := id hC
    refine xl (fun _ => lv_aload_n hx hb dX1_derive_27 rfl (lv_at hl 1 rfl)) ?_
    refine x_get (ci := 0) hx hb hts hown hK wiX0 ((hT i hi).2.2.2.1) rfl 0 (by decide) wFX1_78 rfl rfl dX1_derive_28 ?_
    refine xl (fun _ => lv_iconst (v := 2) hx hb dX1_derive_31 (by decide)) ?_
    refine xb (fun _ => lv_icmp_ne (tgt := 43) hx hb dX1_derive_32 (by decide)) (fun c_32 => ?_) (fun c_32 => ?_)
    · refine xl (fun _ => lv_aload_n hx hb dX1_derive_43 rfl (lv_at hl 1 rfl)) ?_
      refine xs (fun _ => lv_astore_n (i := 2) (lv' := [(2, .ref (ta i)), (0, .ref b), (1, .ref (ta i))]) hx hb dX1_derive_44 rfl hl (by decide) (rfl)) (fun ls hl => ?_)
      refine xl (fun _ => lv_aload_n hx hb dX1_derive_45 rfl (lv_at hl 0 rfl)) ?_
      refine xl (fun _ => lv_ifnull hx hb dX1_derive_46) ?_
      refine xl (fun _ => lv_aload_n hx hb dX1_derive_49 rfl (lv_at hl 0 rfl)) ?_
      refine x_get (ci := 0) hx hb hts hown hK wiX0 ((hT i hi).2.2.2.1) rfl 0 (by decide) wFX1_78 rfl rfl dX1_derive_50 ?_
      refine xl (fun _ => lv_iconst (v := 1) hx hb dX1_derive_53 (by decide)) ?_
      refine xb (fun _ => lv_icmp_ne (tgt := 62) hx hb dX1_derive_54 (by decide)) (fun c_54 => ?_) (fun c_54 => ?_)
      · exact x_vret hx hb hr hlocks hs0 hbs (by decide) (by decide) dX1_derive_62 (⟨rfl, ⟨_, by rw [sp_ct_up hi c_8]; exact hC, fcI_0 hfI c_54 c_32⟩, hFF, hSS⟩)
      · refine xl (fun _ => lv_aload_n hx hb dX1_derive_57 rfl (lv_at hl 0 rfl)) ?_
        refine xl (fun _ => lv_iconst (v := 1) hx hb dX1_derive_58 (by decide)) ?_
        refine x_put (ci := 0) hx hb hts hown hK wiX0 tyX0 tyX0_ok nmX0 ((hT i hi).2.2.2.1) rfl 6 (by decide) wFX1_132 rfl rfl (rfl) (rfl) (by simp) (by have := (hT i hi).1; omega) dX1_derive_59 (fun H_9 ho_10 hz_11 hq_12 => ?_)
        have ho_10 : ob_ G H_9 (ta i) 0 [.int (sp_so (t i)), .int (sp_la (t i)), .ref (na i), .ref (pa i), .int (nI i), .int (bI ((sp_up dv i) i)), .int 1] := ho_10
        have hC : sc_X G b lo n t (sp_up dv i) (sp_up fc i) rg (sp_ct dv n + 1) ta na pa H_9 := sc_fl hC hi (fun _ _ => rfl) (fun j e => sp_up_ne fc e) (by rw [sp_up_self fc]; exact ho_10) hz_11 hq_12
        have hFF : sc_F b lo H H_9 := hFF.tr ⟨by omega, fun q h1 h2 => hq_12 q (by have := (hT i hi).1; omega)⟩
        have hSS : H_9.size = H.size := hz_11.trans hSS
        exact x_vret hx hb hr hlocks hs0 hbs (by decide) (by decide) dX1_derive_62 (⟨rfl, ⟨_, by rw [sp_ct_up hi c_8]; exact hC, fcI_1 hfI c_54⟩, hFF, hSS⟩)
    · refine xl (fun _ => lv_aload_n hx hb dX1_derive_35 rfl (lv_at hl 1 rfl)) ?_
      refine xl (fun _ => lv_iconst (v := 0) hx hb dX1_derive_36 (by decide)) ?_
      refine x_callV E hl (c_X0_partAt l G H_5 (ta i) (na i) (pa i) _ _ _ _ _ _ (hT i hi).2.2.2.1 (hT i hi).2.2.2.2.2 0 (by decide)) xm_yX0_partAt wMX1_45 wI_yX0_partAt wT_yX0_partAt (ci := 0) rfl rfl ((hT i hi).2.2.2.1) (rest := []) rfl (by decide) (by decide) ⟨by decide, by decide⟩ dX1_derive_37 (x_pure (r := va_rf ((sp_pa (t i) 0).map ta)) (st1 := []) ?_)
      obtain ⟨x, hx0, hxi, hx1⟩ := sp_wf2 (hwf i hi) c_32
      have hxn : x < n := by omega
      refine xg (g2 := F0 m 40 ls [.ref (ta x)]) (by rw [hx0]; rfl) ?_
      refine xl (fun _ => lv_goto (tgt := 44) hx hb dX1_derive_40 (by decide)) ?_
      refine xs (fun _ => lv_astore_n (i := 2) (lv' := [(2, .ref (ta x)), (0, .ref b), (1, .ref (ta i))]) hx hb dX1_derive_44 rfl hl (by decide) (rfl)) (fun ls hl => ?_)
      refine xl (fun _ => lv_aload_n hx hb dX1_derive_45 rfl (lv_at hl 0 rfl)) ?_
      refine xl (fun _ => lv_ifnull hx hb dX1_derive_46) ?_
      refine xl (fun _ => lv_aload_n hx hb dX1_derive_49 rfl (lv_at hl 0 rfl)) ?_
      refine x_get (ci := 0) hx hb hts hown hK wiX0 ((hT x hxn).2.2.2.1) rfl 0 (by decide) wFX1_78 rfl rfl dX1_derive_50 ?_
      refine xl (fun _ => lv_iconst (v := 1) hx hb dX1_derive_53 (by decide)) ?_
      refine xb (fun _ => lv_icmp_ne (tgt := 62) hx hb dX1_derive_54 (by decide)) (fun c_54 => ?_) (fun c_54 => ?_)
      · exact absurd hx1 c_54
      · refine xl (fun _ => lv_aload_n hx hb dX1_derive_57 rfl (lv_at hl 0 rfl)) ?_
        refine xl (fun _ => lv_iconst (v := 1) hx hb dX1_derive_58 (by decide)) ?_
        refine x_put (ci := 0) hx hb hts hown hK wiX0 tyX0 tyX0_ok nmX0 ((hT x hxn).2.2.2.1) rfl 6 (by decide) wFX1_132 rfl rfl (rfl) (rfl) (by simp) (by have := (hT x hxn).1; omega) dX1_derive_59 (fun H_13 ho_14 hz_15 hq_16 => ?_)
        have ho_14 : ob_ G H_13 (ta x) 0 [.int (sp_so (t x)), .int (sp_la (t x)), .ref (na x), .ref (pa x), .int (nI x), .int (bI ((sp_up dv i) x)), .int 1] := ho_14
        have hC : sc_X G b lo n t (sp_up dv i) (sp_up fc x) rg (sp_ct dv n + 1) ta na pa H_13 := sc_fl hC hxn (fun _ _ => rfl) (fun j e => sp_up_ne fc e) (by rw [sp_up_self fc]; exact ho_14) hz_15 hq_16
        have hFF : sc_F b lo H H_13 := hFF.tr ⟨by omega, fun q h1 h2 => hq_16 q (by have := (hT x hxn).1; omega)⟩
        have hSS : H_13.size = H.size := hz_15.trans hSS
        exact x_vret hx hb hr hlocks hs0 hbs (by decide) (by decide) dX1_derive_62 (⟨rfl, ⟨_, by rw [sp_ct_up hi c_8]; exact hC, fcI_2 hfI hi c_32 hx0⟩, hFF, hSS⟩)
  · have c_8 := bI_t c_8
    exact x_vret hx hb hr hlocks hs0 hbs (by decide) (by decide) dX1_derive_11 (⟨rfl, by rw [sp_up_id c_8]; exact hV, hFF, hSS⟩)

theorem c_X1_derive_o (l : Launch) (G : sg_G) (H : Heap) (b lo n : Nat) (t : Nat → sp_T) (rg : Nat → Option Nat) (ta na pa : Nat → Nat) (dv : Nat → Bool) (hV : sc_V G b lo n t rg ta na pa dv H) (o : Option Nat) (ho : ∀ j, o = some j → j < n) : xC l G yX1_derive cX1_derive 3 none 1 0 0 [.ref b, va_rf (o.map ta)] H (fun v H' => v = none ∧ sc_V G b lo n t rg ta na pa (sp_uo dv o) H' ∧ sc_F b lo H H' ∧ H'.size = H.size) := by
  cases o with
  | none => exact c_X1_derive_n l G H b lo n t rg ta na pa dv hV
  | some i => exact c_X1_derive_s l G H b lo n t rg ta na pa dv hV i (ho i rfl)

set_option maxHeartbeats 4000000 in
set_option maxRecDepth 100000 in
theorem c_X1_takeApart (l : Launch) (G : sg_G) (H : Heap) (b lo n : Nat) (t : Nat → sp_T) (rg : Nat → Option Nat) (ta na pa : Nat → Nat) (dv : Nat → Bool) (hV : sc_V G b lo n t rg ta na pa dv H) (i : Nat) (hi : i < n) : xC l G yX1_takeApart cX1_takeApart 3 none 2 0 0 [.ref b, .ref (ta i)] H (fun v H' => v = none ∧ sc_V G b lo n t rg ta na pa (sp_ta t dv i) H' ∧ sc_F b lo H H' ∧ H'.size = H.size) := by
  refine xC.start (by decide) (Nat.le_of_ble_eq_true rfl) ?_
  intro p e s m args below meth c ls E hnm hs0 hl
  obtain ⟨hx, hb, hml, hown, hts, hr, hlocks, hK, hbs⟩ := id E
  have hl : lv_has ls 3 [(0, .ref b), (1, .ref (ta i))] := hl
  obtain ⟨fc, hC, hfI⟩ := id hV
  obtain ⟨hw, hb0, hb4, hlo, hn5, hX, hRG, hMD, hZR, hT, hrg, hwf⟩ := id hC
  have hFF : sc_F b lo H H := sc_F.rf
  have hSS : H.size = H.size := rfl
  refine xl (fun _ => lv_aload_n hx hb dX1_takeApart_0 rfl (lv_at hl 1 rfl)) ?_
  refine x_get (ci := 0) hx hb hts hown hK wiX0 ((hT i hi).2.2.2.1) rfl 0 (by decide) wFX1_78 rfl rfl dX1_takeApart_1 ?_
  refine xl (fun _ => lv_bipush (v := 7) hx hb dX1_takeApart_4 (by decide)) ?_
  refine xb (fun _ => lv_icmp_ne (tgt := 34) hx hb dX1_takeApart_6 (by decide)) (fun c_6 => ?_) (fun c_6 => ?_)
  · refine xl (fun _ => lv_aload_n hx hb dX1_takeApart_34 rfl (lv_at hl 1 rfl)) ?_
    refine x_get (ci := 0) hx hb hts hown hK wiX0 ((hT i hi).2.2.2.1) rfl 0 (by decide) wFX1_78 rfl rfl dX1_takeApart_35 ?_
    refine xl (fun _ => lv_iconst (v := 5) hx hb dX1_takeApart_38 (by decide)) ?_
    refine xb (fun _ => lv_icmp_ne (tgt := 71) hx hb dX1_takeApart_39 (by decide)) (fun c_39 => ?_) (fun c_39 => ?_)
    · refine xl (fun _ => lv_aload_n hx hb dX1_takeApart_71 rfl (lv_at hl 1 rfl)) ?_
      refine x_get (ci := 0) hx hb hts hown hK wiX0 ((hT i hi).2.2.2.1) rfl 0 (by decide) wFX1_78 rfl rfl dX1_takeApart_72 ?_
      refine xl (fun _ => lv_bipush (v := 6) hx hb dX1_takeApart_75 (by decide)) ?_
      refine xb (fun _ => lv_icmp_ne (tgt := 89) hx hb dX1_takeApart_77 (by decide)) (fun c_77 => ?_) (fun c_77 => ?_)
      · exact x_vret hx hb hr hlocks hs0 hbs (by decide) (by decide) dX1_takeApart_89 (⟨rfl, by rw [show sp_ta t dv i = dv from by unfold sp_ta; rw [if_neg c_6, if_neg c_39, if_neg c_77]]; exact hV, hFF, hSS⟩)
      · refine xl (fun _ => lv_aload_n hx hb dX1_takeApart_80 rfl (lv_at hl 0 rfl)) ?_
        refine xl (fun _ => lv_aload_n hx hb dX1_takeApart_81 rfl (lv_at hl 1 rfl)) ?_
        refine xl (fun _ => lv_iconst (v := 1) hx hb dX1_takeApart_82 (by decide)) ?_
        refine x_callV E hl (c_X0_partAt l G H (ta i) (na i) (pa i) _ _ _ _ _ _ (hT i hi).2.2.2.1 (hT i hi).2.2.2.2.2 1 (by decide)) xm_yX0_partAt wMX1_45 wI_yX0_partAt wT_yX0_partAt (ci := 0) rfl rfl ((hT i hi).2.2.2.1) (rest := [.ref b]) rfl (by simp [cat_rf, cat_int, cat_ref, cat_null]) (by decide) ⟨by decide, by decide⟩ dX1_takeApart_83 (x_pure (r := va_rf ((sp_pa (t i) 1).map ta)) (st1 := []) ?_)
        refine x_callV E hl (c_X1_derive_o l G H b lo n t rg ta na pa _ hV (sp_pa (t i) 1) (fun j e => sc_bd hC i hi 1 (by omega) j e)) xm_yX1_derive wMX1_88 wI_yX1_derive wT_yX1_derive (ci := 1) rfl rfl hX (rest := []) rfl (by decide) (by decide) ⟨by decide, by decide⟩ dX1_takeApart_86 (fun v_1 H_2 hp_3 hz_4 hq_5 => ?_)
        obtain ⟨rfl, hV, hF2, hS2⟩ := hp_3
        have hFF := hFF.tr hF2
        have hSS := hS2.trans hSS
        refine xg (g2 := F0 m 89 ls []) rfl ?_
        obtain ⟨fc, hC, hfI⟩ := id hV
        obtain ⟨hw, hb0, hb4, hlo, hn5, hX, hRG, hMD, hZR, hT, hrg, hwf⟩ := id hC
        exact x_vret hx hb hr hlocks hs0 hbs (by decide) (by decide) dX1_takeApart_89 (⟨rfl, by rw [show sp_ta t dv i = (sp_uo dv (sp_pa (t i) 1)) from by unfold sp_ta; rw [if_neg c_6, if_neg c_39, if_pos c_77]]; exact hV, hFF, hSS⟩)
    · refine xl (fun _ => lv_aload_n hx hb dX1_takeApart_42 rfl (lv_at hl 0 rfl)) ?_
      refine xl (fun _ => lv_aload_n hx hb dX1_takeApart_43 rfl (lv_at hl 1 rfl)) ?_
      refine xl (fun _ => lv_iconst (v := 1) hx hb dX1_takeApart_44 (by decide)) ?_
      refine x_callV E hl (c_X0_partAt l G H (ta i) (na i) (pa i) _ _ _ _ _ _ (hT i hi).2.2.2.1 (hT i hi).2.2.2.2.2 1 (by decide)) xm_yX0_partAt wMX1_45 wI_yX0_partAt wT_yX0_partAt (ci := 0) rfl rfl ((hT i hi).2.2.2.1) (rest := [.ref b]) rfl (by simp [cat_rf, cat_int, cat_ref, cat_null]) (by decide) ⟨by decide, by decide⟩ dX1_takeApart_45 (x_pure (r := va_rf ((sp_pa (t i) 1).map ta)) (st1 := []) ?_)
      refine x_callV E hl (c_X1_derive_o l G H b lo n t rg ta na pa _ hV (sp_pa (t i) 1) (fun j e => sc_bd hC i hi 1 (by omega) j e)) xm_yX1_derive wMX1_88 wI_yX1_derive wT_yX1_derive (ci := 1) rfl rfl hX (rest := []) rfl (by decide) (by decide) ⟨by decide, by decide⟩ dX1_takeApart_48 (fun v_6 H_7 hp_8 hz_9 hq_10 => ?_)
      obtain ⟨rfl, hV, hF2, hS2⟩ := hp_8
      have hFF := hFF.tr hF2
      have hSS := hS2.trans hSS
      refine xg (g2 := F0 m 51 ls []) rfl ?_
      obtain ⟨fc, hC, hfI⟩ := id hV
      obtain ⟨hw, hb0, hb4, hlo, hn5, hX, hRG, hMD, hZR, hT, hrg, hwf⟩ := id hC
      refine xl (fun _ => lv_aload_n hx hb dX1_takeApart_51 rfl (lv_at hl 1 rfl)) ?_
      refine xl (fun _ => lv_iconst (v := 0) hx hb dX1_takeApart_52 (by decide)) ?_
      refine x_callV E hl (c_X0_isPartIn l G H_7 (ta i) (na i) (pa i) _ _ _ _ _ _ (hT i hi).2.2.2.1 (hT i hi).2.2.2.2.2 0 (by decide) _ (sc_pin hC (fun j e => sc_bd hC i hi 0 (by omega) j e))) xm_yX0_isPartIn wMX1_150 wI_yX0_isPartIn wT_yX0_isPartIn (ci := 0) rfl rfl ((hT i hi).2.2.2.1) (rest := []) rfl (by decide) (by decide) ⟨by decide, by decide⟩ dX1_takeApart_53 (x_pure (r := .int (bI (sp_pi (sp_uo dv (sp_pa (t i) 1)) (sp_pa (t i) 0)))) (st1 := []) ?_)
      refine xb (fun _ => lv_if_eq (tgt := 89) hx hb dX1_takeApart_56 (by decide)) (fun c_56 => ?_) (fun c_56 => ?_)
      · have c_56 := bI_f c_56
        exact x_vret hx hb hr hlocks hs0 hbs (by decide) (by decide) dX1_takeApart_89 (⟨rfl, by rw [show sp_ta t dv i = (sp_uo dv (sp_pa (t i) 1)) from by unfold sp_ta; rw [if_neg c_6, if_pos c_39, if_neg (by rw [c_56]; decide)]]; exact hV, hFF, hSS⟩)
      · have c_56 := bI_t c_56
        refine xl (fun _ => lv_aload_n hx hb dX1_takeApart_59 rfl (lv_at hl 0 rfl)) ?_
        refine xl (fun _ => lv_aload_n hx hb dX1_takeApart_60 rfl (lv_at hl 1 rfl)) ?_
        refine xl (fun _ => lv_iconst (v := 2) hx hb dX1_takeApart_61 (by decide)) ?_
        refine x_callV E hl (c_X0_partAt l G H_7 (ta i) (na i) (pa i) _ _ _ _ _ _ (hT i hi).2.2.2.1 (hT i hi).2.2.2.2.2 2 (by decide)) xm_yX0_partAt wMX1_45 wI_yX0_partAt wT_yX0_partAt (ci := 0) rfl rfl ((hT i hi).2.2.2.1) (rest := [.ref b]) rfl (by simp [cat_rf, cat_int, cat_ref, cat_null]) (by decide) ⟨by decide, by decide⟩ dX1_takeApart_62 (x_pure (r := va_rf ((sp_pa (t i) 2).map ta)) (st1 := []) ?_)
        refine x_callV E hl (c_X1_derive_o l G H_7 b lo n t rg ta na pa _ hV (sp_pa (t i) 2) (fun j e => sc_bd hC i hi 2 (by omega) j e)) xm_yX1_derive wMX1_88 wI_yX1_derive wT_yX1_derive (ci := 1) rfl rfl hX (rest := []) rfl (by decide) (by decide) ⟨by decide, by decide⟩ dX1_takeApart_65 (fun v_11 H_12 hp_13 hz_14 hq_15 => ?_)
        obtain ⟨rfl, hV, hF2, hS2⟩ := hp_13
        have hFF := hFF.tr hF2
        have hSS := hS2.trans hSS
        refine xg (g2 := F0 m 68 ls []) rfl ?_
        obtain ⟨fc, hC, hfI⟩ := id hV
        obtain ⟨hw, hb0, hb4, hlo, hn5, hX, hRG, hMD, hZR, hT, hrg, hwf⟩ := id hC
        refine xl (fun _ => lv_goto (tgt := 89) hx hb dX1_takeApart_68 (by decide)) ?_
        exact x_vret hx hb hr hlocks hs0 hbs (by decide) (by decide) dX1_takeApart_89 (⟨rfl, by rw [show sp_ta t dv i = (sp_uo (sp_uo dv (sp_pa (t i) 1)) (sp_pa (t i) 2)) from by unfold sp_ta; rw [if_neg c_6, if_pos c_39, if_pos c_56]]; exact hV, hFF, hSS⟩)
  · refine xl (fun _ => lv_iconst (v := 0) hx hb dX1_takeApart_9 (by decide)) ?_
    refine xs (fun _ => lv_istore_n (i := 2) (lv' := [(2, .int 0), (0, .ref b), (1, .ref (ta i))]) hx hb dX1_takeApart_10 rfl hl (by decide) (rfl)) (fun ls hl => ?_)
    have hloop : ∀ (d : Nat) (k : Nat) (Hk : Heap), k ≤ 4 → 4 < k + d → sc_V G b lo n t rg ta na pa (sp_us dv (sp_pa (t i)) k) Hk → sc_F b lo H Hk → Hk.size = H.size → ∀ (ls : Array Slot), lv_has ls 3 [(2, .int (nI k)), (0, .ref b), (1, .ref (ta i))] → xV p l e (xR 2 0 0) s m args below meth c G Hk 0 0 (MQ below (xQ G H (fun v H' => v = none ∧ sc_V G b lo n t rg ta na pa (sp_ta t dv i) H' ∧ sc_F b lo H H' ∧ H'.size = H.size)) args s 0 0 (sg_fr G)) (F0 m 11 ls []) := by
      intro d
      induction d with
      | zero =>
        intro k Hk h1 h2
        exact absurd h2 (by omega)
      | succ d ih =>
        intro k Hk hk hd hV hFF hSS ls hl
        obtain ⟨fc, hC, hfI⟩ := id hV
        obtain ⟨hw, hb0, hb4, hlo, hn5, hX, hRG, hMD, hZR, hT, hrg, hwf⟩ := id hC
        refine xl (fun _ => lv_iload_n hx hb dX1_takeApart_11 rfl (lv_at hl 0 rfl)) ?_
        refine xl (fun _ => lv_iconst (v := 4) hx hb dX1_takeApart_12 (by decide)) ?_
        refine xb (fun _ => lv_icmp_ge (tgt := 31) hx hb dX1_takeApart_13 (by decide)) (fun c_13 => ?_) (fun c_13 => ?_)
        · have e4 : k = 4 := by have := nI_le4 (n := 4) (by omega) (by decide) c_13; omega
          subst e4
          refine xl (fun _ => lv_goto (tgt := 89) hx hb dX1_takeApart_31 (by decide)) ?_
          exact x_vret hx hb hr hlocks hs0 hbs (by decide) (by decide) dX1_takeApart_89 (⟨rfl, by rw [show sp_ta t dv i = (sp_us dv (sp_pa (t i)) 4) from by unfold sp_ta; rw [if_pos c_6]]; exact hV, hFF, hSS⟩)
        · have hi4 : k < 4 := nI_nle4 (n := 4) (by omega) (by decide) c_13
          refine xl (fun _ => lv_aload_n hx hb dX1_takeApart_16 rfl (lv_at hl 1 rfl)) ?_
          refine xl (fun _ => lv_aload_n hx hb dX1_takeApart_17 rfl (lv_at hl 2 rfl)) ?_
          refine xl (fun _ => lv_iload_n hx hb dX1_takeApart_18 rfl (lv_at hl 0 rfl)) ?_
          refine x_callV E hl (c_X0_partAt l G Hk (ta i) (na i) (pa i) _ _ _ _ _ _ (hT i hi).2.2.2.1 (hT i hi).2.2.2.2.2 k (hi4)) xm_yX0_partAt wMX1_45 wI_yX0_partAt wT_yX0_partAt (ci := 0) rfl rfl ((hT i hi).2.2.2.1) (rest := [.ref b]) rfl (by simp [cat_rf, cat_int, cat_ref, cat_null]) (by decide) ⟨by decide, by decide⟩ dX1_takeApart_19 (x_pure (r := va_rf ((sp_pa (t i) k).map ta)) (st1 := []) ?_)
          refine x_callV E hl (c_X1_derive_o l G Hk b lo n t rg ta na pa _ hV (sp_pa (t i) k) (fun j e => sc_bd hC i hi k (by omega) j e)) xm_yX1_derive wMX1_88 wI_yX1_derive wT_yX1_derive (ci := 1) rfl rfl hX (rest := []) rfl (by decide) (by decide) ⟨by decide, by decide⟩ dX1_takeApart_22 (fun v_16 H_17 hp_18 hz_19 hq_20 => ?_)
          obtain ⟨rfl, hV, hF2, hS2⟩ := hp_18
          have hFF := hFF.tr hF2
          have hSS := hS2.trans hSS
          refine xg (g2 := F0 m 25 ls []) rfl ?_
          obtain ⟨fc, hC, hfI⟩ := id hV
          obtain ⟨hw, hb0, hb4, hlo, hn5, hX, hRG, hMD, hZR, hT, hrg, hwf⟩ := id hC
          refine xs (fun _ => lv_iinc (v := (nI (k + 1))) (lv' := [(2, .int (nI (k + 1))), (0, .ref b), (1, .ref (ta i))]) hx hb dX1_takeApart_25 hl (k := 0) rfl (nI_1 k) (by decide) (rfl)) (fun ls hl => ?_)
          refine xl (fun _ => lv_goto (tgt := 11) hx hb dX1_takeApart_28 (by decide)) ?_
          exact ih (k + 1) _ (by omega) (by omega) hV hFF hSS ls (lv_sub hl [0, 1, 2] rfl)
    exact hloop 5 0 _ (by decide) (by decide) hV hFF hSS ls (lv_sub hl [0, 1, 2] rfl)

set_option maxHeartbeats 4000000 in
set_option maxRecDepth 100000 in
theorem c_X1_takeAllApart (l : Launch) (G : sg_G) (H : Heap) (b lo n : Nat) (t : Nat → sp_T) (rg : Nat → Option Nat) (ta na pa : Nat → Nat) (dv : Nat → Bool) (hV : sc_V G b lo n t rg ta na pa dv H)  : xC l G yX1_takeAllApart cX1_takeAllApart 3 none 3 0 0 [.ref b] H (fun v H' => v = none ∧ sc_V G b lo n t rg ta na pa (sp_tA t n dv) H' ∧ sc_F b lo H H' ∧ H'.size = H.size) := by
  refine xC.start (by decide) (Nat.le_of_ble_eq_true rfl) ?_
  intro p e s m args below meth c ls E hnm hs0 hl
  obtain ⟨hx, hb, hml, hown, hts, hr, hlocks, hK, hbs⟩ := id E
  have hl : lv_has ls 3 [(0, .ref b)] := hl
  obtain ⟨fc, hC, hfI⟩ := id hV
  obtain ⟨hw, hb0, hb4, hlo, hn5, hX, hRG, hMD, hZR, hT, hrg, hwf⟩ := id hC
  have hFF : sc_F b lo H H := sc_F.rf
  have hSS : H.size = H.size := rfl
  refine xl (fun _ => lv_aload_n hx hb dX1_takeAllApart_0 rfl (lv_at hl 0 rfl)) ?_
  refine x_get (ci := 1) hx hb hts hown hK wiX1 hX rfl 2 (by decide) wFX1_18 rfl rfl dX1_takeAllApart_1 ?_
  refine xl (fun _ => lv_aload_n hx hb dX1_takeAllApart_4 rfl (lv_at hl 0 rfl)) ?_
  refine x_get (ci := 1) hx hb hts hown hK wiX1 hX rfl 1 (by decide) wFX1_15 rfl rfl dX1_takeAllApart_5 ?_
  refine x_alen (n := 512) hx hb hK 2 rfl hMD rfl dX1_takeAllApart_8 ?_
  refine xl (fun _ => va_mmin hx hb (hml.trans hl.1.symm) hown (hts _ wMX1_141) (hts _ wS_yJ) (hts _ wZ_J) (hts _ wC_yJ) (by decide) (by decide) (by decide) (by decide) dX1_takeAllApart_9) ?_
  rw [show (if (nI 512) < (nI n) then (nI 512) else (nI n)) = (nI n) from if_neg (nI_nlt (by omega) (by omega))]
  refine xl (fun _ => lv_iconst (v := 1) hx hb dX1_takeAllApart_12 (by decide)) ?_
  refine xl (fun _ => lv_isub hx hb dX1_takeAllApart_13) ?_
  refine xs (fun _ => lv_istore_n (i := 1) (lv' := [(1, .int ((nI n) - 1)), (0, .ref b)]) hx hb dX1_takeAllApart_14 rfl hl (by decide) (rfl)) (fun ls hl => ?_)
  have hloop : ∀ (k : Nat) (dk : Nat → Bool) (Hk : Heap), k ≤ n → sc_V G b lo n t rg ta na pa dk Hk → sp_tA t k dk = sp_tA t n dv → sc_F b lo H Hk → Hk.size = H.size → ∀ (ls : Array Slot), lv_has ls 3 [(1, .int (nI k - 1)), (0, .ref b)] → xV p l e (xR 3 0 0) s m args below meth c G Hk 0 0 (MQ below (xQ G H (fun v H' => v = none ∧ sc_V G b lo n t rg ta na pa (sp_tA t n dv) H' ∧ sc_F b lo H H' ∧ H'.size = H.size)) args s 0 0 (sg_fr G)) (F0 m 15 ls []) := by
    intro k
    induction k with
    | zero =>
      intro dk Hk hk hV hE hFF hSS ls hl
      refine xl (fun _ => lv_iload_n hx hb dX1_takeAllApart_15 rfl (lv_at hl 0 rfl)) ?_
      refine xb (fun _ => lv_if_lt (tgt := 48) hx hb dX1_takeAllApart_16 (by decide)) (fun c_16 => ?_) (fun c_16 => ?_)
      · exact x_vret hx hb hr hlocks hs0 hbs (by decide) (by decide) dX1_takeAllApart_48 (⟨rfl, by rw [← hE]; exact hV, hFF, hSS⟩)
      · exact absurd (show nI 0 - 1 < 0 by decide) c_16
    | succ k ih =>
      intro dk Hk hk hV hE hFF hSS ls hl
      have hl : lv_has ls 3 [(1, .int (nI k)), (0, .ref b)] := by rw [nI_pred] at hl; exact hl
      obtain ⟨fc, hC, hfI⟩ := id hV
      obtain ⟨hw, hb0, hb4, hlo, hn5, hX, hRG, hMD, hZR, hT, hrg, hwf⟩ := id hC
      have hkn : k < n := by omega
      refine xl (fun _ => lv_iload_n hx hb dX1_takeAllApart_15 rfl (lv_at hl 0 rfl)) ?_
      refine xb (fun _ => lv_if_lt (tgt := 48) hx hb dX1_takeAllApart_16 (by decide)) (fun c_16 => ?_) (fun c_16 => ?_)
      · exact absurd c_16 (nI_pos (by omega))
      · refine xl (fun _ => lv_aload_n hx hb dX1_takeAllApart_19 rfl (lv_at hl 1 rfl)) ?_
        refine x_get (ci := 1) hx hb hts hown hK wiX1 hX rfl 1 (by decide) wFX1_15 rfl rfl dX1_takeAllApart_20 ?_
        refine xl (fun _ => lv_iload_n hx hb dX1_takeAllApart_23 rfl (lv_at hl 0 rfl)) ?_
        refine x_aald hx hb hK hMD k (rfl) (by omega) (by decide) dX1_takeAllApart_24 ?_
        refine xg (g2 := F0 m 25 ls [.ref (ta k)]) (by show F0 m _ _ (va_rf (if k < n then some (ta k) else none) :: _) = _; rw [if_pos hkn]; rfl) ?_
        refine xs (fun _ => lv_astore_n (i := 2) (lv' := [(2, .ref (ta k)), (1, .int (nI k)), (0, .ref b)]) hx hb dX1_takeAllApart_25 rfl hl (by decide) (rfl)) (fun ls hl => ?_)
        refine xl (fun _ => lv_aload_n hx hb dX1_takeAllApart_26 rfl (lv_at hl 0 rfl)) ?_
        refine xl (fun _ => lv_ifnull hx hb dX1_takeAllApart_27) ?_
        refine xl (fun _ => lv_aload_n hx hb dX1_takeAllApart_30 rfl (lv_at hl 0 rfl)) ?_
        refine x_get (ci := 0) hx hb hts hown hK wiX0 ((hT k hkn).2.2.2.1) rfl 5 (by decide) wFX1_84 rfl rfl dX1_takeAllApart_31 ?_
        refine xb (fun _ => lv_if_eq (tgt := 42) hx hb dX1_takeAllApart_34 (by decide)) (fun c_34 => ?_) (fun c_34 => ?_)
        · have c_34 := bI_f c_34
          have hE : sp_tA t k dk = sp_tA t n dv := by rw [← hE]; show _ = sp_tA t k (if dk k = true then sp_ta t dk k else dk); rw [if_neg (by rw [c_34]; decide)]
          refine xs (fun _ => lv_iinc (v := (nI k - 1)) (lv' := [(1, .int (nI k - 1)), (2, .ref (ta k)), (0, .ref b)]) hx hb dX1_takeAllApart_42 hl (k := 1) rfl (by rw [Int32.sub_eq_add_neg]; rfl) (by decide) (rfl)) (fun ls hl => ?_)
          refine xl (fun _ => lv_goto (tgt := 15) hx hb dX1_takeAllApart_45 (by decide)) ?_
          exact ih _ _ (by omega) hV hE hFF hSS ls (lv_sub hl [0, 2] rfl)
        · have c_34 := bI_t c_34
          have hE : sp_tA t k (sp_ta t dk k) = sp_tA t n dv := by rw [← hE]; show _ = sp_tA t k (if dk k = true then sp_ta t dk k else dk); rw [if_pos c_34]
          refine xl (fun _ => lv_aload_n hx hb dX1_takeAllApart_37 rfl (lv_at hl 2 rfl)) ?_
          refine xl (fun _ => lv_aload_n hx hb dX1_takeAllApart_38 rfl (lv_at hl 0 rfl)) ?_
          refine x_callV E hl (c_X1_takeApart l G Hk b lo n t rg ta na pa dk hV k hkn) xm_yX1_takeApart wMX1_147 wI_yX1_takeApart wT_yX1_takeApart (ci := 1) rfl rfl hX (rest := []) rfl (by decide) (by decide) ⟨by decide, by decide⟩ dX1_takeAllApart_39 (fun v_1 H_2 hp_3 hz_4 hq_5 => ?_)
          obtain ⟨rfl, hV, hF2, hS2⟩ := hp_3
          have hFF := hFF.tr hF2
          have hSS := hS2.trans hSS
          refine xg (g2 := F0 m 42 ls []) rfl ?_
          obtain ⟨fc, hC, hfI⟩ := id hV
          obtain ⟨hw, hb0, hb4, hlo, hn5, hX, hRG, hMD, hZR, hT, hrg, hwf⟩ := id hC
          refine xs (fun _ => lv_iinc (v := (nI k - 1)) (lv' := [(1, .int (nI k - 1)), (2, .ref (ta k)), (0, .ref b)]) hx hb dX1_takeAllApart_42 hl (k := 1) rfl (by rw [Int32.sub_eq_add_neg]; rfl) (by decide) (rfl)) (fun ls hl => ?_)
          refine xl (fun _ => lv_goto (tgt := 15) hx hb dX1_takeAllApart_45 (by decide)) ?_
          exact ih _ _ (by omega) hV hE hFF hSS ls (lv_sub hl [0, 2] rfl)
  exact hloop n dv H (Nat.le_refl n) hV rfl hFF hSS ls (lv_sub hl [0, 1] rfl)

set_option maxHeartbeats 4000000 in
set_option maxRecDepth 100000 in
theorem c_X1_putAllTogether (l : Launch) (G : sg_G) (H : Heap) (b lo n : Nat) (t : Nat → sp_T) (rg : Nat → Option Nat) (ta na pa : Nat → Nat) (dv : Nat → Bool) (hV : sc_V G b lo n t rg ta na pa dv H)  : xC l G yX1_putAllTogether cX1_putAllTogether 3 none 3 0 0 [.ref b] H (fun v H' => v = none ∧ sc_V G b lo n t rg ta na pa (sp_pA n t dv n) H' ∧ sc_F b lo H H' ∧ H'.size = H.size) := by
  refine xC.start (by decide) (Nat.le_of_ble_eq_true rfl) ?_
  intro p e s m args below meth c ls E hnm hs0 hl
  obtain ⟨hx, hb, hml, hown, hts, hr, hlocks, hK, hbs⟩ := id E
  have hl : lv_has ls 3 [(0, .ref b)] := hl
  obtain ⟨fc, hC, hfI⟩ := id hV
  obtain ⟨hw, hb0, hb4, hlo, hn5, hX, hRG, hMD, hZR, hT, hrg, hwf⟩ := id hC
  have hFF : sc_F b lo H H := sc_F.rf
  have hSS : H.size = H.size := rfl
  refine xl (fun _ => lv_iconst (v := 0) hx hb dX1_putAllTogether_0 (by decide)) ?_
  refine xs (fun _ => lv_istore_n (i := 1) (lv' := [(1, .int 0), (0, .ref b)]) hx hb dX1_putAllTogether_1 rfl hl (by decide) (rfl)) (fun ls hl => ?_)
  have hloop : ∀ (d : Nat) (i : Nat) (Hk : Heap), i ≤ n → n < i + d → sc_V G b lo n t rg ta na pa (sp_pA n t dv i) Hk → sc_F b lo H Hk → Hk.size = H.size → ∀ (ls : Array Slot), lv_has ls 3 [(1, .int (nI i)), (0, .ref b)] → xV p l e (xR 3 0 0) s m args below meth c G Hk 0 0 (MQ below (xQ G H (fun v H' => v = none ∧ sc_V G b lo n t rg ta na pa (sp_pA n t dv n) H' ∧ sc_F b lo H H' ∧ H'.size = H.size)) args s 0 0 (sg_fr G)) (F0 m 2 ls []) := by
    intro d
    induction d with
    | zero =>
      intro i Hk h1 h2
      exact absurd h2 (by omega)
    | succ d ih =>
      intro i Hk hi hd hV hFF hSS ls hl
      obtain ⟨fc, hC, hfI⟩ := id hV
      obtain ⟨hw, hb0, hb4, hlo, hn5, hX, hRG, hMD, hZR, hT, hrg, hwf⟩ := id hC
      refine xl (fun _ => lv_iload_n hx hb dX1_putAllTogether_2 rfl (lv_at hl 0 rfl)) ?_
      refine xl (fun _ => lv_aload_n hx hb dX1_putAllTogether_3 rfl (lv_at hl 1 rfl)) ?_
      refine x_get (ci := 1) hx hb hts hown hK wiX1 hX rfl 2 (by decide) wFX1_18 rfl rfl dX1_putAllTogether_4 ?_
      refine xb (fun _ => lv_icmp_ge (tgt := 55) hx hb dX1_putAllTogether_7 (by decide)) (fun c_7 => ?_) (fun c_7 => ?_)
      · have e4 : i = n := by have := nI_le4 (by omega) (by omega) c_7; omega
        subst e4
        exact x_vret hx hb hr hlocks hs0 hbs (by decide) (by decide) dX1_putAllTogether_55 (⟨rfl, hV, hFF, hSS⟩)
      · have hin : i < n := nI_nle4 (by omega) (by omega) c_7
        refine xl (fun _ => lv_iload_n hx hb dX1_putAllTogether_10 rfl (lv_at hl 0 rfl)) ?_
        refine xl (fun _ => lv_aload_n hx hb dX1_putAllTogether_11 rfl (lv_at hl 1 rfl)) ?_
        refine x_get (ci := 1) hx hb hts hown hK wiX1 hX rfl 1 (by decide) wFX1_15 rfl rfl dX1_putAllTogether_12 ?_
        refine x_alen (n := 512) hx hb hK 2 rfl hMD rfl dX1_putAllTogether_15 ?_
        refine xb (fun _ => lv_icmp_ge (tgt := 55) hx hb dX1_putAllTogether_16 (by decide)) (fun c_16 => ?_) (fun c_16 => ?_)
        · exact absurd c_16 (nI_ge (by omega) (by decide))
        · refine xl (fun _ => lv_aload_n hx hb dX1_putAllTogether_19 rfl (lv_at hl 1 rfl)) ?_
          refine x_get (ci := 1) hx hb hts hown hK wiX1 hX rfl 1 (by decide) wFX1_15 rfl rfl dX1_putAllTogether_20 ?_
          refine xl (fun _ => lv_iload_n hx hb dX1_putAllTogether_23 rfl (lv_at hl 0 rfl)) ?_
          refine x_aald hx hb hK hMD i (rfl) (by omega) (by decide) dX1_putAllTogether_24 ?_
          refine xg (g2 := F0 m 25 ls [.ref (ta i)]) (by show F0 m _ _ (va_rf (if i < n then some (ta i) else none) :: _) = _; rw [if_pos hin]; rfl) ?_
          refine xs (fun _ => lv_astore_n (i := 2) (lv' := [(2, .ref (ta i)), (1, .int (nI i)), (0, .ref b)]) hx hb dX1_putAllTogether_25 rfl hl (by decide) (rfl)) (fun ls hl => ?_)
          refine xl (fun _ => lv_aload_n hx hb dX1_putAllTogether_26 rfl (lv_at hl 0 rfl)) ?_
          refine xl (fun _ => lv_ifnull hx hb dX1_putAllTogether_27) ?_
          refine xl (fun _ => lv_aload_n hx hb dX1_putAllTogether_30 rfl (lv_at hl 0 rfl)) ?_
          refine x_get (ci := 0) hx hb hts hown hK wiX0 ((hT i hin).2.2.2.1) rfl 5 (by decide) wFX1_84 rfl rfl dX1_putAllTogether_31 ?_
          refine xb (fun _ => lv_if_ne (tgt := 49) hx hb dX1_putAllTogether_34 (by decide)) (fun c_34 => ?_) (fun c_34 => ?_)
          · have c_34 := bI_t c_34
            refine xs (fun _ => lv_iinc (v := (nI (i + 1))) (lv' := [(1, .int (nI (i + 1))), (2, .ref (ta i)), (0, .ref b)]) hx hb dX1_putAllTogether_49 hl (k := 1) rfl (nI_1 i) (by decide) (rfl)) (fun ls hl => ?_)
            refine xl (fun _ => lv_goto (tgt := 2) hx hb dX1_putAllTogether_52 (by decide)) ?_
            exact ih (i + 1) _ (by omega) (by omega) (by rw [show sp_pA n t dv (i + 1) = (sp_pA n t dv i) from if_neg (fun z => by rw [c_34] at z; cases z.1)]; exact hV) hFF hSS ls (lv_sub hl [0, 2] rfl)
          · have c_34 := bI_f c_34
            refine xl (fun _ => lv_aload_n hx hb dX1_putAllTogether_37 rfl (lv_at hl 0 rfl)) ?_
            refine x_callV E hl (c_can l G Hk b lo n _ t _ fc rg ta na pa hC hfI i hin) xm_yX0_canBeMadeByAttacker wMX1_128 wI_yX0_canBeMadeByAttacker wT_yX0_canBeMadeByAttacker (ci := 0) rfl rfl ((hT i hin).2.2.2.1) (rest := []) rfl (by decide) (by decide) ⟨by decide, by decide⟩ dX1_putAllTogether_38 (x_pure (r := .int (bI (mkB n t (sp_pA n t dv i) i))) (st1 := []) ?_)
            refine xb (fun _ => lv_if_eq (tgt := 49) hx hb dX1_putAllTogether_41 (by decide)) (fun c_41 => ?_) (fun c_41 => ?_)
            · have c_41 := bI_f c_41
              refine xs (fun _ => lv_iinc (v := (nI (i + 1))) (lv' := [(1, .int (nI (i + 1))), (2, .ref (ta i)), (0, .ref b)]) hx hb dX1_putAllTogether_49 hl (k := 1) rfl (nI_1 i) (by decide) (rfl)) (fun ls hl => ?_)
              refine xl (fun _ => lv_goto (tgt := 2) hx hb dX1_putAllTogether_52 (by decide)) ?_
              exact ih (i + 1) _ (by omega) (by omega) (by rw [show sp_pA n t dv (i + 1) = (sp_pA n t dv i) from if_neg (fun z => by rw [c_41] at z; cases z.2)]; exact hV) hFF hSS ls (lv_sub hl [0, 2] rfl)
            · have c_41 := bI_t c_41
              refine xl (fun _ => lv_aload_n hx hb dX1_putAllTogether_44 rfl (lv_at hl 2 rfl)) ?_
              refine xl (fun _ => lv_aload_n hx hb dX1_putAllTogether_45 rfl (lv_at hl 0 rfl)) ?_
              refine x_callV E hl (c_X1_derive_s l G Hk b lo n t rg ta na pa _ hV i hin) xm_yX1_derive wMX1_88 wI_yX1_derive wT_yX1_derive (ci := 1) rfl rfl hX (rest := []) rfl (by decide) (by decide) ⟨by decide, by decide⟩ dX1_putAllTogether_46 (fun v_1 H_2 hp_3 hz_4 hq_5 => ?_)
              obtain ⟨rfl, hV, hF2, hS2⟩ := hp_3
              have hFF := hFF.tr hF2
              have hSS := hS2.trans hSS
              refine xg (g2 := F0 m 49 ls []) rfl ?_
              obtain ⟨fc, hC, hfI⟩ := id hV
              obtain ⟨hw, hb0, hb4, hlo, hn5, hX, hRG, hMD, hZR, hT, hrg, hwf⟩ := id hC
              refine xs (fun _ => lv_iinc (v := (nI (i + 1))) (lv' := [(1, .int (nI (i + 1))), (2, .ref (ta i)), (0, .ref b)]) hx hb dX1_putAllTogether_49 hl (k := 1) rfl (nI_1 i) (by decide) (rfl)) (fun ls hl => ?_)
              refine xl (fun _ => lv_goto (tgt := 2) hx hb dX1_putAllTogether_52 (by decide)) ?_
              exact ih (i + 1) _ (by omega) (by omega) (by rw [show sp_pA n t dv (i + 1) = (sp_up (sp_pA n t dv i) i) from if_pos ⟨c_34, c_41⟩]; exact hV) hFF hSS ls (lv_sub hl [0, 2] rfl)
  exact hloop (n + 1) 0 _ (by omega) (by omega) hV hFF hSS ls (lv_sub hl [0, 1] rfl)

set_option maxHeartbeats 4000000 in
set_option maxRecDepth 100000 in
theorem c_X1_spread (l : Launch) (G : sg_G) (H : Heap) (b lo n : Nat) (t : Nat → sp_T) (rg : Nat → Option Nat) (ta na pa : Nat → Nat) (dv : Nat → Bool) (hV : sc_V G b lo n t rg ta na pa dv H)  : xC l G yX1_spread cX1_spread 4 none 4 0 0 [.ref b] H (fun v H' => v = none ∧ (∃ dv', sc_V G b lo n t rg ta na pa dv' H' ∧ sp_ok n t dv dv' ∧ sp_cd n t dv') ∧ sc_F b lo H H' ∧ H'.size = H.size) := by
  refine xC.start (by decide) (Nat.le_of_ble_eq_true rfl) ?_
  intro p e s m args below meth c ls E hnm hs0 hl
  obtain ⟨hx, hb, hml, hown, hts, hr, hlocks, hK, hbs⟩ := id E
  have hl : lv_has ls 4 [(0, .ref b)] := hl
  obtain ⟨fc, hC, hfI⟩ := id hV
  obtain ⟨hw, hb0, hb4, hlo, hn5, hX, hRG, hMD, hZR, hT, hrg, hwf⟩ := id hC
  have hFF : sc_F b lo H H := sc_F.rf
  have hSS : H.size = H.size := rfl
  refine xl (fun _ => lv_iconst (v := 1) hx hb dX1_spread_0 (by decide)) ?_
  refine xs (fun _ => lv_istore_n (i := 1) (lv' := [(1, .int 1), (0, .ref b)]) hx hb dX1_spread_1 rfl hl (by decide) (rfl)) (fun ls hl => ?_)
  refine xl (fun _ => lv_iconst (v := 0) hx hb dX1_spread_2 (by decide)) ?_
  refine xs (fun _ => lv_istore_n (i := 2) (lv' := [(2, .int 0), (1, .int 1), (0, .ref b)]) hx hb dX1_spread_3 rfl hl (by decide) (rfl)) (fun ls hl => ?_)
  have hloop : ∀ (d : Nat) (q : Nat) (mo : Bool) (dk : Nat → Bool) (Hk : Heap), q ≤ 513 → 513 < q + d → sc_V G b lo n t rg ta na pa dk Hk → sp_ok n t dv dk → (mo = false → sp_cd n t dk) → (mo = true → q ≤ sp_ct dk n) → sc_F b lo H Hk → Hk.size = H.size → ∀ (ls : Array Slot), lv_has ls 4 [(2, .int (nI q)), (1, .int (bI mo)), (0, .ref b)] → xV p l e (xR 4 0 0) s m args below meth c G Hk 0 0 (MQ below (xQ G H (fun v H' => v = none ∧ (∃ dv', sc_V G b lo n t rg ta na pa dv' H' ∧ sp_ok n t dv dv' ∧ sp_cd n t dv') ∧ sc_F b lo H H' ∧ H'.size = H.size)) args s 0 0 (sg_fr G)) (F0 m 4 ls []) := by
    intro d
    induction d with
    | zero =>
      intro q mo dk Hk h1 h2
      exact absurd h2 (by omega)
    | succ d ih =>
      intro q mo dk Hk hq hd hV hO hN hM hFF hSS ls hl
      obtain ⟨fc, hC, hfI⟩ := id hV
      obtain ⟨hw, hb0, hb4, hlo, hn5, hX, hRG, hMD, hZR, hT, hrg, hwf⟩ := id hC
      refine xl (fun _ => lv_iload_n hx hb dX1_spread_4 rfl (lv_at hl 1 rfl)) ?_
      refine xb (fun _ => lv_if_eq (tgt := 48) hx hb dX1_spread_5 (by decide)) (fun c_5 => ?_) (fun c_5 => ?_)
      · have c_5 := bI_f c_5
        exact x_vret hx hb hr hlocks hs0 hbs (by decide) (by decide) dX1_spread_48 (⟨rfl, ⟨dk, hV, hO, hN c_5⟩, hFF, hSS⟩)
      · have c_5 := bI_t c_5
        refine xl (fun _ => lv_iload_n hx hb dX1_spread_8 rfl (lv_at hl 0 rfl)) ?_
        refine xl (fun _ => lv_sipush (v := 512) hx hb dX1_spread_9 (by decide)) ?_
        refine xb (fun _ => lv_icmp_gt (tgt := 48) hx hb dX1_spread_12 (by decide)) (fun c_12 => ?_) (fun c_12 => ?_)
        · have hct := sp_ct_le dk n
          exact absurd (hM c_5) (by have : 512 < q := (nI_ltI (a := 512) (by decide) (by omega)).mp c_12; omega)
        · have hq5 : q ≤ 512 := Nat.not_lt.mp fun z => c_12 ((nI_ltI (a := 512) (by decide) (by omega)).mpr z)
          have hbd := sc_bd hC
          refine xl (fun _ => lv_aload_n hx hb dX1_spread_15 rfl (lv_at hl 2 rfl)) ?_
          refine x_get (ci := 1) hx hb hts hown hK wiX1 hX rfl 3 (by decide) wFX1_22 rfl rfl dX1_spread_16 ?_
          refine xs (fun _ => lv_istore_n (i := 3) (lv' := [(3, .int (nI (sp_ct dk n))), (2, .int (nI q)), (1, .int (bI mo)), (0, .ref b)]) hx hb dX1_spread_19 rfl hl (by decide) (rfl)) (fun ls hl => ?_)
          refine xl (fun _ => lv_aload_n hx hb dX1_spread_20 rfl (lv_at hl 3 rfl)) ?_
          refine x_callV E hl (c_X1_takeAllApart l G Hk b lo n t rg ta na pa dk hV) xm_yX1_takeAllApart wMX1_135 wI_yX1_takeAllApart wT_yX1_takeAllApart (ci := 1) rfl rfl hX (rest := []) rfl (by decide) (by decide) ⟨by decide, by decide⟩ dX1_spread_21 (fun v_1 H_2 hp_3 hz_4 hq_5 => ?_)
          obtain ⟨rfl, hV, hF2, hS2⟩ := hp_3
          have hFF := hFF.tr hF2
          have hSS := hS2.trans hSS
          refine xg (g2 := F0 m 24 ls []) rfl ?_
          obtain ⟨fc, hC, hfI⟩ := id hV
          obtain ⟨hw, hb0, hb4, hlo, hn5, hX, hRG, hMD, hZR, hT, hrg, hwf⟩ := id hC
          refine xl (fun _ => lv_aload_n hx hb dX1_spread_24 rfl (lv_at hl 3 rfl)) ?_
          refine x_callV E hl (c_X1_putAllTogether l G H_2 b lo n t rg ta na pa _ hV) xm_yX1_putAllTogether wMX1_138 wI_yX1_putAllTogether wT_yX1_putAllTogether (ci := 1) rfl rfl hX (rest := []) rfl (by decide) (by decide) ⟨by decide, by decide⟩ dX1_spread_25 (fun v_6 H_7 hp_8 hz_9 hq_10 => ?_)
          obtain ⟨rfl, hV, hF2, hS2⟩ := hp_8
          have hFF := hFF.tr hF2
          have hSS := hS2.trans hSS
          refine xg (g2 := F0 m 28 ls []) rfl ?_
          obtain ⟨fc, hC, hfI⟩ := id hV
          obtain ⟨hw, hb0, hb4, hlo, hn5, hX, hRG, hMD, hZR, hT, hrg, hwf⟩ := id hC
          refine xl (fun _ => lv_aload_n hx hb dX1_spread_28 rfl (lv_at hl 3 rfl)) ?_
          refine x_get (ci := 1) hx hb hts hown hK wiX1 hX rfl 3 (by decide) wFX1_22 rfl rfl dX1_spread_29 ?_
          refine xl (fun _ => lv_iload_n hx hb dX1_spread_32 rfl (lv_at hl 0 rfl)) ?_
          refine xb (fun _ => lv_icmp_le (tgt := 40) hx hb dX1_spread_33 (by decide)) (fun c_33 => ?_) (fun c_33 => ?_)
          · have hcn := sp_ct_le (sp_pA n t (sp_tA t n dk) n) n
            have hck := sp_ct_le dk n
            have hle : sp_ct (sp_pA n t (sp_tA t n dk) n) n ≤ sp_ct dk n := (nI_leI (by omega) (by omega)).mp c_33
            refine xl (fun _ => lv_iconst (v := 0) hx hb dX1_spread_40 (by decide)) ?_
            refine xg (g2 := F0 m 41 ls [.int (bI false)]) rfl ?_
            refine xs (fun _ => lv_istore_n (i := 1) (lv' := [(1, .int (bI false)), (3, .int (nI (sp_ct dk n))), (2, .int (nI q)), (0, .ref b)]) hx hb dX1_spread_41 rfl hl (by decide) (rfl)) (fun ls hl => ?_)
            refine xs (fun _ => lv_iinc (v := (nI (q + 1))) (lv' := [(2, .int (nI (q + 1))), (1, .int (bI false)), (3, .int (nI (sp_ct dk n))), (0, .ref b)]) hx hb dX1_spread_42 hl (k := 2) rfl (nI_1 q) (by decide) (rfl)) (fun ls hl => ?_)
            refine xl (fun _ => lv_goto (tgt := 4) hx hb dX1_spread_45 (by decide)) ?_
            exact ih (q + 1) false _ _ (by omega) (by omega) hV (sp_ok_ps hbd hO) (fun _ => sp_cd_ps hbd hle) (fun z => by cases z) hFF hSS ls (lv_sub hl [0, 1, 3] rfl)
          · have hcn := sp_ct_le (sp_pA n t (sp_tA t n dk) n) n
            have hck := sp_ct_le dk n
            have hgr : sp_ct dk n < sp_ct (sp_pA n t (sp_tA t n dk) n) n := Nat.not_le.mp fun z => c_33 ((nI_leI (by omega) (by omega)).mpr z)
            refine xl (fun _ => lv_iconst (v := 1) hx hb dX1_spread_36 (by decide)) ?_
            refine xl (fun _ => lv_goto (tgt := 41) hx hb dX1_spread_37 (by decide)) ?_
            refine xg (g2 := F0 m 41 ls [.int (bI true)]) rfl ?_
            refine xs (fun _ => lv_istore_n (i := 1) (lv' := [(1, .int (bI true)), (3, .int (nI (sp_ct dk n))), (2, .int (nI q)), (0, .ref b)]) hx hb dX1_spread_41 rfl hl (by decide) (rfl)) (fun ls hl => ?_)
            refine xs (fun _ => lv_iinc (v := (nI (q + 1))) (lv' := [(2, .int (nI (q + 1))), (1, .int (bI true)), (3, .int (nI (sp_ct dk n))), (0, .ref b)]) hx hb dX1_spread_42 hl (k := 2) rfl (nI_1 q) (by decide) (rfl)) (fun ls hl => ?_)
            refine xl (fun _ => lv_goto (tgt := 4) hx hb dX1_spread_45 (by decide)) ?_
            exact ih (q + 1) true _ _ (by omega) (by omega) hV (sp_ok_ps hbd hO) (fun z => by cases z) (fun _ => by have := hM c_5; have := hgr; omega) hFF hSS ls (lv_sub hl [0, 1, 3] rfl)
  exact hloop 514 0 true _ _ (by omega) (by omega) hV sp_ok_rf (fun z => by cases z) (fun _ => Nat.zero_le _) hFF hSS ls (lv_sub hl [0, 1, 2] rfl)
end
section
/-! MAKING -/
abbrev sp_S : Type := Nat × (Nat → sp_T) × (Nat → Option Nat) × (Nat → Prop)
def sp_lk (x d : sp_T) : Prop := ¬ sp_so x = 1 ∧ sp_so x = sp_so d ∧ sp_la x = sp_la d ∧ ∀ k, k < 4 → sp_pa x k = sp_pa d k ∧ sp_nu x k = sp_nu d k
noncomputable def sp_al (x d : sp_T) : Bool := @decide (sp_lk x d) (Classical.propDecidable _)
theorem sp_al_t {x d : sp_T} : sp_al x d = true ↔ sp_lk x d := by
  unfold sp_al
  exact @decide_eq_true_iff _ (Classical.propDecidable _)
def sp_fd (P : Nat → Bool) : Nat → Option Nat
  | 0 => none
  | k + 1 => match sp_fd P k with
    | some i => some i
    | none => if P k = true then some k else none
theorem sp_fd_s {P : Nat → Bool} {k : Nat} (h : sp_fd P k = none) (n : P k = false) : sp_fd P (k + 1) = none := by
  show (match sp_fd P k with | some i => some i | none => if P k = true then some k else none) = none
  rw [h, n]; rfl
theorem sp_fd_y {P : Nat → Bool} {k : Nat} (h : sp_fd P k = none) (n : P k = true) (m : Nat) : sp_fd P (k + 1 + m) = some k := by
  induction m with
  | zero =>
    show (match sp_fd P k with | some i => some i | none => if P k = true then some k else none) = some k
    rw [h, n]; rfl
  | succ m ih =>
    show (match sp_fd P (k + 1 + m) with | some i => some i | none => if P (k + 1 + m) = true then some (k + 1 + m) else none) = some k
    rw [ih]
theorem sp_fd_hit {P : Nat → Bool} {k n : Nat} (h : sp_fd P k = none) (y : P k = true) (hn : k < n) : sp_fd P n = some k := by
  have := sp_fd_y h y (n - (k + 1))
  rw [show k + 1 + (n - (k + 1)) = n by omega] at this
  exact this
theorem sp_fd_lt {P : Nat → Bool} {n i : Nat} (h : sp_fd P n = some i) : i < n ∧ P i = true := by
  induction n with
  | zero => cases h
  | succ k ih =>
    have h' : (match sp_fd P k with | some i => some i | none => if P k = true then some k else none) = some i := h
    cases hk : sp_fd P k with
    | some j =>
      rw [hk] at h'
      cases h'
      have := ih hk
      exact ⟨by omega, this.2⟩
    | none =>
      rw [hk] at h'
      by_cases e : P k = true
      · rw [if_pos e] at h'; cases h'; exact ⟨by omega, e⟩
      · rw [if_neg e] at h'; cases h'
theorem sp_fd_eq {P P' : Nat → Bool} {n : Nat} (h : ∀ i, i < n → P i = P' i) : sp_fd P n = sp_fd P' n := by
  induction n with
  | zero => rfl
  | succ k ih =>
    show (match sp_fd P k with | some i => some i | none => if P k = true then some k else none) = (match sp_fd P' k with | some i => some i | none => if P' k = true then some k else none)
    rw [ih (fun i hi => h i (by omega)), h k (by omega)]
noncomputable def sp_mkS (a : sp_S) (k : Nat) (d : sp_T) : sp_S := match sp_fd (fun i => sp_al (a.2.1 i) d) a.1 with
  | some i => (a.1, a.2.1, va_up a.2.2.1 k (some i), a.2.2.2)
  | none => (a.1 + 1, va_up a.2.1 a.1 d, va_up a.2.2.1 k (some a.1), a.2.2.2)
noncomputable def sp_mi (a : sp_S) (r : Int32) (d : sp_T) : Int32 × sp_S := if sp_ir r = true then (1, sp_mkS a r.toNatClampNeg d) else (-1, a)
noncomputable def sp_mo (a : sp_S) (r : Int32) (o : Option sp_T) : Int32 × sp_S := match o with
  | some d => sp_mi a r d
  | none => (-1, a)
def sp_pt (rg : Nat → Option Nat) (r : Int32) (i : Nat) : Nat → Option Nat := if sp_ir r = true then va_up rg r.toNatClampNeg (some i) else rg
def sp_r1 (r : Int32) : Int32 := if sp_ir r = true then 1 else -1
def sc_H (G : sg_G) (b lo n : Nat) (t : Nat → sp_T) (rg : Nat → Option Nat) (g : Nat → Prop) (H : Heap) : Prop := ∃ ta na pa dv, sc_V G b lo n t rg ta na pa dv H ∧ (∀ i, i < n → (dv i = true ↔ sp_der n t g i)) ∧ ∀ i, g i → i < n
def sc_HS (G : sg_G) (b lo : Nat) (a : sp_S) (H : Heap) : Prop := sc_H G b lo a.1 a.2.1 a.2.2.1 a.2.2.2 H
theorem fcI_grow {n : Nat} {t : Nat → sp_T} {dv fc : Nat → Bool} {d : sp_T} (h : fcI n t dv fc) (hb : ∀ i, i < n → sp_bd n (t i)) (hd : sp_bd n d) : fcI (n + 1) (va_up t n d) (va_up dv n false) (va_up fc n false) := by
  intro y hy h1
  by_cases e : y = n
  · subst e
    rw [va_up_self]
    refine ⟨(fun a => by cases a), fun a => ?_⟩
    rcases a with a | ⟨j, q1, q2, q3, q4⟩
    · rw [sp_B, va_up_self] at a; cases a
    · by_cases ej : j = y
      · subst ej
        rw [sp_B, va_up_self] at q4; cases q4
      · rw [va_up_ne _ _ ej] at q3
        have := hb j (by omega) 0 (by omega) y q3
        omega
  · have hy' : y < n := by omega
    rw [va_up_ne _ _ e] at h1 ⊢
    rw [h y hy' h1]
    constructor
    · intro a
      rcases a with a | ⟨j, q1, q2, q3, q4⟩
      · exact Or.inl (by rw [sp_B, va_up_ne _ _ e]; exact a)
      · exact Or.inr ⟨j, by omega, by rw [va_up_ne _ _ (by omega)]; exact q2, by rw [va_up_ne _ _ (by omega)]; exact q3, by rw [sp_B, va_up_ne _ _ (by omega)]; exact q4⟩
    · intro a
      rcases a with a | ⟨j, q1, q2, q3, q4⟩
      · exact Or.inl (by rw [sp_B, va_up_ne _ _ e] at a; exact a)
      · by_cases ej : j = n
        · subst ej
          rw [sp_B, va_up_self] at q4; cases q4
        · rw [va_up_ne _ _ ej] at q2 q3
          rw [sp_B, va_up_ne _ _ ej] at q4
          exact Or.inr ⟨j, by omega, q2, q3, q4⟩
theorem sp_ct_grow {dv : Nat → Bool} {n : Nat} : sp_ct (va_up dv n false) (n + 1) = sp_ct dv n := by
  show sp_ct (va_up dv n false) n + _ = _
  rw [va_up_self, if_neg (by decide), sp_ct_eq (b := va_up dv n false) (b' := dv) (fun i hi => va_up_ne _ _ (Nat.ne_of_lt hi))]
  rfl
theorem sp_up_grow {dv : Nat → Bool} {n : Nat} : sp_up (va_up dv n false) n = va_up dv n true := by
  funext j
  by_cases e : j = n
  · subst e; rw [sp_up_self, va_up_self]
  · rw [sp_up_ne _ e, va_up_ne _ _ e, va_up_ne _ _ e]
/-- a fresh plain term beside the world -/
theorem sc_plain {G : sg_G} {b lo n : Nat} {t : Nat → sp_T} {rg : Nat → Option Nat} {ta na pa : Nat → Nat} {dv : Nat → Bool} {H H1 : Heap} (hV : sc_V G b lo n t rg ta na pa dv H) (o1 o2 o3 : Option Nat) (so la : Int32) (ht : tob G H1 (H.size + 1) so la (b + 3) H.size 0 false false) (hr : ra_ G H1 H.size 4 (sp_p4 (o1.map ta) (o2.map ta) (o3.map ta))) (hz : H1.size = H.size + 2) (hq : ∀ q, q < H.size → H1[q]? = H[q]?) :
    sc_V G b lo n t rg ta na pa dv H1 ∧ sc_O G H1 b lo ta (so, la, (fun _ => 0), sp_p4 o1 o2 o3) (H.size + 1) (b + 3) H.size 0 false false ∧ (∀ i, i < n → ta i ≠ H.size + 1) ∧ sc_F b lo H H1 := by
  obtain ⟨fc, hC, hfI⟩ := hV
  obtain ⟨hw, hb0, hb4, hlo, hn5, hX, hRG, hMD, hZR, hT, hrg, hwf⟩ := id hC
  refine ⟨⟨fc, hC.kept (by omega) (fun q _ _ h => hq q h), hfI⟩, ⟨by omega, Or.inl rfl, hlo, ht, hZR.kept (hq _ (va_at.lt hZR)), ra_to hr (fun k _ => sp_p4_map ta o1 o2 o3 k)⟩, fun i hi => ?_, ⟨by omega, fun q _ h => hq q (by omega)⟩⟩
  have := va_at.lt (hT i hi).2.2.2.1
  have : ta i < H.size := this
  omega
/-- the terms of a register are objects -/
theorem sc_obo {G : sg_G} {b lo n dc : Nat} {t : Nat → sp_T} {dv fc : Nat → Bool} {rg : Nat → Option Nat} {ta na pa : Nat → Nat} {H : Heap} (h : sc_X G b lo n t dv fc rg dc ta na pa H) {o : Option Nat} (ho : ∀ j, o = some j → j < n) : ∀ v, o.map ta = some v → ∃ fs, ob_ G H v 0 fs := by
  obtain ⟨-, -, -, -, -, -, -, -, -, hT, -⟩ := h
  intro v e
  cases o with
  | none => cases e
  | some j => cases e; exact ⟨_, (hT j (ho j rfl)).2.2.2.1⟩
/-- what is derived, with one more term -/
theorem sp_der_grow {n : Nat} {t : Nat → sp_T} {g : Nat → Prop} {dv : Nat → Bool} {d : sp_T} (hb : ∀ i, i < n → sp_bd n (t i)) (hd : sp_bd n d) (hg : ∀ i, g i → i < n) (hD : ∀ i, i < n → (dv i = true ↔ sp_der n t g i)) :
    ∀ i, i < n + 1 → (va_up dv n (mkB (n + 1) (va_up t n d) (va_up dv n false) n) i = true ↔ sp_der (n + 1) (va_up t n d) g i) := by
  have key := sp_der_new (t' := va_up t n d) hb hd (fun i hi => va_up_ne _ _ (Nat.ne_of_lt hi)) (va_up_self _ _ _) (fun h => Nat.lt_irrefl n (hg n h))
  intro i hi
  by_cases e : i = n
  · subst e
    rw [va_up_self, key.2, mkB_t, va_up_self]
    constructor
    · intro a
      rcases a with ⟨h1, x, y, h2, h3, h4⟩ | ⟨h1, h2, h3⟩
      · refine Or.inl ⟨h1, x, y, h2, h3, ?_⟩
        have hx := hd 0 (by omega) x h2
        have hy := hd 1 (by omega) y h3
        have low : ∀ z, z < i → sp_B (va_up dv i false) z → sp_der i t g z := fun z hz a => (hD z hz).mp (by rw [sp_B, va_up_ne _ _ (by omega)] at a; exact a)
        have sh : ∀ z, z < i → sp_sh (i + 1) (va_up t i d) (sp_B (va_up dv i false)) z → sp_sh i t (sp_der i t g) z := by
          intro z hz a
          rcases a with a | ⟨j, q1, q2, q3, q4⟩
          · exact Or.inl (low z hz a)
          · by_cases ej : j = i
            · subst ej; rw [sp_B, va_up_self] at q4; cases q4
            · rw [va_up_ne _ _ ej] at q2 q3
              exact Or.inr ⟨j, by omega, q2, q3, low j (by omega) q4⟩
        rcases h4 with ⟨u, v⟩ | ⟨u, v⟩
        · exact Or.inl ⟨low x hx u, sh y hy v⟩
        · exact Or.inr ⟨low y hy u, sh x hx v⟩
      · exact Or.inr ⟨h1, h2, fun k hk j ej => (hD j (hd k hk j ej)).mp (by have := h3 k hk j ej; rw [sp_B, va_up_ne _ _ (Nat.ne_of_lt (hd k hk j ej))] at this; exact this)⟩
    · intro a
      have upl : ∀ z, z < i → sp_der i t g z → sp_B (va_up dv i false) z := fun z hz a => by rw [sp_B, va_up_ne _ _ (by omega)]; exact (hD z hz).mpr a
      rcases a with ⟨h1, x, y, h2, h3, h4⟩ | ⟨h1, h2, h3⟩
      · refine Or.inl ⟨h1, x, y, h2, h3, ?_⟩
        have hx := hd 0 (by omega) x h2
        have hy := hd 1 (by omega) y h3
        have sh : ∀ z, z < i → sp_sh i t (sp_der i t g) z → sp_sh (i + 1) (va_up t i d) (sp_B (va_up dv i false)) z := by
          intro z hz a
          rcases a with a | ⟨j, q1, q2, q3, q4⟩
          · exact Or.inl (upl z hz a)
          · exact Or.inr ⟨j, by omega, by rw [va_up_ne _ _ (by omega)]; exact q2, by rw [va_up_ne _ _ (by omega)]; exact q3, upl j q1 q4⟩
        rcases h4 with ⟨u, v⟩ | ⟨u, v⟩
        · exact Or.inl ⟨upl x hx u, sh y hy v⟩
        · exact Or.inr ⟨upl y hy u, sh x hx v⟩
      · exact Or.inr ⟨h1, h2, fun k hk j ej => upl j (hd k hk j ej) (h3 k hk j ej)⟩
  · rw [va_up_ne _ _ e, key.1 i (by omega)]
    exact hD i (by omega)
theorem sp_mi_no {a : sp_S} {r : Int32} {d : sp_T} (h : sp_ir r = false) : sp_mi a r d = (-1, a) := by unfold sp_mi; rw [if_neg (by rw [h]; decide)]
theorem sp_mi_old {n : Nat} {t : Nat → sp_T} {rg : Nat → Option Nat} {g : Nat → Prop} {r : Int32} {d : sp_T} {i : Nat} (h : sp_ir r = true) (hf : sp_fd (fun i => sp_al (t i) d) n = some i) : sp_mi (n, t, rg, g) r d = (1, (n, t, va_up rg r.toNatClampNeg (some i), g)) := by
  unfold sp_mi sp_mkS
  rw [if_pos h]
  dsimp only
  rw [hf]
theorem sp_mi_new {n : Nat} {t : Nat → sp_T} {rg : Nat → Option Nat} {g : Nat → Prop} {r : Int32} {d : sp_T} (h : sp_ir r = true) (hf : sp_fd (fun i => sp_al (t i) d) n = none) : sp_mi (n, t, rg, g) r d = (1, (n + 1, va_up t n d, va_up rg r.toNatClampNeg (some n), g)) := by
  unfold sp_mi sp_mkS
  rw [if_pos h]
  dsimp only
  rw [hf]
end
section
set_option maxHeartbeats 4000000 in
set_option maxRecDepth 100000 in
theorem c_X1_findLike (l : Launch) (G : sg_G) (H : Heap) (b lo n dc : Nat) (t : Nat → sp_T) (dv fc : Nat → Bool) (rg : Nat → Option Nat) (ta na pa : Nat → Nat) (hC : sc_X G b lo n t dv fc rg dc ta na pa H) (dd : sp_T) (w nw pw : Nat) (pl : Int32) (dw fw : Bool) (hO : sc_O G H b lo ta dd w nw pw pl dw fw) (hbd : sp_bd n dd) : xC l G yX1_findLike cX1_findLike 4 (some (FieldType.object "TermSpread$Term")) 2 0 0 [.ref b, .ref w] H (xPu (va_rf ((sp_fd (fun i => sp_al (t i) dd) n).map ta)) H) := by
  refine xC.start (by decide) (Nat.le_of_ble_eq_true rfl) ?_
  intro p e s m args below meth c ls E hnm hs0 hl
  obtain ⟨hx, hb, hml, hown, hts, hr, hlocks, hK, hbs⟩ := id E
  have hl : lv_has ls 4 [(0, .ref b), (1, .ref w)] := hl
  obtain ⟨hw, hb0, hb4, hlo, hn5, hX, hRG, hMD, hZR, hT, hrg, hwf⟩ := id hC
  refine xl (fun _ => lv_iconst (v := 0) hx hb dX1_findLike_0 (by decide)) ?_
  refine xs (fun _ => lv_istore_n (i := 2) (lv' := [(2, .int 0), (0, .ref b), (1, .ref w)]) hx hb dX1_findLike_1 rfl hl (by decide) (rfl)) (fun ls hl => ?_)
  have hloop : ∀ (d : Nat) (i : Nat), i ≤ n → n < i + d → sp_fd (fun i => sp_al (t i) dd) i = none → ∀ (ls : Array Slot), lv_has ls 4 [(2, .int (nI i)), (0, .ref b), (1, .ref w)] → xV p l e (xR 2 0 0) s m args below meth c G H 0 0 (MQ below (xQ G H (xPu (va_rf ((sp_fd (fun i => sp_al (t i) dd) n).map ta)) H)) args s 0 0 (sg_fr G)) (F0 m 2 ls []) := by
    intro d
    induction d with
    | zero =>
      intro i h1 h2
      exact absurd h2 (by omega)
    | succ d ih =>
      intro i hi hd hf ls hl
      refine xl (fun _ => lv_iload_n hx hb dX1_findLike_2 rfl (lv_at hl 0 rfl)) ?_
      refine xl (fun _ => lv_aload_n hx hb dX1_findLike_3 rfl (lv_at hl 1 rfl)) ?_
      refine x_get (ci := 1) hx hb hts hown hK wiX1 hX rfl 2 (by decide) wFX1_18 rfl rfl dX1_findLike_4 ?_
      refine xb (fun _ => lv_icmp_ge (tgt := 46) hx hb dX1_findLike_7 (by decide)) (fun c_7 => ?_) (fun c_7 => ?_)
      · have e4 : i = n := by have := nI_le4 (by omega) (by omega) c_7; omega
        subst e4
        refine xl (fun _ => lv_null hx hb dX1_findLike_46) ?_
        exact x_aret hx hb hr hlocks hs0 hbs (Or.inl rfl) (by decide) (by decide) dX1_findLike_47 (⟨by rw [hf]; rfl, rfl⟩)
      · have hin : i < n := nI_nle4 (by omega) (by omega) c_7
        refine xl (fun _ => lv_iload_n hx hb dX1_findLike_10 rfl (lv_at hl 0 rfl)) ?_
        refine xl (fun _ => lv_aload_n hx hb dX1_findLike_11 rfl (lv_at hl 1 rfl)) ?_
        refine x_get (ci := 1) hx hb hts hown hK wiX1 hX rfl 1 (by decide) wFX1_15 rfl rfl dX1_findLike_12 ?_
        refine x_alen (n := 512) hx hb hK 2 rfl hMD rfl dX1_findLike_15 ?_
        refine xb (fun _ => lv_icmp_ge (tgt := 46) hx hb dX1_findLike_16 (by decide)) (fun c_16 => ?_) (fun c_16 => ?_)
        · exact absurd c_16 (nI_ge (by omega) (by decide))
        · refine xl (fun _ => lv_aload_n hx hb dX1_findLike_19 rfl (lv_at hl 1 rfl)) ?_
          refine x_get (ci := 1) hx hb hts hown hK wiX1 hX rfl 1 (by decide) wFX1_15 rfl rfl dX1_findLike_20 ?_
          refine xl (fun _ => lv_iload_n hx hb dX1_findLike_23 rfl (lv_at hl 0 rfl)) ?_
          refine x_aald hx hb hK hMD i (rfl) (by omega) (by decide) dX1_findLike_24 ?_
          refine xg (g2 := F0 m 25 ls [.ref (ta i)]) (by show F0 m _ _ (va_rf (if i < n then some (ta i) else none) :: _) = _; rw [if_pos hin]; rfl) ?_
          refine xs (fun _ => lv_astore_n (i := 3) (lv' := [(3, .ref (ta i)), (2, .int (nI i)), (0, .ref b), (1, .ref w)]) hx hb dX1_findLike_25 rfl hl (by decide) (rfl)) (fun ls hl => ?_)
          refine xl (fun _ => lv_aload_n hx hb dX1_findLike_26 rfl (lv_at hl 0 rfl)) ?_
          refine xl (fun _ => lv_ifnull hx hb dX1_findLike_27) ?_
          refine xl (fun _ => lv_aload_n hx hb dX1_findLike_30 rfl (lv_at hl 0 rfl)) ?_
          refine xl (fun _ => lv_aload_n hx hb dX1_findLike_31 rfl (lv_at hl 3 rfl)) ?_
          refine x_callV E hl (c_X0_isMadeLike l G H (ta i) (na i) (pa i) _ _ _ _ _ w nw pw _ _ _ _ _ _ _ _ _ (hT i hin).2.2.2.1 (hT i hin).2.2.2.2.1 (hT i hin).2.2.2.2.2 hO.2.2.2.1 hO.2.2.2.2.1 hO.2.2.2.2.2 (sp_al (t i) dd) (by rw [sp_al_t]; exact ⟨fun z => ⟨z.1, z.2.1, z.2.2.1, fun k hk => ⟨by rw [(z.2.2.2 k hk).1], (z.2.2.2 k hk).2⟩⟩, fun z => ⟨z.1, z.2.1, z.2.2.1, fun k hk => ⟨sc_injo hC (sc_bd hC i hin k hk) (hbd k hk) (z.2.2.2 k hk).1, (z.2.2.2 k hk).2⟩⟩⟩)) xm_yX0_isMadeLike wMX1_125 wI_yX0_isMadeLike wT_yX0_isMadeLike (ci := 0) rfl rfl ((hT i hin).2.2.2.1) (rest := []) rfl (by decide) (by decide) ⟨by decide, by decide⟩ dX1_findLike_32 (x_pure (r := .int (bI (sp_al (t i) dd))) (st1 := []) ?_)
          refine xb (fun _ => lv_if_eq (tgt := 40) hx hb dX1_findLike_35 (by decide)) (fun c_35 => ?_) (fun c_35 => ?_)
          · have c_35 := bI_f c_35
            refine xs (fun _ => lv_iinc (v := (nI (i + 1))) (lv' := [(2, .int (nI (i + 1))), (3, .ref (ta i)), (0, .ref b), (1, .ref w)]) hx hb dX1_findLike_40 hl (k := 1) rfl (nI_1 i) (by decide) (rfl)) (fun ls hl => ?_)
            refine xl (fun _ => lv_goto (tgt := 2) hx hb dX1_findLike_43 (by decide)) ?_
            exact ih (i + 1) (by omega) (by omega) (sp_fd_s hf c_35) ls (lv_sub hl [0, 2, 3] rfl)
          · have c_35 := bI_t c_35
            refine xl (fun _ => lv_aload_n hx hb dX1_findLike_38 rfl (lv_at hl 0 rfl)) ?_
            exact x_aret hx hb hr hlocks hs0 hbs (Or.inr ⟨_, rfl⟩) (by decide) (by decide) dX1_findLike_39 (⟨by rw [sp_fd_hit hf c_35 hin]; rfl, rfl⟩)
  exact hloop (n + 1) 0 (by omega) (by omega) rfl ls (lv_sub hl [0, 1, 2] rfl)

theorem c_X1_findLike_n (l : Launch) (G : sg_G) (H : Heap) (b lo n dc : Nat) (t : Nat → sp_T) (dv fc : Nat → Bool) (rg : Nat → Option Nat) (ta na pa : Nat → Nat) (hC : sc_X G b lo n t dv fc rg dc ta na pa H) (dd : sp_T) (w nw pw : Nat) (pl : Int32) (dw fw : Bool) (hO : sc_O G H b lo ta dd w nw pw pl dw fw) (hbd : sp_bd n dd) (h : sp_fd (fun i => sp_al (t i) dd) n = none) : xC l G yX1_findLike cX1_findLike 4 (some (.object "TermSpread$Term")) 2 0 0 [.ref b, .ref w] H (xPu .null H) := by
  have q := c_X1_findLike l G H b lo n dc t dv fc rg ta na pa hC dd w nw pw pl dw fw hO hbd
  rw [h] at q
  exact q

theorem c_X1_findLike_s (l : Launch) (G : sg_G) (H : Heap) (b lo n dc : Nat) (t : Nat → sp_T) (dv fc : Nat → Bool) (rg : Nat → Option Nat) (ta na pa : Nat → Nat) (hC : sc_X G b lo n t dv fc rg dc ta na pa H) (dd : sp_T) (w nw pw : Nat) (pl : Int32) (dw fw : Bool) (hO : sc_O G H b lo ta dd w nw pw pl dw fw) (hbd : sp_bd n dd) {i : Nat} (h : sp_fd (fun i => sp_al (t i) dd) n = some i) : xC l G yX1_findLike cX1_findLike 4 (some (.object "TermSpread$Term")) 2 0 0 [.ref b, .ref w] H (xPu (.ref (ta i)) H) := by
  have q := c_X1_findLike l G H b lo n dc t dv fc rg ta na pa hC dd w nw pw pl dw fw hO hbd
  rw [h] at q
  exact q

set_option maxHeartbeats 4000000 in
set_option maxRecDepth 100000 in
theorem c_X1_putInto (l : Launch) (G : sg_G) (H : Heap) (b lo n : Nat) (t : Nat → sp_T) (rg : Nat → Option Nat) (ta na pa : Nat → Nat) (dv : Nat → Bool) (hV : sc_V G b lo n t rg ta na pa dv H) (r : Int32) (i : Nat) (hi : i < n) : xC l G yX1_putInto cX1_putInto 3 (some FieldType.int) 1 0 0 [.ref b, .int r, .ref (ta i)] H (fun v H' => v = some (.int (sp_r1 r)) ∧ sc_V G b lo n t (sp_pt rg r i) ta na pa dv H' ∧ sc_F b lo H H' ∧ H'.size = H.size) := by
  refine xC.start (by decide) (Nat.le_of_ble_eq_true rfl) ?_
  intro p e s m args below meth c ls E hnm hs0 hl
  obtain ⟨hx, hb, hml, hown, hts, hr, hlocks, hK, hbs⟩ := id E
  have hl : lv_has ls 3 [(0, .ref b), (1, .int r), (2, .ref (ta i))] := hl
  obtain ⟨fc, hC, hfI⟩ := id hV
  obtain ⟨hw, hb0, hb4, hlo, hn5, hX, hRG, hMD, hZR, hT, hrg, hwf⟩ := id hC
  have hFF : sc_F b lo H H := sc_F.rf
  have hSS : H.size = H.size := rfl
  refine xl (fun _ => lv_iload_n hx hb dX1_putInto_0 rfl (lv_at hl 1 rfl)) ?_
  refine x_callS E hl (c_X1_isRegister l G H r) xm_yX1_isRegister wMX1_109 wS_yX1_isRegister (rest := []) rfl (by decide) (by decide) ⟨by decide, by decide⟩ dX1_putInto_1 (x_pure (r := .int (bI (sp_ir r))) (st1 := []) ?_)
  refine xb (fun _ => lv_if_eq (tgt := 11) hx hb dX1_putInto_4 (by decide)) (fun c_4 => ?_) (fun c_4 => ?_)
  · have c_4 := bI_f c_4
    refine xl (fun _ => lv_iconst (v := (-1)) hx hb dX1_putInto_11 (by decide)) ?_
    exact x_iret hx hb hr hlocks hs0 hbs (by decide) (by decide) dX1_putInto_12 (⟨by unfold sp_r1; rw [if_neg (by rw [c_4]; decide)], by unfold sp_pt; rw [if_neg (by rw [c_4]; decide)]; exact hV, hFF, hSS⟩)
  · have c_4 := bI_t c_4
    obtain ⟨j, hj, rfl⟩ := sp_ir_of c_4
    refine xl (fun _ => lv_aload_n hx hb dX1_putInto_7 rfl (lv_at hl 2 rfl)) ?_
    refine xl (fun _ => lv_ifnonnull (tgt := 13) hx hb dX1_putInto_8 (by decide)) ?_
    refine xl (fun _ => lv_aload_n hx hb dX1_putInto_13 rfl (lv_at hl 0 rfl)) ?_
    refine x_get (ci := 1) hx hb hts hown hK wiX1 hX rfl 0 (by decide) wFX1_11 rfl rfl dX1_putInto_14 ?_
    refine xl (fun _ => lv_iload_n hx hb dX1_putInto_17 rfl (lv_at hl 1 rfl)) ?_
    refine xl (fun _ => lv_aload_n hx hb dX1_putInto_18 rfl (lv_at hl 2 rfl)) ?_
    refine x_aast (o := (some (ta i))) hx hb hK hRG (fun v h => by cases h; exact ⟨_, (hT i hi).2.2.2.1⟩) j (rfl) (by omega) (by decide) (by omega) dX1_putInto_19 (fun H_1 ho_2 hz_3 hq_4 => ?_)
    have ho_2 : ra_ G H_1 (b + 1) 64 (va_up (fun k => (rg k).map ta) j (some (ta i))) := ho_2
    have hC : sc_X G b lo n t dv fc (va_up rg j (some i)) (sp_ct dv n) ta na pa H_1 := sc_rg hC hj hi ho_2 hz_3 hq_4
    have hFF : sc_F b lo H H_1 := hFF.tr ⟨by omega, fun q h1 h2 => hq_4 q (by omega)⟩
    have hSS : H_1.size = H.size := hz_3.trans hSS
    refine xl (fun _ => lv_iconst (v := 1) hx hb dX1_putInto_20 (by decide)) ?_
    exact x_iret hx hb hr hlocks hs0 hbs (by decide) (by decide) dX1_putInto_21 (⟨by unfold sp_r1; rw [if_pos (sp_ir_nI hj)], by unfold sp_pt; rw [if_pos (sp_ir_nI hj), nI_clamp (by omega)]; exact ⟨fc, hC, hfI⟩, hFF, hSS⟩)

set_option maxHeartbeats 4000000 in
set_option maxRecDepth 100000 in
theorem c_X1_putInto_n (l : Launch) (G : sg_G) (H : Heap) (b lo n : Nat) (t : Nat → sp_T) (rg : Nat → Option Nat) (ta na pa : Nat → Nat) (dv : Nat → Bool) (hV : sc_V G b lo n t rg ta na pa dv H) (r : Int32) : xC l G yX1_putInto cX1_putInto 3 (some FieldType.int) 1 0 0 [.ref b, .int r, .null] H (xPu (.int (-1)) H) := by
  refine xC.start (by decide) (Nat.le_of_ble_eq_true rfl) ?_
  intro p e s m args below meth c ls E hnm hs0 hl
  obtain ⟨hx, hb, hml, hown, hts, hr, hlocks, hK, hbs⟩ := id E
  have hl : lv_has ls 3 [(0, .ref b), (1, .int r), (2, .null)] := hl
  obtain ⟨fc, hC, hfI⟩ := id hV
  obtain ⟨hw, hb0, hb4, hlo, hn5, hX, hRG, hMD, hZR, hT, hrg, hwf⟩ := id hC
  have hFF : sc_F b lo H H := sc_F.rf
  have hSS : H.size = H.size := rfl
  refine xl (fun _ => lv_iload_n hx hb dX1_putInto_0 rfl (lv_at hl 1 rfl)) ?_
  refine x_callS E hl (c_X1_isRegister l G H r) xm_yX1_isRegister wMX1_109 wS_yX1_isRegister (rest := []) rfl (by decide) (by decide) ⟨by decide, by decide⟩ dX1_putInto_1 (x_pure (r := .int (bI (sp_ir r))) (st1 := []) ?_)
  refine xb (fun _ => lv_if_eq (tgt := 11) hx hb dX1_putInto_4 (by decide)) (fun c_4 => ?_) (fun c_4 => ?_)
  · have c_4 := bI_f c_4
    refine xl (fun _ => lv_iconst (v := (-1)) hx hb dX1_putInto_11 (by decide)) ?_
    exact x_iret hx hb hr hlocks hs0 hbs (by decide) (by decide) dX1_putInto_12 (⟨rfl, rfl⟩)
  · have c_4 := bI_t c_4
    refine xl (fun _ => lv_aload_nN hx hb dX1_putInto_7 rfl (lv_at hl 2 rfl)) ?_
    refine xl (fun _ => lv_ifnonnullN hx hb dX1_putInto_8) ?_
    refine xl (fun _ => lv_iconst (v := (-1)) hx hb dX1_putInto_11 (by decide)) ?_
    exact x_iret hx hb hr hlocks hs0 hbs (by decide) (by decide) dX1_putInto_12 (⟨rfl, rfl⟩)

set_option maxHeartbeats 4000000 in
set_option maxRecDepth 100000 in
theorem c_X1_keep (l : Launch) (G : sg_G) (H : Heap) (b lo n : Nat) (t : Nat → sp_T) (rg : Nat → Option Nat) (ta na pa : Nat → Nat) (dv : Nat → Bool) (hV : sc_V G b lo n t rg ta na pa dv H) (dd : sp_T) (w nw pw : Nat) (hO : sc_O G H b lo ta dd w nw pw 0 false false) (hne : ∀ i, i < n → ta i ≠ w) (hwd : sp_wf t n dd) (hn1 : n < 512) : xC l G yX1_keep cX1_keep 2 (some (FieldType.object "TermSpread$Term")) 3 0 0 [.ref b, .ref w] H (fun v H' => v = some (.ref w) ∧ sc_V G b lo (n + 1) (va_up t n dd) rg (va_up ta n w) (va_up na n nw) (va_up pa n pw) (va_up dv n (mkB (n + 1) (va_up t n dd) (va_up dv n false) n)) H' ∧ sc_F b lo H H' ∧ H'.size = H.size) := by
  refine xC.start (by decide) (Nat.le_of_ble_eq_true rfl) ?_
  intro p e s m args below meth c ls E hnm hs0 hl
  obtain ⟨hx, hb, hml, hown, hts, hr, hlocks, hK, hbs⟩ := id E
  have hl : lv_has ls 2 [(0, .ref b), (1, .ref w)] := hl
  obtain ⟨fc, hC, hfI⟩ := id hV
  obtain ⟨hw, hb0, hb4, hlo, hn5, hX, hRG, hMD, hZR, hT, hrg, hwf⟩ := id hC
  have hFF : sc_F b lo H H := sc_F.rf
  have hSS : H.size = H.size := rfl
  refine xl (fun _ => lv_aload_n hx hb dX1_keep_0 rfl (lv_at hl 0 rfl)) ?_
  refine x_get (ci := 1) hx hb hts hown hK wiX1 hX rfl 2 (by decide) wFX1_18 rfl rfl dX1_keep_1 ?_
  refine xb (fun _ => lv_if_lt (tgt := 19) hx hb dX1_keep_4 (by decide)) (fun c_4 => ?_) (fun c_4 => ?_)
  · exact absurd c_4 (nI_pos (by omega))
  · refine xl (fun _ => lv_aload_n hx hb dX1_keep_7 rfl (lv_at hl 0 rfl)) ?_
    refine x_get (ci := 1) hx hb hts hown hK wiX1 hX rfl 2 (by decide) wFX1_18 rfl rfl dX1_keep_8 ?_
    refine xl (fun _ => lv_aload_n hx hb dX1_keep_11 rfl (lv_at hl 0 rfl)) ?_
    refine x_get (ci := 1) hx hb hts hown hK wiX1 hX rfl 1 (by decide) wFX1_15 rfl rfl dX1_keep_12 ?_
    refine x_alen (n := 512) hx hb hK 2 rfl hMD rfl dX1_keep_15 ?_
    refine xb (fun _ => lv_icmp_lt (tgt := 21) hx hb dX1_keep_16 (by decide)) (fun c_16 => ?_) (fun c_16 => ?_)
    · refine xl (fun _ => lv_aload_n hx hb dX1_keep_21 rfl (lv_at hl 1 rfl)) ?_
      refine xl (fun _ => lv_aload_n hx hb dX1_keep_22 rfl (lv_at hl 0 rfl)) ?_
      refine x_get (ci := 1) hx hb hts hown hK wiX1 hX rfl 2 (by decide) wFX1_18 rfl rfl dX1_keep_23 ?_
      refine x_put (ci := 0) hx hb hts hown hK wiX0 tyX0 tyX0_ok nmX0 hO.2.2.2.1 rfl 4 (by decide) wFX1_115 rfl rfl (rfl) (rfl) (by simp) (by have := hO.1; omega) dX1_keep_26 (fun H_1 ho_2 hz_3 hq_4 => ?_)
      have ho_2 : ob_ G H_1 w 0 [.int (sp_so dd), .int (sp_la dd), .ref nw, .ref pw, .int (nI n), .int (bI false), .int (bI false)] := ho_2
      obtain ⟨o1, o2, o3, o4, o5, o6⟩ := id hO
      have hO1 := ho_2
      have hX1 := va_at.kept (H1 := H_1) hX (hq_4 _ (by omega))
      have hM1 := va_at.kept (H1 := H_1) hMD (hq_4 _ (by omega))
      have hz1 := hz_3
      have hq1 := hq_4
      refine xl (fun _ => lv_aload_n hx hb dX1_keep_29 rfl (lv_at hl 0 rfl)) ?_
      refine x_get (ci := 1) hx hb hts hown hK wiX1 hX1 rfl 1 (by decide) wFX1_15 rfl rfl dX1_keep_30 ?_
      refine xl (fun _ => lv_aload_n hx hb dX1_keep_33 rfl (lv_at hl 0 rfl)) ?_
      refine x_get (ci := 1) hx hb hts hown hK wiX1 hX1 rfl 2 (by decide) wFX1_18 rfl rfl dX1_keep_34 ?_
      refine xl (fun _ => lv_aload_n hx hb dX1_keep_37 rfl (lv_at hl 1 rfl)) ?_
      refine x_aast (o := (some w)) hx hb hK hM1 (fun v h => by cases h; exact ⟨_, hO1⟩) n (rfl) (by omega) (by decide) (by omega) dX1_keep_38 (fun H_5 ho_6 hz_7 hq_8 => ?_)
      have ho_6 : ra_ G H_5 (b + 2) 512 (va_up (fun k => if k < n then some (ta k) else none) n (some w)) := ho_6
      have hM2 := ho_6
      have hX2 := va_at.kept (H1 := H_5) hX1 (hq_8 _ (by omega))
      have hO2 := va_at.kept (H1 := H_5) hO1 (hq_8 _ (by omega))
      have hz2 := hz_7
      have hq2 := hq_8
      refine xl (fun _ => lv_aload_n hx hb dX1_keep_39 rfl (lv_at hl 0 rfl)) ?_
      refine xl (fun _ => lv_dup hx hb dX1_keep_40 rfl) ?_
      refine x_get (ci := 1) hx hb hts hown hK wiX1 hX2 rfl 2 (by decide) wFX1_18 rfl rfl dX1_keep_41 ?_
      refine xl (fun _ => lv_iconst (v := 1) hx hb dX1_keep_44 (by decide)) ?_
      refine xl (fun _ => lv_iadd hx hb dX1_keep_45) ?_
      rw [show ((nI n) + 1) = (nI (n + 1)) from nI_1 n]
      refine x_put (ci := 1) hx hb hts hown hK wiX1 tyX1 tyX1_ok nmX1 hX2 rfl 2 (by decide) wFX1_18 rfl rfl (rfl) (rfl) (by simp) (hb0) dX1_keep_46 (fun H_9 ho_10 hz_11 hq_12 => ?_)
      have ho_10 : ob_ G H_9 b 1 [.ref (b + 1), .ref (b + 2), .int (nI (n + 1)), .int (nI (sp_ct dv n)), .ref (b + 3)] := ho_10
      have hO3 := va_at.kept (H1 := H_9) hO2 (hq_12 _ (by omega))
      have hM3 := va_at.kept (H1 := H_9) hM2 (hq_12 _ (by omega))
      have hz3 : H_9.size = H.size := by omega
      have hq3 : ∀ q, q ≠ b → q ≠ b + 2 → q ≠ w → H_9[q]? = H[q]? := fun q n1 n2 n3 => ((hq_12 q n1).trans (hq2 q n2)).trans (hq1 q n3)
      have hnw : nw ≠ w := ob_ia hw.1 o4 o5
      have hpw : pw ≠ w := ob_ra hw.2 o4 o6
      have hOn : sc_O G H_9 b lo ta dd w nw pw (nI n) false false := ⟨o1, o2, o3, hO3, o5.kept (hq3 _ (by omega) (by omega) hnw), o6.kept (hq3 _ (by omega) (by omega) hpw)⟩
      have hC3 := sc_grow hC hn1 hOn hne hwd ho_10 hM3 hz3 ⟨_, o4⟩ hq3
      have hfI3 := fcI_grow hfI (sc_bd hC) hwd.1
      have hV3 : sc_V G b lo (n + 1) (va_up t n dd) rg (va_up ta n w) (va_up na n nw) (va_up pa n pw) (va_up dv n false) H_9 := ⟨_, by rw [sp_ct_grow]; exact hC3, hfI3⟩
      have hFF : sc_F b lo H H_9 := ⟨by omega, fun q h1 h2 => hq3 q (by omega) (by omega) (by omega)⟩
      refine xl (fun _ => lv_aload_n hx hb dX1_keep_49 rfl (lv_at hl 1 rfl)) ?_
      have hcan := c_can l G H_9 b lo (n + 1) _ (va_up t n dd) (va_up dv n false) (va_up fc n false) rg (va_up ta n w) (va_up na n nw) (va_up pa n pw) hC3 hfI3 n (by omega)
      rw [va_up_self] at hcan
      refine x_callV E hl hcan xm_yX0_canBeMadeByAttacker wMX1_128 wI_yX0_canBeMadeByAttacker wT_yX0_canBeMadeByAttacker (ci := 0) rfl rfl hO3 (rest := []) rfl (by decide) (by decide) ⟨by decide, by decide⟩ dX1_keep_50 (x_pure (r := .int (bI (mkB (n + 1) (va_up t n dd) (va_up dv n false) n))) (st1 := []) ?_)
      refine xb (fun _ => lv_if_eq (tgt := 61) hx hb dX1_keep_53 (by decide)) (fun c_53 => ?_) (fun c_53 => ?_)
      · have c_53 := bI_f c_53
        refine xl (fun _ => lv_aload_n hx hb dX1_keep_61 rfl (lv_at hl 1 rfl)) ?_
        exact x_aret hx hb hr hlocks hs0 hbs (Or.inr ⟨_, rfl⟩) (by decide) (by decide) dX1_keep_62 (⟨rfl, by rw [c_53]; exact hV3, hFF, hz3⟩)
      · have c_53 := bI_t c_53
        refine xl (fun _ => lv_aload_n hx hb dX1_keep_56 rfl (lv_at hl 0 rfl)) ?_
        refine xl (fun _ => lv_aload_n hx hb dX1_keep_57 rfl (lv_at hl 1 rfl)) ?_
        have hder := c_X1_derive_s l G H_9 b lo (n + 1) (va_up t n dd) rg (va_up ta n w) (va_up na n nw) (va_up pa n pw) (va_up dv n false) hV3 n (by omega)
        rw [va_up_self] at hder
        refine x_callV E hl hder xm_yX1_derive wMX1_88 wI_yX1_derive wT_yX1_derive (ci := 1) rfl rfl ho_10 (rest := []) rfl (by decide) (by decide) ⟨by decide, by decide⟩ dX1_keep_58 (fun v_13 H_14 hp_15 hz_16 hq_17 => ?_)
        obtain ⟨rfl, hV4, hF4, hS4⟩ := hp_15
        refine xg (g2 := F0 m 61 ls []) rfl ?_
        refine xl (fun _ => lv_aload_n hx hb dX1_keep_61 rfl (lv_at hl 1 rfl)) ?_
        exact x_aret hx hb hr hlocks hs0 hbs (Or.inr ⟨_, rfl⟩) (by decide) (by decide) dX1_keep_62 (⟨rfl, by rw [c_53, ← sp_up_grow]; exact hV4, hFF.tr hF4, hS4.trans hz3⟩)
    · exact absurd ((nI_ltI (by omega) (by decide)).mpr hn1) c_16

set_option maxHeartbeats 4000000 in
set_option maxRecDepth 100000 in
theorem c_X1_makeInto (l : Launch) (G : sg_G) (H : Heap) (b lo n : Nat) (t : Nat → sp_T) (rg : Nat → Option Nat) (ta na pa : Nat → Nat) (dv : Nat → Bool) (g : Nat → Prop) (hV : sc_V G b lo n t rg ta na pa dv H) (hD : ∀ i, i < n → (dv i = true ↔ sp_der n t g i)) (hg : ∀ i, g i → i < n) (dd : sp_T) (w nw pw : Nat) (hO : sc_O G H b lo ta dd w nw pw 0 false false) (hne : ∀ i, i < n → ta i ≠ w) (hwd : sp_wf t n dd) (hn1 : n < 512) (r : Int32) : xC l G yX1_makeInto cX1_makeInto 4 (some FieldType.int) 4 0 0 [.ref b, .int r, .ref w] H (fun v H' => v = some (.int (sp_mi (n, t, rg, g) r dd).1) ∧ sc_HS G b lo (sp_mi (n, t, rg, g) r dd).2 H' ∧ sc_F b lo H H' ∧ H'.size = H.size) := by
  refine xC.start (by decide) (Nat.le_of_ble_eq_true rfl) ?_
  intro p e s m args below meth c ls E hnm hs0 hl
  obtain ⟨hx, hb, hml, hown, hts, hr, hlocks, hK, hbs⟩ := id E
  have hl : lv_has ls 4 [(0, .ref b), (1, .int r), (2, .ref w)] := hl
  obtain ⟨fc, hC, hfI⟩ := id hV
  obtain ⟨hw, hb0, hb4, hlo, hn5, hX, hRG, hMD, hZR, hT, hrg, hwf⟩ := id hC
  have hFF : sc_F b lo H H := sc_F.rf
  have hSS : H.size = H.size := rfl
  refine xl (fun _ => lv_iload_n hx hb dX1_makeInto_0 rfl (lv_at hl 1 rfl)) ?_
  refine x_callS E hl (c_X1_isRegister l G H r) xm_yX1_isRegister wMX1_109 wS_yX1_isRegister (rest := []) rfl (by decide) (by decide) ⟨by decide, by decide⟩ dX1_makeInto_1 (x_pure (r := .int (bI (sp_ir r))) (st1 := []) ?_)
  refine xb (fun _ => lv_if_ne (tgt := 9) hx hb dX1_makeInto_4 (by decide)) (fun c_4 => ?_) (fun c_4 => ?_)
  · have c_4 := bI_t c_4
    refine xl (fun _ => lv_aload_n hx hb dX1_makeInto_9 rfl (lv_at hl 0 rfl)) ?_
    refine xl (fun _ => lv_aload_n hx hb dX1_makeInto_10 rfl (lv_at hl 2 rfl)) ?_
    rcases hs_11 : sp_fd (fun i => sp_al (t i) dd) n with _ | i
    · refine x_callV E hl (c_X1_findLike_n l G H b lo n _ t dv fc rg ta na pa hC dd w nw pw 0 false false hO hwd.1 hs_11) xm_yX1_findLike wMX1_118 wI_yX1_findLike wT_yX1_findLike (ci := 1) rfl rfl hX (rest := []) rfl (by decide) (by decide) ⟨by decide, by decide⟩ dX1_makeInto_11 (x_pure (r := .null) (st1 := []) ?_)
      refine xs (fun _ => lv_astore_nN (i := 3) (lv' := [(3, .null), (0, .ref b), (1, .int r), (2, .ref w)]) hx hb dX1_makeInto_14 rfl hl (by decide) (rfl)) (fun ls hl => ?_)
      refine xl (fun _ => lv_aload_n hx hb dX1_makeInto_15 rfl (lv_at hl 1 rfl)) ?_
      refine xl (fun _ => lv_iload_n hx hb dX1_makeInto_16 rfl (lv_at hl 2 rfl)) ?_
      refine xl (fun _ => lv_aload_nN hx hb dX1_makeInto_17 rfl (lv_at hl 0 rfl)) ?_
      refine xl (fun _ => lv_ifnullN (tgt := 25) hx hb dX1_makeInto_18 (by decide)) ?_
      refine xl (fun _ => lv_aload_n hx hb dX1_makeInto_25 rfl (lv_at hl 1 rfl)) ?_
      refine xl (fun _ => lv_aload_n hx hb dX1_makeInto_26 rfl (lv_at hl 3 rfl)) ?_
      refine x_callV E hl (c_X1_keep l G H b lo n t rg ta na pa dv hV dd w nw pw hO hne hwd hn1) xm_yX1_keep wMX1_122 wI_yX1_keep wT_yX1_keep (ci := 1) rfl rfl hX (rest := [.int r, .ref b]) rfl (by simp [cat_rf, cat_int, cat_ref, cat_null]) (by decide) ⟨by decide, by decide⟩ dX1_makeInto_27 (fun v_1 H_2 hp_3 hz_4 hq_5 => ?_)
      obtain ⟨rfl, hV, hFF, hSS⟩ := hp_3
      refine xg (g2 := F0 m 30 ls [.ref w, .int r, .ref b]) rfl ?_
      obtain ⟨fc2, hC2, hfI2⟩ := id hV
      obtain ⟨-, -, -, -, -, hX2, -⟩ := id hC2
      have hput := c_X1_putInto l G H_2 b lo (n + 1) _ rg _ _ _ _ hV r n (by omega)
      rw [va_up_self] at hput
      refine x_callV E hl hput xm_yX1_putInto wMX1_81 wI_yX1_putInto wT_yX1_putInto (ci := 1) rfl rfl hX2 (rest := []) rfl (by decide) (by decide) ⟨by decide, by decide⟩ dX1_makeInto_30 (fun v_6 H_7 hp_8 hz_9 hq_10 => ?_)
      obtain ⟨rfl, hV, hF2, hS2⟩ := hp_8
      refine xg (g2 := F0 m 33 ls [.int (sp_r1 r)]) rfl ?_
      exact x_iret hx hb hr hlocks hs0 hbs (by decide) (by decide) dX1_makeInto_33 (⟨by rw [sp_mi_new c_4 hs_11]; unfold sp_r1; rw [if_pos c_4], by rw [sp_mi_new c_4 hs_11]; exact ⟨_, _, _, _, by unfold sp_pt at hV; rw [if_pos c_4] at hV; exact hV, sp_der_grow (sc_bd hC) hwd.1 hg hD, fun i h => Nat.lt_succ_of_lt (hg i h)⟩, hFF.tr hF2, hS2.trans hSS⟩)
    · have hi := (sp_fd_lt hs_11).1
      refine x_callV E hl (c_X1_findLike_s l G H b lo n _ t dv fc rg ta na pa hC dd w nw pw 0 false false hO hwd.1 hs_11) xm_yX1_findLike wMX1_118 wI_yX1_findLike wT_yX1_findLike (ci := 1) rfl rfl hX (rest := []) rfl (by decide) (by decide) ⟨by decide, by decide⟩ dX1_makeInto_11 (x_pure (r := .ref (ta i)) (st1 := []) ?_)
      refine xs (fun _ => lv_astore_n (i := 3) (lv' := [(3, .ref (ta i)), (0, .ref b), (1, .int r), (2, .ref w)]) hx hb dX1_makeInto_14 rfl hl (by decide) (rfl)) (fun ls hl => ?_)
      refine xl (fun _ => lv_aload_n hx hb dX1_makeInto_15 rfl (lv_at hl 1 rfl)) ?_
      refine xl (fun _ => lv_iload_n hx hb dX1_makeInto_16 rfl (lv_at hl 2 rfl)) ?_
      refine xl (fun _ => lv_aload_n hx hb dX1_makeInto_17 rfl (lv_at hl 0 rfl)) ?_
      refine xl (fun _ => lv_ifnull hx hb dX1_makeInto_18) ?_
      refine xl (fun _ => lv_aload_n hx hb dX1_makeInto_21 rfl (lv_at hl 0 rfl)) ?_
      refine xl (fun _ => lv_goto (tgt := 30) hx hb dX1_makeInto_22 (by decide)) ?_
      refine x_callV E hl (c_X1_putInto l G H b lo n t rg ta na pa dv hV r i hi) xm_yX1_putInto wMX1_81 wI_yX1_putInto wT_yX1_putInto (ci := 1) rfl rfl hX (rest := []) rfl (by decide) (by decide) ⟨by decide, by decide⟩ dX1_makeInto_30 (fun v_11 H_12 hp_13 hz_14 hq_15 => ?_)
      obtain ⟨rfl, hV, hF2, hS2⟩ := hp_13
      refine xg (g2 := F0 m 33 ls [.int (sp_r1 r)]) rfl ?_
      exact x_iret hx hb hr hlocks hs0 hbs (by decide) (by decide) dX1_makeInto_33 (⟨by rw [sp_mi_old c_4 hs_11]; unfold sp_r1; rw [if_pos c_4], by rw [sp_mi_old c_4 hs_11]; exact ⟨ta, na, pa, dv, by unfold sp_pt at hV; rw [if_pos c_4] at hV; exact hV, hD, hg⟩, hFF.tr hF2, hS2.trans hSS⟩)
  · have c_4 := bI_f c_4
    refine xl (fun _ => lv_iconst (v := (-1)) hx hb dX1_makeInto_7 (by decide)) ?_
    exact x_iret hx hb hr hlocks hs0 hbs (by decide) (by decide) dX1_makeInto_8 (⟨by rw [sp_mi_no c_4], by rw [sp_mi_no c_4]; exact ⟨ta, na, pa, dv, hV, hD, hg⟩, hFF, hSS⟩)
end
section
/-! WHAT A CALL DOES, for the class and for the reference alike: its answer, and the terms, registers and what is given behind it -/
abbrev z4 : Nat → Int32 := fun _ => 0
noncomputable def op_secret (a : sp_S) (r : Int32) : Int32 × sp_S := sp_mi a r (1, 0, z4, sp_p4 none none none)
noncomputable def op_face (a : sp_S) (r x : Int32) : Int32 × sp_S := match sp_rs a.2.1 a.2.2.1 x 1 with
  | some i => sp_mi a r (2, 0, z4, sp_p4 (some i) none none)
  | none => (-1, a)
def sp_sd (x y : Nat) : sp_T := (3, 0, z4, sp_p4 (some (if x ≤ y then x else y)) (some (if x ≤ y then y else x)) none)
noncomputable def op_shared (a : sp_S) (r x y : Int32) : Int32 × sp_S := match sp_rs a.2.1 a.2.2.1 x 1 with
  | some i => (match sp_rs a.2.1 a.2.2.1 y 1 with
    | some j => sp_mi a r (sp_sd i j)
    | none => (-1, a))
  | none => (-1, a)
noncomputable def op_agreed (a : sp_S) (r x y : Int32) : Int32 × sp_S := match sp_rs a.2.1 a.2.2.1 x 1 with
  | some i => (match sp_rs a.2.1 a.2.2.1 y 2 with
    | some j => (match sp_pa (a.2.1 j) 0 with
      | some k => sp_mi a r (sp_sd i k)
      | none => (-1, a))
    | none => (-1, a))
  | none => (-1, a)
noncomputable def op_mix (a : sp_S) (r n x y : Int32) : Int32 × sp_S := if ¬ n < 0 ∧ ¬ 9 < n then (match sp_rg a.2.2.1 x with
  | some i => if sp_tn a.2.2.1 y = true then sp_mi a r (4, n, z4, sp_p4 (some i) (sp_rg a.2.2.1 y) none) else (-1, a)
  | none => (-1, a)) else (-1, a)
noncomputable def op_sealed (a : sp_S) (r k h b : Int32) : Int32 × sp_S := match sp_rg a.2.2.1 k with
  | some i => (match sp_rg a.2.2.1 h with
    | some j => (match sp_rg a.2.2.1 b with
      | some q => sp_mi a r (5, 0, z4, sp_p4 (some i) (some j) (some q))
      | none => (-1, a))
    | none => (-1, a))
  | none => (-1, a)
noncomputable def op_signed (a : sp_S) (r x y : Int32) : Int32 × sp_S := match sp_rs a.2.1 a.2.2.1 x 1 with
  | some i => (match sp_rg a.2.2.1 y with
    | some j => sp_mi a r (6, 0, z4, sp_p4 (some i) (some j) none)
    | none => (-1, a))
  | none => (-1, a)
noncomputable def op_row (a : sp_S) (r k : Int32) : Int32 × sp_S := if sp_ik k = true then sp_mi a r (7, k, z4, sp_p4 none none none) else (-1, a)
noncomputable def op_alter (a : sp_S) (r x k v : Int32) : Int32 × sp_S := match sp_rs a.2.1 a.2.2.1 x 7 with
  | some i => if sp_is k = true then sp_mi a r (7, sp_la (a.2.1 i), upd (sp_nu (a.2.1 i)) k.toNatClampNeg v, sp_pa (a.2.1 i)) else if k = 4 ∧ sp_ik v = true then sp_mi a r (7, v, sp_nu (a.2.1 i), sp_pa (a.2.1 i)) else (-1, a)
  | none => (-1, a)
noncomputable def op_swap (a : sp_S) (r x k y : Int32) : Int32 × sp_S := match sp_rs a.2.1 a.2.2.1 x 7 with
  | some i => if sp_is k = true ∧ sp_tn a.2.2.1 y = true then sp_mi a r (7, sp_la (a.2.1 i), sp_nu (a.2.1 i), va_up (sp_pa (a.2.1 i)) k.toNatClampNeg (sp_rg a.2.2.1 y)) else (-1, a)
  | none => (-1, a)
def sp_sl (j : Nat) : Nat := ([0, 1, 2, 3, 0, 1, 2, 1, 0, 1] : List Nat).getD j 0
theorem sp_sl_ok : ∀ j, j < 10 → sg_tab 1 j = nI (sp_sl j) ∧ sp_sl j < 4 := by decide +kernel
def op_part (a : sp_S) (r x w : Int32) : Int32 × sp_S := match sp_rg a.2.2.1 x with
  | some i => if ¬ w < 0 ∧ ¬ 10 ≤ w then (if sp_so (a.2.1 i) = sg_tab 0 w.toNatClampNeg then (match sp_pa (a.2.1 i) (sp_sl w.toNatClampNeg) with
    | some k => (sp_r1 r, (a.1, a.2.1, sp_pt a.2.2.1 r k, a.2.2.2))
    | none => (-1, a)) else (-1, a)) else (-1, a)
  | none => (-1, a)
noncomputable def sp_dB (n : Nat) (t : Nat → sp_T) (g : Nat → Prop) (i : Nat) : Bool := @decide (sp_der n t g i) (Classical.propDecidable _)
theorem sp_dB_t {n : Nat} {t : Nat → sp_T} {g : Nat → Prop} {i : Nat} : sp_dB n t g i = true ↔ sp_der n t g i := by
  unfold sp_dB
  exact @decide_eq_true_iff _ (Classical.propDecidable _)
noncomputable def sp_dc (n : Nat) (t : Nat → sp_T) (g : Nat → Prop) : Nat := sp_ct (sp_dB n t g) n
noncomputable def op_give (a : sp_S) (x : Int32) : Int32 × sp_S := match sp_rg a.2.2.1 x with
  | some i => (nI (sp_dc a.1 a.2.1 (sp_gv a.2.2.2 i)) - nI (sp_dc a.1 a.2.1 a.2.2.2), (a.1, a.2.1, a.2.2.1, sp_gv a.2.2.2 i))
  | none => (-1, a)
noncomputable def op_derived (a : sp_S) (x : Int32) : Int32 := match sp_rg a.2.2.1 x with
  | some i => bI (sp_dB a.1 a.2.1 a.2.2.2 i)
  | none => -1
def op_same (a : sp_S) (x y : Int32) : Int32 := match sp_rg a.2.2.1 x with
  | some i => (match sp_rg a.2.2.1 y with
    | some j => if i = j then 1 else 0
    | none => -1)
  | none => -1
def op_about (a : sp_S) (x w : Int32) : Int32 := match sp_rg a.2.2.1 x with
  | some i => if w = 0 then sp_so (a.2.1 i) else if w = 1 then sp_la (a.2.1 i) else if sp_is (w - 2) = true then sp_nu (a.2.1 i) (w - 2).toNatClampNeg else -1
  | none => -1
noncomputable def op_count (a : sp_S) (w : Int32) : Int32 := if w = 0 then nI a.1 else if w = 1 then nI (sp_dc a.1 a.2.1 a.2.2.2) else -1
theorem sp_dc_eq {n : Nat} {t : Nat → sp_T} {g : Nat → Prop} {dv : Nat → Bool} (h : ∀ i, i < n → (dv i = true ↔ sp_der n t g i)) : sp_ct dv n = sp_dc n t g := sp_ct_eq (fun i hi => bool_eq ((h i hi).trans sp_dB_t.symm))
/-! how what is made is made -/
theorem p4_0 {o1 o2 o3 : Option Nat} : sp_p4 o1 o2 o3 0 = o1 := rfl
theorem p4_1 {o1 o2 o3 : Option Nat} : sp_p4 o1 o2 o3 1 = o2 := rfl
theorem p4_2 {o1 o2 o3 : Option Nat} : sp_p4 o1 o2 o3 2 = o3 := rfl
theorem p4_3 {o1 o2 o3 : Option Nat} : sp_p4 o1 o2 o3 3 = none := rfl
theorem bd_p4 {n : Nat} {so la : Int32} {nu : Nat → Int32} {o1 o2 o3 : Option Nat} (h1 : ∀ j, o1 = some j → j < n) (h2 : ∀ j, o2 = some j → j < n) (h3 : ∀ j, o3 = some j → j < n) : sp_bd n (so, la, nu, sp_p4 o1 o2 o3) := by
  intro k hk j e
  have e : sp_p4 o1 o2 o3 k = some j := e
  rcases (show k = 0 ∨ k = 1 ∨ k = 2 ∨ k = 3 by omega) with rfl | rfl | rfl | rfl
  · exact h1 j e
  · exact h2 j e
  · exact h3 j e
  · cases e
theorem no_b {n : Nat} : ∀ j, (none : Option Nat) = some j → j < n := fun j e => by cases e
theorem so_b {n i : Nat} (h : i < n) : ∀ j, some i = some j → j < n := fun j e => by cases e; exact h
theorem wf_secret {t : Nat → sp_T} {n : Nat} : sp_wf t n (1, 0, z4, sp_p4 none none none) := ⟨bd_p4 no_b no_b no_b, Or.inl ⟨rfl, rfl, fun _ _ => rfl, fun k hk => by rcases (show k = 0 ∨ k = 1 ∨ k = 2 ∨ k = 3 by omega) with rfl | rfl | rfl | rfl <;> rfl⟩⟩
theorem wf_face {t : Nat → sp_T} {n x : Nat} (hx : x < n) (h1 : sp_so (t x) = 1) : sp_wf t n (2, 0, z4, sp_p4 (some x) none none) := ⟨bd_p4 (so_b hx) no_b no_b, Or.inr (Or.inl ⟨rfl, rfl, fun _ _ => rfl, ⟨x, rfl, h1⟩, rfl, rfl, rfl⟩)⟩
theorem wf_sd {t : Nat → sp_T} {n x y : Nat} (hx : x < n) (hy : y < n) (h1 : sp_so (t x) = 1) (h2 : sp_so (t y) = 1) : sp_wf t n (sp_sd x y) := by
  unfold sp_sd
  by_cases h : x ≤ y
  · rw [if_pos h, if_pos h]
    exact ⟨bd_p4 (so_b hx) (so_b hy) no_b, Or.inr (Or.inr (Or.inl ⟨rfl, rfl, fun _ _ => rfl, ⟨x, y, rfl, rfl, h1, h2⟩, rfl, rfl⟩))⟩
  · rw [if_neg h, if_neg h]
    exact ⟨bd_p4 (so_b hy) (so_b hx) no_b, Or.inr (Or.inr (Or.inl ⟨rfl, rfl, fun _ _ => rfl, ⟨y, x, rfl, rfl, h2, h1⟩, rfl, rfl⟩))⟩
theorem wf_mix {t : Nat → sp_T} {n x : Nat} {m : Int32} {o : Option Nat} (hx : x < n) (ho : ∀ j, o = some j → j < n) : sp_wf t n (4, m, z4, sp_p4 (some x) o none) := ⟨bd_p4 (so_b hx) ho no_b, Or.inr (Or.inr (Or.inr (Or.inl ⟨rfl, fun _ _ => rfl, ⟨x, rfl⟩, rfl, rfl⟩)))⟩
theorem wf_sealed {t : Nat → sp_T} {n x y z : Nat} (hx : x < n) (hy : y < n) (hz : z < n) : sp_wf t n (5, 0, z4, sp_p4 (some x) (some y) (some z)) := ⟨bd_p4 (so_b hx) (so_b hy) (so_b hz), Or.inr (Or.inr (Or.inr (Or.inr (Or.inl ⟨rfl, rfl, fun _ _ => rfl, ⟨x, y, z, rfl, rfl, rfl⟩, rfl⟩))))⟩
theorem wf_signed {t : Nat → sp_T} {n x y : Nat} (hx : x < n) (hy : y < n) (h1 : sp_so (t x) = 1) : sp_wf t n (6, 0, z4, sp_p4 (some x) (some y) none) := ⟨bd_p4 (so_b hx) (so_b hy) no_b, Or.inr (Or.inr (Or.inr (Or.inr (Or.inr (Or.inl ⟨rfl, rfl, fun _ _ => rfl, ⟨x, y, rfl, rfl, h1⟩, rfl, rfl⟩)))))⟩
theorem wf_row {t : Nat → sp_T} {n : Nat} {k : Int32} {nu : Nat → Int32} {p : Nat → Option Nat} (hk : ∃ j, j < 7 ∧ k = nI (j + 1)) (hp : ∀ q, q < 4 → ∀ j, p q = some j → j < n) : sp_wf t n (7, k, nu, p) := ⟨hp, Or.inr (Or.inr (Or.inr (Or.inr (Or.inr (Or.inr ⟨rfl, hk⟩)))))⟩
theorem sp_wf7 {t : Nat → sp_T} {n : Nat} {d : sp_T} (h : sp_wf t n d) (h7 : sp_so d = 7) : ∃ j, j < 7 ∧ sp_la d = nI (j + 1) := by
  obtain ⟨-, h⟩ := h
  rcases h with h | h | h | h | h | h | h
  · rw [h7] at h; exact absurd h.1 (by decide)
  · rw [h7] at h; exact absurd h.1 (by decide)
  · rw [h7] at h; exact absurd h.1 (by decide)
  · rw [h7] at h; exact absurd h.1 (by decide)
  · rw [h7] at h; exact absurd h.1 (by decide)
  · rw [h7] at h; exact absurd h.1 (by decide)
  · exact h.2
/-- fresh cells beside the world -/
theorem sc_more {G : sg_G} {b lo n : Nat} {t : Nat → sp_T} {rg : Nat → Option Nat} {ta na pa : Nat → Nat} {dv : Nat → Bool} {H H1 : Heap} (hV : sc_V G b lo n t rg ta na pa dv H) (hz : H.size ≤ H1.size) (hq : ∀ q, q < H.size → H1[q]? = H[q]?) :
    sc_V G b lo n t rg ta na pa dv H1 ∧ sc_F b lo H H1 ∧ ∀ w, H.size ≤ w → ∀ i, i < n → ta i ≠ w := by
  obtain ⟨fc, hC, hfI⟩ := hV
  obtain ⟨hw, hb0, hb4, hlo, hn5, hX, hRG, hMD, hZR, hT, hrg, hwf⟩ := id hC
  refine ⟨⟨fc, hC.kept hz (fun q _ _ h => hq q h), hfI⟩, ⟨hz, fun q _ h => hq q (by omega)⟩, fun w h i hi => ?_⟩
  have : ta i < H.size := va_at.lt (hT i hi).2.2.2.1
  omega
/-- given, and spread: the least set -/
theorem sp_der_give {n : Nat} {t : Nat → sp_T} {g : Nat → Prop} {dv dv' : Nat → Bool} {i : Nat} (hi : i < n) (hD : ∀ j, j < n → (dv j = true ↔ sp_der n t g j)) (ho : sp_ok n t (sp_up dv i) dv') (hc : sp_cd n t dv') : ∀ j, j < n → (dv' j = true ↔ sp_der n t (sp_gv g i) j) := by
  have D := sp_der_cl n t (sp_gv g i)
  intro j hj
  constructor
  · refine ho.2 (sp_der n t (sp_gv g i)) D.2.1 D.2.2 (fun x hx a => ?_) j hj
    rcases sp_up_of a with rfl | a
    · exact sp_der_gv_self hx
    · exact sp_der_gv_mono i x ((hD x hx).mp a)
  · intro a
    refine a (sp_B dv') ⟨fun x hx hgx => ?_, hc.1, hc.2⟩
    rcases hgx with hgx | rfl
    · exact ho.1 x (sp_up_mono dv i x ((hD x hx).mpr ((sp_der_cl n t g).1 x hx hgx)))
    · exact ho.1 x (sp_up_self dv x)
theorem sp_dc_same {n : Nat} {t : Nat → sp_T} {g : Nat → Prop} {i : Nat} (h : sp_der n t g i) : sp_dc n t (sp_gv g i) = sp_dc n t g := sp_ct_eq (fun j _ => bool_eq ((sp_dB_t.trans ⟨sp_der_gv_old h j, sp_der_gv_mono i j⟩).trans sp_dB_t.symm))
end
section
set_option maxHeartbeats 4000000 in
set_option maxRecDepth 100000 in
theorem c_X1_secret (l : Launch) (G : sg_G) (H : Heap) (b lo n : Nat) (t : Nat → sp_T) (rg : Nat → Option Nat) (g : Nat → Prop) (hH : sc_H G b lo n t rg g H) (hn1 : n < 512) (r : Int32) : xC l G yX1_secret cX1_secret 2 (some FieldType.int) 5 2 11 [.ref b, .int r] H (fun ans H' => ans = some (.int (op_secret (n, t, rg, g) r).1) ∧ sc_HS G b lo (op_secret (n, t, rg, g) r).2 H' ∧ sc_F b lo H H') := by
  refine xC.start (by decide) (Nat.le_of_ble_eq_true rfl) ?_
  intro p e s m args below meth c ls E hnm hs0 hl
  obtain ⟨hx, hb, hml, hown, hts, hr, hlocks, hK, hbs⟩ := id E
  have hl : lv_has ls 2 [(0, .ref b), (1, .int r)] := hl
  obtain ⟨ta, na, pa, dv, hV, hD, hg⟩ := id hH
  obtain ⟨fc, hC, hfI⟩ := id hV
  obtain ⟨hw, hb0, hb4, hlo, hn5, hX, hRG, hMD, hZR, hT, hrg, hwf⟩ := id hC
  have hFF : sc_F b lo H H := sc_F.rf
  have hSS : H.size = H.size := rfl
  refine xl (fun _ => lv_aload_n hx hb dX1_secret_0 rfl (lv_at hl 0 rfl)) ?_
  refine xl (fun _ => lv_iload_n hx hb dX1_secret_1 rfl (lv_at hl 1 rfl)) ?_
  refine xl (fun _ => lv_aload_n hx hb dX1_secret_2 rfl (lv_at hl 0 rfl)) ?_
  refine xl (fun _ => lv_iconst (v := 1) hx hb dX1_secret_3 (by decide)) ?_
  refine xl (fun _ => lv_iconst (v := 0) hx hb dX1_secret_4 (by decide)) ?_
  refine xl (fun _ => lv_null hx hb dX1_secret_5) ?_
  refine xl (fun _ => lv_null hx hb dX1_secret_6) ?_
  refine xl (fun _ => lv_null hx hb dX1_secret_7) ?_
  refine x_callV E hl (c_X1_plainTerm l G H b _ _ hX 1 0 (Option.map ta none) (Option.map ta none) (Option.map ta none) (sc_obo hC (o := none) (no_b)) (sc_obo hC (o := none) (no_b)) (sc_obo hC (o := none) (no_b))) xm_yX1_plainTerm wMX1_29 wI_yX1_plainTerm wT_yX1_plainTerm (ci := 1) rfl rfl hX (rest := [.int r, .ref b]) rfl (by simp [cat_rf, cat_int, cat_ref, cat_null]) (by decide) ⟨by decide, by decide⟩ dX1_secret_8 (fun v_1 H_2 hp_3 hz_4 hq_5 => ?_)
  obtain ⟨rfl, ht1, ht2, ht3, ht4⟩ := hp_3
  obtain ⟨hV1, hO1, hne1, hF1⟩ := sc_plain hV none none none 1 0 ht1 ht2 ht3 ht4
  obtain ⟨fc1, hC1, hfI1⟩ := id hV1
  obtain ⟨-, -, -, -, -, hX1, -⟩ := id hC1
  refine xg (g2 := F0 m 11 ls [.ref (H.size + 1), .int r, .ref b]) rfl ?_
  refine x_callV E hl (c_X1_makeInto l G H_2 b lo n t rg ta na pa dv g hV1 hD hg (1, 0, z4, sp_p4 none none none) (H.size + 1) (b + 3) H.size hO1 hne1 (wf_secret) hn1 r) xm_yX1_makeInto wMX1_33 wI_yX1_makeInto wT_yX1_makeInto (ci := 1) rfl rfl hX1 (rest := []) rfl (by decide) (by decide) ⟨by decide, by decide⟩ dX1_secret_11 (fun v_6 H_7 hp_8 hz_9 hq_10 => ?_)
  obtain ⟨rfl, hH2, hF2, hS2⟩ := hp_8
  refine xg (g2 := F0 m 14 ls [.int (sp_mi (n, t, rg, g) r (1, 0, z4, sp_p4 none none none)).1]) rfl ?_
  exact x_iret hx hb hr hlocks hs0 hbs (by decide) (by decide) dX1_secret_14 (⟨rfl, hH2, hF1.tr hF2⟩)

set_option maxHeartbeats 4000000 in
set_option maxRecDepth 100000 in
theorem c_X1_face (l : Launch) (G : sg_G) (H : Heap) (b lo n : Nat) (t : Nat → sp_T) (rg : Nat → Option Nat) (g : Nat → Prop) (hH : sc_H G b lo n t rg g H) (hn1 : n < 512) (r x : Int32) : xC l G yX1_face cX1_face 4 (some FieldType.int) 5 2 11 [.ref b, .int r, .int x] H (fun ans H' => ans = some (.int (op_face (n, t, rg, g) r x).1) ∧ sc_HS G b lo (op_face (n, t, rg, g) r x).2 H' ∧ sc_F b lo H H') := by
  refine xC.start (by decide) (Nat.le_of_ble_eq_true rfl) ?_
  intro p e s m args below meth c ls E hnm hs0 hl
  obtain ⟨hx, hb, hml, hown, hts, hr, hlocks, hK, hbs⟩ := id E
  have hl : lv_has ls 4 [(0, .ref b), (1, .int r), (2, .int x)] := hl
  obtain ⟨ta, na, pa, dv, hV, hD, hg⟩ := id hH
  obtain ⟨fc, hC, hfI⟩ := id hV
  obtain ⟨hw, hb0, hb4, hlo, hn5, hX, hRG, hMD, hZR, hT, hrg, hwf⟩ := id hC
  have hFF : sc_F b lo H H := sc_F.rf
  have hSS : H.size = H.size := rfl
  refine xl (fun _ => lv_aload_n hx hb dX1_face_0 rfl (lv_at hl 0 rfl)) ?_
  refine xl (fun _ => lv_iload_n hx hb dX1_face_1 rfl (lv_at hl 2 rfl)) ?_
  refine xl (fun _ => lv_iconst (v := 1) hx hb dX1_face_2 (by decide)) ?_
  rcases hs_3 : sp_rs t rg x 1 with _ | i
  · refine x_callV E hl (c_X1_termOfSort_n l G H b lo n _ t dv fc rg ta na pa hC x 1 hs_3) xm_yX1_termOfSort wMX1_37 wI_yX1_termOfSort wT_yX1_termOfSort (ci := 1) rfl rfl hX (rest := []) rfl (by decide) (by decide) ⟨by decide, by decide⟩ dX1_face_3 (x_pure (r := .null) (st1 := []) ?_)
    refine xs (fun _ => lv_astore_nN (i := 3) (lv' := [(3, .null), (0, .ref b), (1, .int r), (2, .int x)]) hx hb dX1_face_6 rfl hl (by decide) (rfl)) (fun ls hl => ?_)
    refine xl (fun _ => lv_aload_nN hx hb dX1_face_7 rfl (lv_at hl 0 rfl)) ?_
    refine xl (fun _ => lv_ifnonnullN hx hb dX1_face_8) ?_
    refine xl (fun _ => lv_iconst (v := (-1)) hx hb dX1_face_11 (by decide)) ?_
    exact x_iret hx hb hr hlocks hs0 hbs (by decide) (by decide) dX1_face_12 (⟨by simp only [op_face, hs_3], by simp only [op_face, hs_3]; exact hH, sc_F.rf⟩)
  · have hi := sp_rg_lt hrg (sp_rs_of hs_3).1
    refine x_callV E hl (c_X1_termOfSort_s l G H b lo n _ t dv fc rg ta na pa hC x 1 hs_3) xm_yX1_termOfSort wMX1_37 wI_yX1_termOfSort wT_yX1_termOfSort (ci := 1) rfl rfl hX (rest := []) rfl (by decide) (by decide) ⟨by decide, by decide⟩ dX1_face_3 (x_pure (r := .ref (ta i)) (st1 := []) ?_)
    refine xs (fun _ => lv_astore_n (i := 3) (lv' := [(3, .ref (ta i)), (0, .ref b), (1, .int r), (2, .int x)]) hx hb dX1_face_6 rfl hl (by decide) (rfl)) (fun ls hl => ?_)
    refine xl (fun _ => lv_aload_n hx hb dX1_face_7 rfl (lv_at hl 0 rfl)) ?_
    refine xl (fun _ => lv_ifnonnull (tgt := 13) hx hb dX1_face_8 (by decide)) ?_
    refine xl (fun _ => lv_aload_n hx hb dX1_face_13 rfl (lv_at hl 1 rfl)) ?_
    refine xl (fun _ => lv_iload_n hx hb dX1_face_14 rfl (lv_at hl 2 rfl)) ?_
    refine xl (fun _ => lv_aload_n hx hb dX1_face_15 rfl (lv_at hl 1 rfl)) ?_
    refine xl (fun _ => lv_iconst (v := 2) hx hb dX1_face_16 (by decide)) ?_
    refine xl (fun _ => lv_iconst (v := 0) hx hb dX1_face_17 (by decide)) ?_
    refine xl (fun _ => lv_aload_n hx hb dX1_face_18 rfl (lv_at hl 0 rfl)) ?_
    refine xl (fun _ => lv_null hx hb dX1_face_19) ?_
    refine xl (fun _ => lv_null hx hb dX1_face_20) ?_
    refine x_callV E hl (c_X1_plainTerm l G H b _ _ hX 2 0 (Option.map ta (some i)) (Option.map ta none) (Option.map ta none) (sc_obo hC (o := (some i)) (so_b hi)) (sc_obo hC (o := none) (no_b)) (sc_obo hC (o := none) (no_b))) xm_yX1_plainTerm wMX1_29 wI_yX1_plainTerm wT_yX1_plainTerm (ci := 1) rfl rfl hX (rest := [.int r, .ref b]) rfl (by simp [cat_rf, cat_int, cat_ref, cat_null]) (by decide) ⟨by decide, by decide⟩ dX1_face_21 (fun v_1 H_2 hp_3 hz_4 hq_5 => ?_)
    obtain ⟨rfl, ht1, ht2, ht3, ht4⟩ := hp_3
    obtain ⟨hV1, hO1, hne1, hF1⟩ := sc_plain hV (some i) none none 2 0 ht1 ht2 ht3 ht4
    obtain ⟨fc1, hC1, hfI1⟩ := id hV1
    obtain ⟨-, -, -, -, -, hX1, -⟩ := id hC1
    refine xg (g2 := F0 m 24 ls [.ref (H.size + 1), .int r, .ref b]) rfl ?_
    refine x_callV E hl (c_X1_makeInto l G H_2 b lo n t rg ta na pa dv g hV1 hD hg (2, 0, z4, sp_p4 (some i) none none) (H.size + 1) (b + 3) H.size hO1 hne1 (wf_face hi (sp_rs_of hs_3).2) hn1 r) xm_yX1_makeInto wMX1_33 wI_yX1_makeInto wT_yX1_makeInto (ci := 1) rfl rfl hX1 (rest := []) rfl (by decide) (by decide) ⟨by decide, by decide⟩ dX1_face_24 (fun v_6 H_7 hp_8 hz_9 hq_10 => ?_)
    obtain ⟨rfl, hH2, hF2, hS2⟩ := hp_8
    refine xg (g2 := F0 m 27 ls [.int (sp_mi (n, t, rg, g) r (2, 0, z4, sp_p4 (some i) none none)).1]) rfl ?_
    exact x_iret hx hb hr hlocks hs0 hbs (by decide) (by decide) dX1_face_27 (⟨by simp only [op_face, hs_3], by simp only [op_face, hs_3]; exact hH2, hF1.tr hF2⟩)

set_option maxHeartbeats 4000000 in
set_option maxRecDepth 100000 in
theorem c_X1_makeSharedInto (l : Launch) (G : sg_G) (H : Heap) (b lo n : Nat) (t : Nat → sp_T) (rg : Nat → Option Nat) (ta na pa : Nat → Nat) (dv : Nat → Bool) (g : Nat → Prop) (hV : sc_V G b lo n t rg ta na pa dv H) (hD : ∀ i, i < n → (dv i = true ↔ sp_der n t g i)) (hg : ∀ i, g i → i < n) (hn1 : n < 512) (r : Int32) (x y : Nat) (hxx : x < n) (hy : y < n) (hx1 : sp_so (t x) = 1) (hy1 : sp_so (t y) = 1) : xC l G yX1_makeSharedInto cX1_makeSharedInto 5 (some FieldType.int) 5 2 11 [.ref b, .int r, .ref (ta x), .ref (ta y)] H (fun ans H' => ans = some (.int (sp_mi (n, t, rg, g) r (sp_sd x y)).1) ∧ sc_HS G b lo (sp_mi (n, t, rg, g) r (sp_sd x y)).2 H' ∧ sc_F b lo H H') := by
  refine xC.start (by decide) (Nat.le_of_ble_eq_true rfl) ?_
  intro p e s m args below meth c ls E hnm hs0 hl
  obtain ⟨hx, hb, hml, hown, hts, hr, hlocks, hK, hbs⟩ := id E
  have hl : lv_has ls 5 [(0, .ref b), (1, .int r), (2, .ref (ta x)), (3, .ref (ta y))] := hl
  obtain ⟨fc, hC, hfI⟩ := id hV
  obtain ⟨hw, hb0, hb4, hlo, hn5, hX, hRG, hMD, hZR, hT, hrg, hwf⟩ := id hC
  have hFF : sc_F b lo H H := sc_F.rf
  have hSS : H.size = H.size := rfl
  refine xl (fun _ => lv_aload_n hx hb dX1_makeSharedInto_0 rfl (lv_at hl 2 rfl)) ?_
  refine xl (fun _ => lv_ifnull hx hb dX1_makeSharedInto_1) ?_
  refine xl (fun _ => lv_aload_n hx hb dX1_makeSharedInto_4 rfl (lv_at hl 3 rfl)) ?_
  refine xl (fun _ => lv_ifnonnull (tgt := 10) hx hb dX1_makeSharedInto_5 (by decide)) ?_
  refine xl (fun _ => lv_aload_n hx hb dX1_makeSharedInto_10 rfl (lv_at hl 2 rfl)) ?_
  refine x_get (ci := 0) hx hb hts hown hK wiX0 ((hT x hxx).2.2.2.1) rfl 4 (by decide) wFX1_115 rfl rfl dX1_makeSharedInto_11 ?_
  refine xl (fun _ => lv_aload_n hx hb dX1_makeSharedInto_14 rfl (lv_at hl 3 rfl)) ?_
  refine x_get (ci := 0) hx hb hts hown hK wiX0 ((hT y hy).2.2.2.1) rfl 4 (by decide) wFX1_115 rfl rfl dX1_makeSharedInto_15 ?_
  refine xb (fun _ => lv_icmp_gt (tgt := 25) hx hb dX1_makeSharedInto_18 (by decide)) (fun c_18 => ?_) (fun c_18 => ?_)
  · refine xl (fun _ => lv_iconst (v := 0) hx hb dX1_makeSharedInto_25 (by decide)) ?_
    refine xs (fun _ => lv_istore (i := 4) (lv' := [(4, .int 0), (0, .ref b), (1, .int r), (2, .ref (ta x)), (3, .ref (ta y))]) hx hb dX1_makeSharedInto_26 hl (by decide) (rfl)) (fun ls hl => ?_)
    refine xl (fun _ => lv_aload_n hx hb dX1_makeSharedInto_28 rfl (lv_at hl 1 rfl)) ?_
    refine xl (fun _ => lv_iload_n hx hb dX1_makeSharedInto_29 rfl (lv_at hl 2 rfl)) ?_
    refine xl (fun _ => lv_aload_n hx hb dX1_makeSharedInto_30 rfl (lv_at hl 1 rfl)) ?_
    refine xl (fun _ => lv_iconst (v := 3) hx hb dX1_makeSharedInto_31 (by decide)) ?_
    refine xl (fun _ => lv_iconst (v := 0) hx hb dX1_makeSharedInto_32 (by decide)) ?_
    refine xl (fun _ => lv_iload hx hb dX1_makeSharedInto_33 (lv_at hl 0 rfl)) ?_
    refine xb (fun _ => lv_if_eq (tgt := 42) hx hb dX1_makeSharedInto_35 (by decide)) (fun c_35 => ?_) (fun c_35 => ?_)
    · refine xl (fun _ => lv_aload_n hx hb dX1_makeSharedInto_42 rfl (lv_at hl 4 rfl)) ?_
      refine xl (fun _ => lv_iload hx hb dX1_makeSharedInto_43 (lv_at hl 0 rfl)) ?_
      refine xb (fun _ => lv_if_eq (tgt := 52) hx hb dX1_makeSharedInto_45 (by decide)) (fun c_45 => ?_) (fun c_45 => ?_)
      · refine xl (fun _ => lv_aload_n hx hb dX1_makeSharedInto_52 rfl (lv_at hl 3 rfl)) ?_
        refine xl (fun _ => lv_null hx hb dX1_makeSharedInto_53) ?_
        refine x_callV E hl (c_X1_plainTerm l G H b _ _ hX 3 0 (Option.map ta (some y)) (Option.map ta (some x)) (Option.map ta none) (sc_obo hC (o := (some y)) (so_b hy)) (sc_obo hC (o := (some x)) (so_b hxx)) (sc_obo hC (o := none) (no_b))) xm_yX1_plainTerm wMX1_29 wI_yX1_plainTerm wT_yX1_plainTerm (ci := 1) rfl rfl hX (rest := [.int r, .ref b]) rfl (by simp [cat_rf, cat_int, cat_ref, cat_null]) (by decide) ⟨by decide, by decide⟩ dX1_makeSharedInto_54 (fun v_1 H_2 hp_3 hz_4 hq_5 => ?_)
        obtain ⟨rfl, ht1, ht2, ht3, ht4⟩ := hp_3
        obtain ⟨hV1, hO1, hne1, hF1⟩ := sc_plain hV (some y) (some x) none 3 0 ht1 ht2 ht3 ht4
        obtain ⟨fc1, hC1, hfI1⟩ := id hV1
        obtain ⟨-, -, -, -, -, hX1, -⟩ := id hC1
        refine xg (g2 := F0 m 57 ls [.ref (H.size + 1), .int r, .ref b]) rfl ?_
        have hxy : y < x := (nI_ltI (by omega) (by omega)).mp c_18
        have hsd : sp_sd x y = (3, 0, z4, sp_p4 (some y) (some x) none) := by unfold sp_sd; rw [if_neg (by omega), if_neg (by omega)]
        rw [← hsd] at hO1
        refine x_callV E hl (c_X1_makeInto l G H_2 b lo n t rg ta na pa dv g hV1 hD hg (sp_sd x y) (H.size + 1) (b + 3) H.size hO1 hne1 (wf_sd hxx hy hx1 hy1) hn1 r) xm_yX1_makeInto wMX1_33 wI_yX1_makeInto wT_yX1_makeInto (ci := 1) rfl rfl hX1 (rest := []) rfl (by decide) (by decide) ⟨by decide, by decide⟩ dX1_makeSharedInto_57 (fun v_6 H_7 hp_8 hz_9 hq_10 => ?_)
        obtain ⟨rfl, hH2, hF2, hS2⟩ := hp_8
        refine xg (g2 := F0 m 60 ls [.int (sp_mi (n, t, rg, g) r (sp_sd x y)).1]) rfl ?_
        exact x_iret hx hb hr hlocks hs0 hbs (by decide) (by decide) dX1_makeSharedInto_60 (⟨rfl, hH2, hF1.tr hF2⟩)
      · exact absurd rfl c_45
    · exact absurd rfl c_35
  · refine xl (fun _ => lv_iconst (v := 1) hx hb dX1_makeSharedInto_21 (by decide)) ?_
    refine xl (fun _ => lv_goto (tgt := 26) hx hb dX1_makeSharedInto_22 (by decide)) ?_
    refine xs (fun _ => lv_istore (i := 4) (lv' := [(4, .int 1), (0, .ref b), (1, .int r), (2, .ref (ta x)), (3, .ref (ta y))]) hx hb dX1_makeSharedInto_26 hl (by decide) (rfl)) (fun ls hl => ?_)
    refine xl (fun _ => lv_aload_n hx hb dX1_makeSharedInto_28 rfl (lv_at hl 1 rfl)) ?_
    refine xl (fun _ => lv_iload_n hx hb dX1_makeSharedInto_29 rfl (lv_at hl 2 rfl)) ?_
    refine xl (fun _ => lv_aload_n hx hb dX1_makeSharedInto_30 rfl (lv_at hl 1 rfl)) ?_
    refine xl (fun _ => lv_iconst (v := 3) hx hb dX1_makeSharedInto_31 (by decide)) ?_
    refine xl (fun _ => lv_iconst (v := 0) hx hb dX1_makeSharedInto_32 (by decide)) ?_
    refine xl (fun _ => lv_iload hx hb dX1_makeSharedInto_33 (lv_at hl 0 rfl)) ?_
    refine xb (fun _ => lv_if_eq (tgt := 42) hx hb dX1_makeSharedInto_35 (by decide)) (fun c_35 => ?_) (fun c_35 => ?_)
    · exact absurd c_35 (by decide)
    · refine xl (fun _ => lv_aload_n hx hb dX1_makeSharedInto_38 rfl (lv_at hl 3 rfl)) ?_
      refine xl (fun _ => lv_goto (tgt := 43) hx hb dX1_makeSharedInto_39 (by decide)) ?_
      refine xl (fun _ => lv_iload hx hb dX1_makeSharedInto_43 (lv_at hl 0 rfl)) ?_
      refine xb (fun _ => lv_if_eq (tgt := 52) hx hb dX1_makeSharedInto_45 (by decide)) (fun c_45 => ?_) (fun c_45 => ?_)
      · exact absurd c_45 (by decide)
      · refine xl (fun _ => lv_aload_n hx hb dX1_makeSharedInto_48 rfl (lv_at hl 4 rfl)) ?_
        refine xl (fun _ => lv_goto (tgt := 53) hx hb dX1_makeSharedInto_49 (by decide)) ?_
        refine xl (fun _ => lv_null hx hb dX1_makeSharedInto_53) ?_
        refine x_callV E hl (c_X1_plainTerm l G H b _ _ hX 3 0 (Option.map ta (some x)) (Option.map ta (some y)) (Option.map ta none) (sc_obo hC (o := (some x)) (so_b hxx)) (sc_obo hC (o := (some y)) (so_b hy)) (sc_obo hC (o := none) (no_b))) xm_yX1_plainTerm wMX1_29 wI_yX1_plainTerm wT_yX1_plainTerm (ci := 1) rfl rfl hX (rest := [.int r, .ref b]) rfl (by simp [cat_rf, cat_int, cat_ref, cat_null]) (by decide) ⟨by decide, by decide⟩ dX1_makeSharedInto_54 (fun v_11 H_12 hp_13 hz_14 hq_15 => ?_)
        obtain ⟨rfl, ht1, ht2, ht3, ht4⟩ := hp_13
        obtain ⟨hV1, hO1, hne1, hF1⟩ := sc_plain hV (some x) (some y) none 3 0 ht1 ht2 ht3 ht4
        obtain ⟨fc1, hC1, hfI1⟩ := id hV1
        obtain ⟨-, -, -, -, -, hX1, -⟩ := id hC1
        refine xg (g2 := F0 m 57 ls [.ref (H.size + 1), .int r, .ref b]) rfl ?_
        have hxy : x ≤ y := Nat.not_lt.mp fun z => c_18 ((nI_ltI (by omega) (by omega)).mpr z)
        have hsd : sp_sd x y = (3, 0, z4, sp_p4 (some x) (some y) none) := by unfold sp_sd; rw [if_pos hxy, if_pos hxy]
        rw [← hsd] at hO1
        refine x_callV E hl (c_X1_makeInto l G H_12 b lo n t rg ta na pa dv g hV1 hD hg (sp_sd x y) (H.size + 1) (b + 3) H.size hO1 hne1 (wf_sd hxx hy hx1 hy1) hn1 r) xm_yX1_makeInto wMX1_33 wI_yX1_makeInto wT_yX1_makeInto (ci := 1) rfl rfl hX1 (rest := []) rfl (by decide) (by decide) ⟨by decide, by decide⟩ dX1_makeSharedInto_57 (fun v_16 H_17 hp_18 hz_19 hq_20 => ?_)
        obtain ⟨rfl, hH2, hF2, hS2⟩ := hp_18
        refine xg (g2 := F0 m 60 ls [.int (sp_mi (n, t, rg, g) r (sp_sd x y)).1]) rfl ?_
        exact x_iret hx hb hr hlocks hs0 hbs (by decide) (by decide) dX1_makeSharedInto_60 (⟨rfl, hH2, hF1.tr hF2⟩)

set_option maxHeartbeats 4000000 in
set_option maxRecDepth 100000 in
theorem c_X1_makeSharedInto_n1 (l : Launch) (G : sg_G) (H : Heap) (b lo n : Nat) (t : Nat → sp_T) (rg : Nat → Option Nat) (ta na pa : Nat → Nat) (dv : Nat → Bool) (hV : sc_V G b lo n t rg ta na pa dv H) (r : Int32) (q : Option Nat) : xC l G yX1_makeSharedInto cX1_makeSharedInto 5 (some FieldType.int) 5 2 11 [.ref b, .int r, .null, va_rf q] H (xPu (.int (-1)) H) := by
  refine xC.start (by decide) (by simp [lg_sl, cat_rf, cat_int, cat_ref, cat_null]) ?_
  intro p e s m args below meth c ls E hnm hs0 hl
  obtain ⟨hx, hb, hml, hown, hts, hr, hlocks, hK, hbs⟩ := id E
  have hl : lv_has ls 5 [(0, .ref b), (1, .int r), (2, .null), (3, va_rf q)] := by simpa [lv_args, cat_rf, cat_int, cat_ref, cat_null] using hl
  obtain ⟨fc, hC, hfI⟩ := id hV
  obtain ⟨hw, hb0, hb4, hlo, hn5, hX, hRG, hMD, hZR, hT, hrg, hwf⟩ := id hC
  have hFF : sc_F b lo H H := sc_F.rf
  have hSS : H.size = H.size := rfl
  refine xl (fun _ => lv_aload_nN hx hb dX1_makeSharedInto_0 rfl (lv_at hl 2 rfl)) ?_
  refine xl (fun _ => lv_ifnullN (tgt := 8) hx hb dX1_makeSharedInto_1 (by decide)) ?_
  refine xl (fun _ => lv_iconst (v := (-1)) hx hb dX1_makeSharedInto_8 (by decide)) ?_
  exact x_iret hx hb hr hlocks hs0 hbs (by decide) (by decide) dX1_makeSharedInto_9 (⟨rfl, rfl⟩)

set_option maxHeartbeats 4000000 in
set_option maxRecDepth 100000 in
theorem c_X1_makeSharedInto_n2 (l : Launch) (G : sg_G) (H : Heap) (b lo n : Nat) (t : Nat → sp_T) (rg : Nat → Option Nat) (ta na pa : Nat → Nat) (dv : Nat → Bool) (hV : sc_V G b lo n t rg ta na pa dv H) (r : Int32) (x : Nat) : xC l G yX1_makeSharedInto cX1_makeSharedInto 5 (some FieldType.int) 5 2 11 [.ref b, .int r, .ref (ta x), .null] H (xPu (.int (-1)) H) := by
  refine xC.start (by decide) (Nat.le_of_ble_eq_true rfl) ?_
  intro p e s m args below meth c ls E hnm hs0 hl
  obtain ⟨hx, hb, hml, hown, hts, hr, hlocks, hK, hbs⟩ := id E
  have hl : lv_has ls 5 [(0, .ref b), (1, .int r), (2, .ref (ta x)), (3, .null)] := hl
  obtain ⟨fc, hC, hfI⟩ := id hV
  obtain ⟨hw, hb0, hb4, hlo, hn5, hX, hRG, hMD, hZR, hT, hrg, hwf⟩ := id hC
  have hFF : sc_F b lo H H := sc_F.rf
  have hSS : H.size = H.size := rfl
  refine xl (fun _ => lv_aload_n hx hb dX1_makeSharedInto_0 rfl (lv_at hl 2 rfl)) ?_
  refine xl (fun _ => lv_ifnull hx hb dX1_makeSharedInto_1) ?_
  refine xl (fun _ => lv_aload_nN hx hb dX1_makeSharedInto_4 rfl (lv_at hl 3 rfl)) ?_
  refine xl (fun _ => lv_ifnonnullN hx hb dX1_makeSharedInto_5) ?_
  refine xl (fun _ => lv_iconst (v := (-1)) hx hb dX1_makeSharedInto_8 (by decide)) ?_
  exact x_iret hx hb hr hlocks hs0 hbs (by decide) (by decide) dX1_makeSharedInto_9 (⟨rfl, rfl⟩)

set_option maxHeartbeats 4000000 in
set_option maxRecDepth 100000 in
theorem c_X1_shared (l : Launch) (G : sg_G) (H : Heap) (b lo n : Nat) (t : Nat → sp_T) (rg : Nat → Option Nat) (g : Nat → Prop) (hH : sc_H G b lo n t rg g H) (hn1 : n < 512) (r x y : Int32) : xC l G yX1_shared cX1_shared 4 (some FieldType.int) 6 2 11 [.ref b, .int r, .int x, .int y] H (fun ans H' => ans = some (.int (op_shared (n, t, rg, g) r x y).1) ∧ sc_HS G b lo (op_shared (n, t, rg, g) r x y).2 H' ∧ sc_F b lo H H') := by
  refine xC.start (by decide) (Nat.le_of_ble_eq_true rfl) ?_
  intro p e s m args below meth c ls E hnm hs0 hl
  obtain ⟨hx, hb, hml, hown, hts, hr, hlocks, hK, hbs⟩ := id E
  have hl : lv_has ls 4 [(0, .ref b), (1, .int r), (2, .int x), (3, .int y)] := hl
  obtain ⟨ta, na, pa, dv, hV, hD, hg⟩ := id hH
  obtain ⟨fc, hC, hfI⟩ := id hV
  obtain ⟨hw, hb0, hb4, hlo, hn5, hX, hRG, hMD, hZR, hT, hrg, hwf⟩ := id hC
  have hFF : sc_F b lo H H := sc_F.rf
  have hSS : H.size = H.size := rfl
  refine xl (fun _ => lv_aload_n hx hb dX1_shared_0 rfl (lv_at hl 0 rfl)) ?_
  refine xl (fun _ => lv_iload_n hx hb dX1_shared_1 rfl (lv_at hl 1 rfl)) ?_
  refine xl (fun _ => lv_aload_n hx hb dX1_shared_2 rfl (lv_at hl 0 rfl)) ?_
  refine xl (fun _ => lv_iload_n hx hb dX1_shared_3 rfl (lv_at hl 2 rfl)) ?_
  refine xl (fun _ => lv_iconst (v := 1) hx hb dX1_shared_4 (by decide)) ?_
  rcases hs_5 : sp_rs t rg x 1 with _ | i
  · refine x_callV E hl (c_X1_termOfSort_n l G H b lo n _ t dv fc rg ta na pa hC x 1 hs_5) xm_yX1_termOfSort wMX1_37 wI_yX1_termOfSort wT_yX1_termOfSort (ci := 1) rfl rfl hX (rest := [.int r, .ref b]) rfl (by simp [cat_rf, cat_int, cat_ref, cat_null]) (by decide) ⟨by decide, by decide⟩ dX1_shared_5 (x_pure (r := .null) (st1 := []) ?_)
    refine xl (fun _ => lv_aload_n hx hb dX1_shared_8 rfl (lv_at hl 0 rfl)) ?_
    refine xl (fun _ => lv_iload_n hx hb dX1_shared_9 rfl (lv_at hl 3 rfl)) ?_
    refine xl (fun _ => lv_iconst (v := 1) hx hb dX1_shared_10 (by decide)) ?_
    rcases hs_11 : sp_rs t rg y 1 with _ | j
    · refine x_callV E hl (c_X1_termOfSort_n l G H b lo n _ t dv fc rg ta na pa hC y 1 hs_11) xm_yX1_termOfSort wMX1_37 wI_yX1_termOfSort wT_yX1_termOfSort (ci := 1) rfl rfl hX (rest := [.null, .int r, .ref b]) rfl (by simp [cat_rf, cat_int, cat_ref, cat_null]) (by decide) ⟨by decide, by decide⟩ dX1_shared_11 (x_pure (r := .null) (st1 := []) ?_)
      refine x_callV E hl (c_X1_makeSharedInto_n1 l G H b lo n t rg ta na pa dv hV r none) xm_yX1_makeSharedInto wMX1_41 wI_yX1_makeSharedInto wT_yX1_makeSharedInto (ci := 1) rfl rfl hX (rest := []) rfl (by decide) (by decide) ⟨by decide, by decide⟩ dX1_shared_14 (fun v_1 H_2 hp_3 hz_4 hq_5 => ?_)
      obtain ⟨rfl, rfl⟩ := hp_3
      refine xg (g2 := F0 m 17 ls [.int (-1)]) rfl ?_
      exact x_iret hx hb hr hlocks hs0 hbs (by decide) (by decide) dX1_shared_17 (⟨by simp only [op_shared, hs_5, hs_11], by simp only [op_shared, hs_5, hs_11]; exact hH, sc_F.rf⟩)
    · have hj := sp_rg_lt hrg (sp_rs_of hs_11).1
      refine x_callV E hl (c_X1_termOfSort_s l G H b lo n _ t dv fc rg ta na pa hC y 1 hs_11) xm_yX1_termOfSort wMX1_37 wI_yX1_termOfSort wT_yX1_termOfSort (ci := 1) rfl rfl hX (rest := [.null, .int r, .ref b]) rfl (by simp [cat_rf, cat_int, cat_ref, cat_null]) (by decide) ⟨by decide, by decide⟩ dX1_shared_11 (x_pure (r := .ref (ta j)) (st1 := []) ?_)
      refine x_callV E hl (c_X1_makeSharedInto_n1 l G H b lo n t rg ta na pa dv hV r (some (ta j))) xm_yX1_makeSharedInto wMX1_41 wI_yX1_makeSharedInto wT_yX1_makeSharedInto (ci := 1) rfl rfl hX (rest := []) rfl (by decide) (by decide) ⟨by decide, by decide⟩ dX1_shared_14 (fun v_6 H_7 hp_8 hz_9 hq_10 => ?_)
      obtain ⟨rfl, rfl⟩ := hp_8
      refine xg (g2 := F0 m 17 ls [.int (-1)]) rfl ?_
      exact x_iret hx hb hr hlocks hs0 hbs (by decide) (by decide) dX1_shared_17 (⟨by simp only [op_shared, hs_5, hs_11], by simp only [op_shared, hs_5, hs_11]; exact hH, sc_F.rf⟩)
  · have hi := sp_rg_lt hrg (sp_rs_of hs_5).1
    refine x_callV E hl (c_X1_termOfSort_s l G H b lo n _ t dv fc rg ta na pa hC x 1 hs_5) xm_yX1_termOfSort wMX1_37 wI_yX1_termOfSort wT_yX1_termOfSort (ci := 1) rfl rfl hX (rest := [.int r, .ref b]) rfl (by simp [cat_rf, cat_int, cat_ref, cat_null]) (by decide) ⟨by decide, by decide⟩ dX1_shared_5 (x_pure (r := .ref (ta i)) (st1 := []) ?_)
    refine xl (fun _ => lv_aload_n hx hb dX1_shared_8 rfl (lv_at hl 0 rfl)) ?_
    refine xl (fun _ => lv_iload_n hx hb dX1_shared_9 rfl (lv_at hl 3 rfl)) ?_
    refine xl (fun _ => lv_iconst (v := 1) hx hb dX1_shared_10 (by decide)) ?_
    rcases hs_11 : sp_rs t rg y 1 with _ | j
    · refine x_callV E hl (c_X1_termOfSort_n l G H b lo n _ t dv fc rg ta na pa hC y 1 hs_11) xm_yX1_termOfSort wMX1_37 wI_yX1_termOfSort wT_yX1_termOfSort (ci := 1) rfl rfl hX (rest := [.ref (ta i), .int r, .ref b]) rfl (by simp [cat_rf, cat_int, cat_ref, cat_null]) (by decide) ⟨by decide, by decide⟩ dX1_shared_11 (x_pure (r := .null) (st1 := []) ?_)
      refine x_callV E hl (c_X1_makeSharedInto_n2 l G H b lo n t rg ta na pa dv hV r i) xm_yX1_makeSharedInto wMX1_41 wI_yX1_makeSharedInto wT_yX1_makeSharedInto (ci := 1) rfl rfl hX (rest := []) rfl (by decide) (by decide) ⟨by decide, by decide⟩ dX1_shared_14 (fun v_11 H_12 hp_13 hz_14 hq_15 => ?_)
      obtain ⟨rfl, rfl⟩ := hp_13
      refine xg (g2 := F0 m 17 ls [.int (-1)]) rfl ?_
      exact x_iret hx hb hr hlocks hs0 hbs (by decide) (by decide) dX1_shared_17 (⟨by simp only [op_shared, hs_5, hs_11], by simp only [op_shared, hs_5, hs_11]; exact hH, sc_F.rf⟩)
    · have hj := sp_rg_lt hrg (sp_rs_of hs_11).1
      refine x_callV E hl (c_X1_termOfSort_s l G H b lo n _ t dv fc rg ta na pa hC y 1 hs_11) xm_yX1_termOfSort wMX1_37 wI_yX1_termOfSort wT_yX1_termOfSort (ci := 1) rfl rfl hX (rest := [.ref (ta i), .int r, .ref b]) rfl (by simp [cat_rf, cat_int, cat_ref, cat_null]) (by decide) ⟨by decide, by decide⟩ dX1_shared_11 (x_pure (r := .ref (ta j)) (st1 := []) ?_)
      refine x_callV E hl (c_X1_makeSharedInto l G H b lo n t rg ta na pa dv g hV hD hg hn1 r i j hi hj ((sp_rs_of hs_5).2) ((sp_rs_of hs_11).2)) xm_yX1_makeSharedInto wMX1_41 wI_yX1_makeSharedInto wT_yX1_makeSharedInto (ci := 1) rfl rfl hX (rest := []) rfl (by decide) (by decide) ⟨by decide, by decide⟩ dX1_shared_14 (fun v_16 H_17 hp_18 hz_19 hq_20 => ?_)
      obtain ⟨rfl, hH2, hF2⟩ := hp_18
      refine xg (g2 := F0 m 17 ls [.int (sp_mi (n, t, rg, g) r (sp_sd i j)).1]) rfl ?_
      exact x_iret hx hb hr hlocks hs0 hbs (by decide) (by decide) dX1_shared_17 (⟨by simp only [op_shared, hs_5, hs_11], by simp only [op_shared, hs_5, hs_11]; exact hH2, hF2⟩)

set_option maxHeartbeats 4000000 in
set_option maxRecDepth 100000 in
theorem c_X1_agreed (l : Launch) (G : sg_G) (H : Heap) (b lo n : Nat) (t : Nat → sp_T) (rg : Nat → Option Nat) (g : Nat → Prop) (hH : sc_H G b lo n t rg g H) (hn1 : n < 512) (r x y : Int32) : xC l G yX1_agreed cX1_agreed 5 (some FieldType.int) 6 2 11 [.ref b, .int r, .int x, .int y] H (fun ans H' => ans = some (.int (op_agreed (n, t, rg, g) r x y).1) ∧ sc_HS G b lo (op_agreed (n, t, rg, g) r x y).2 H' ∧ sc_F b lo H H') := by
  refine xC.start (by decide) (Nat.le_of_ble_eq_true rfl) ?_
  intro p e s m args below meth c ls E hnm hs0 hl
  obtain ⟨hx, hb, hml, hown, hts, hr, hlocks, hK, hbs⟩ := id E
  have hl : lv_has ls 5 [(0, .ref b), (1, .int r), (2, .int x), (3, .int y)] := hl
  obtain ⟨ta, na, pa, dv, hV, hD, hg⟩ := id hH
  obtain ⟨fc, hC, hfI⟩ := id hV
  obtain ⟨hw, hb0, hb4, hlo, hn5, hX, hRG, hMD, hZR, hT, hrg, hwf⟩ := id hC
  have hFF : sc_F b lo H H := sc_F.rf
  have hSS : H.size = H.size := rfl
  refine xl (fun _ => lv_aload_n hx hb dX1_agreed_0 rfl (lv_at hl 0 rfl)) ?_
  refine xl (fun _ => lv_iload_n hx hb dX1_agreed_1 rfl (lv_at hl 3 rfl)) ?_
  refine xl (fun _ => lv_iconst (v := 2) hx hb dX1_agreed_2 (by decide)) ?_
  rcases hs_3 : sp_rs t rg y 2 with _ | j
  · refine x_callV E hl (c_X1_termOfSort_n l G H b lo n _ t dv fc rg ta na pa hC y 2 hs_3) xm_yX1_termOfSort wMX1_37 wI_yX1_termOfSort wT_yX1_termOfSort (ci := 1) rfl rfl hX (rest := []) rfl (by decide) (by decide) ⟨by decide, by decide⟩ dX1_agreed_3 (x_pure (r := .null) (st1 := []) ?_)
    refine xs (fun _ => lv_astoreN (i := 4) (lv' := [(4, .null), (0, .ref b), (1, .int r), (2, .int x), (3, .int y)]) hx hb dX1_agreed_6 hl (by decide) (rfl)) (fun ls hl => ?_)
    refine xl (fun _ => lv_aloadN hx hb dX1_agreed_8 (lv_at hl 0 rfl)) ?_
    refine xl (fun _ => lv_ifnonnullN hx hb dX1_agreed_10) ?_
    refine xl (fun _ => lv_iconst (v := (-1)) hx hb dX1_agreed_13 (by decide)) ?_
    exact x_iret hx hb hr hlocks hs0 hbs (by decide) (by decide) dX1_agreed_14 (⟨by simp only [op_agreed, hs_3]; cases sp_rs t rg x 1 <;> rfl, by simp only [op_agreed, hs_3]; cases sp_rs t rg x 1 <;> exact hH, sc_F.rf⟩)
  · have hj := sp_rg_lt hrg (sp_rs_of hs_3).1
    refine x_callV E hl (c_X1_termOfSort_s l G H b lo n _ t dv fc rg ta na pa hC y 2 hs_3) xm_yX1_termOfSort wMX1_37 wI_yX1_termOfSort wT_yX1_termOfSort (ci := 1) rfl rfl hX (rest := []) rfl (by decide) (by decide) ⟨by decide, by decide⟩ dX1_agreed_3 (x_pure (r := .ref (ta j)) (st1 := []) ?_)
    refine xs (fun _ => lv_astore (i := 4) (lv' := [(4, .ref (ta j)), (0, .ref b), (1, .int r), (2, .int x), (3, .int y)]) hx hb dX1_agreed_6 hl (by decide) (rfl)) (fun ls hl => ?_)
    refine xl (fun _ => lv_aload hx hb dX1_agreed_8 (lv_at hl 0 rfl)) ?_
    refine xl (fun _ => lv_ifnonnull (tgt := 15) hx hb dX1_agreed_10 (by decide)) ?_
    refine xl (fun _ => lv_aload_n hx hb dX1_agreed_15 rfl (lv_at hl 1 rfl)) ?_
    refine xl (fun _ => lv_iload_n hx hb dX1_agreed_16 rfl (lv_at hl 2 rfl)) ?_
    refine xl (fun _ => lv_aload_n hx hb dX1_agreed_17 rfl (lv_at hl 1 rfl)) ?_
    refine xl (fun _ => lv_iload_n hx hb dX1_agreed_18 rfl (lv_at hl 3 rfl)) ?_
    refine xl (fun _ => lv_iconst (v := 1) hx hb dX1_agreed_19 (by decide)) ?_
    rcases hs_20 : sp_rs t rg x 1 with _ | i
    · refine x_callV E hl (c_X1_termOfSort_n l G H b lo n _ t dv fc rg ta na pa hC x 1 hs_20) xm_yX1_termOfSort wMX1_37 wI_yX1_termOfSort wT_yX1_termOfSort (ci := 1) rfl rfl hX (rest := [.int r, .ref b]) rfl (by simp [cat_rf, cat_int, cat_ref, cat_null]) (by decide) ⟨by decide, by decide⟩ dX1_agreed_20 (x_pure (r := .null) (st1 := []) ?_)
      refine xl (fun _ => lv_aload hx hb dX1_agreed_23 (lv_at hl 0 rfl)) ?_
      refine xl (fun _ => lv_iconst (v := 0) hx hb dX1_agreed_25 (by decide)) ?_
      refine x_callV E hl (c_X0_partAt l G H (ta j) (na j) (pa j) _ _ _ _ _ _ (hT j hj).2.2.2.1 (hT j hj).2.2.2.2.2 0 (by decide)) xm_yX0_partAt wMX1_45 wI_yX0_partAt wT_yX0_partAt (ci := 0) rfl rfl ((hT j hj).2.2.2.1) (rest := [.null, .int r, .ref b]) rfl (by simp [cat_rf, cat_int, cat_ref, cat_null]) (by decide) ⟨by decide, by decide⟩ dX1_agreed_26 (x_pure (r := va_rf ((sp_pa (t j) 0).map ta)) (st1 := []) ?_)
      obtain ⟨k, hk0, hkj, hk1⟩ := sp_wf2 (hwf j hj) (sp_rs_of hs_3).2
      have hk : k < n := by omega
      refine xg (g2 := F0 m 29 ls [.ref (ta k), .null, .int r, .ref b]) (by rw [hk0]; rfl) ?_
      refine x_callV E hl (c_X1_makeSharedInto_n1 l G H b lo n t rg ta na pa dv hV r (some (ta k))) xm_yX1_makeSharedInto wMX1_41 wI_yX1_makeSharedInto wT_yX1_makeSharedInto (ci := 1) rfl rfl hX (rest := []) rfl (by decide) (by decide) ⟨by decide, by decide⟩ dX1_agreed_29 (fun v_1 H_2 hp_3 hz_4 hq_5 => ?_)
      obtain ⟨rfl, rfl⟩ := hp_3
      refine xg (g2 := F0 m 32 ls [.int (-1)]) rfl ?_
      exact x_iret hx hb hr hlocks hs0 hbs (by decide) (by decide) dX1_agreed_32 (⟨by simp only [op_agreed, hs_3, hs_20, hk0], by simp only [op_agreed, hs_3, hs_20, hk0]; exact hH, sc_F.rf⟩)
    · have hi := sp_rg_lt hrg (sp_rs_of hs_20).1
      refine x_callV E hl (c_X1_termOfSort_s l G H b lo n _ t dv fc rg ta na pa hC x 1 hs_20) xm_yX1_termOfSort wMX1_37 wI_yX1_termOfSort wT_yX1_termOfSort (ci := 1) rfl rfl hX (rest := [.int r, .ref b]) rfl (by simp [cat_rf, cat_int, cat_ref, cat_null]) (by decide) ⟨by decide, by decide⟩ dX1_agreed_20 (x_pure (r := .ref (ta i)) (st1 := []) ?_)
      refine xl (fun _ => lv_aload hx hb dX1_agreed_23 (lv_at hl 0 rfl)) ?_
      refine xl (fun _ => lv_iconst (v := 0) hx hb dX1_agreed_25 (by decide)) ?_
      refine x_callV E hl (c_X0_partAt l G H (ta j) (na j) (pa j) _ _ _ _ _ _ (hT j hj).2.2.2.1 (hT j hj).2.2.2.2.2 0 (by decide)) xm_yX0_partAt wMX1_45 wI_yX0_partAt wT_yX0_partAt (ci := 0) rfl rfl ((hT j hj).2.2.2.1) (rest := [.ref (ta i), .int r, .ref b]) rfl (by simp [cat_rf, cat_int, cat_ref, cat_null]) (by decide) ⟨by decide, by decide⟩ dX1_agreed_26 (x_pure (r := va_rf ((sp_pa (t j) 0).map ta)) (st1 := []) ?_)
      obtain ⟨k, hk0, hkj, hk1⟩ := sp_wf2 (hwf j hj) (sp_rs_of hs_3).2
      have hk : k < n := by omega
      refine xg (g2 := F0 m 29 ls [.ref (ta k), .ref (ta i), .int r, .ref b]) (by rw [hk0]; rfl) ?_
      refine x_callV E hl (c_X1_makeSharedInto l G H b lo n t rg ta na pa dv g hV hD hg hn1 r i k hi hk ((sp_rs_of hs_20).2) (hk1)) xm_yX1_makeSharedInto wMX1_41 wI_yX1_makeSharedInto wT_yX1_makeSharedInto (ci := 1) rfl rfl hX (rest := []) rfl (by decide) (by decide) ⟨by decide, by decide⟩ dX1_agreed_29 (fun v_6 H_7 hp_8 hz_9 hq_10 => ?_)
      obtain ⟨rfl, hH2, hF2⟩ := hp_8
      refine xg (g2 := F0 m 32 ls [.int (sp_mi (n, t, rg, g) r (sp_sd i k)).1]) rfl ?_
      exact x_iret hx hb hr hlocks hs0 hbs (by decide) (by decide) dX1_agreed_32 (⟨by simp only [op_agreed, hs_3, hs_20, hk0], by simp only [op_agreed, hs_3, hs_20, hk0]; exact hH2, hF2⟩)

set_option maxHeartbeats 4000000 in
set_option maxRecDepth 100000 in
theorem c_X1_mix (l : Launch) (G : sg_G) (H : Heap) (b lo n : Nat) (t : Nat → sp_T) (rg : Nat → Option Nat) (g : Nat → Prop) (hH : sc_H G b lo n t rg g H) (hn1 : n < 512) (r q x y : Int32) : xC l G yX1_mix cX1_mix 6 (some FieldType.int) 5 2 11 [.ref b, .int r, .int q, .int x, .int y] H (fun ans H' => ans = some (.int (op_mix (n, t, rg, g) r q x y).1) ∧ sc_HS G b lo (op_mix (n, t, rg, g) r q x y).2 H' ∧ sc_F b lo H H') := by
  refine xC.start (by decide) (Nat.le_of_ble_eq_true rfl) ?_
  intro p e s m args below meth c ls E hnm hs0 hl
  obtain ⟨hx, hb, hml, hown, hts, hr, hlocks, hK, hbs⟩ := id E
  have hl : lv_has ls 6 [(0, .ref b), (1, .int r), (2, .int q), (3, .int x), (4, .int y)] := hl
  obtain ⟨ta, na, pa, dv, hV, hD, hg⟩ := id hH
  obtain ⟨fc, hC, hfI⟩ := id hV
  obtain ⟨hw, hb0, hb4, hlo, hn5, hX, hRG, hMD, hZR, hT, hrg, hwf⟩ := id hC
  have hFF : sc_F b lo H H := sc_F.rf
  have hSS : H.size = H.size := rfl
  refine xl (fun _ => lv_aload_n hx hb dX1_mix_0 rfl (lv_at hl 0 rfl)) ?_
  refine xl (fun _ => lv_iload_n hx hb dX1_mix_1 rfl (lv_at hl 3 rfl)) ?_
  rcases hs_2 : sp_rg rg x with _ | i
  · refine x_callV E hl (c_X1_termIn_n l G H b lo n _ t dv fc rg ta na pa hC x hs_2) xm_yX1_termIn wMX1_49 wI_yX1_termIn wT_yX1_termIn (ci := 1) rfl rfl hX (rest := []) rfl (by decide) (by decide) ⟨by decide, by decide⟩ dX1_mix_2 (x_pure (r := .null) (st1 := []) ?_)
    refine xs (fun _ => lv_astoreN (i := 5) (lv' := [(5, .null), (0, .ref b), (1, .int r), (2, .int q), (3, .int x), (4, .int y)]) hx hb dX1_mix_5 hl (by decide) (rfl)) (fun ls hl => ?_)
    refine xl (fun _ => lv_iload_n hx hb dX1_mix_7 rfl (lv_at hl 3 rfl)) ?_
    refine xb (fun _ => lv_if_lt (tgt := 31) hx hb dX1_mix_8 (by decide)) (fun c_8 => ?_) (fun c_8 => ?_)
    · refine xl (fun _ => lv_iconst (v := (-1)) hx hb dX1_mix_31 (by decide)) ?_
      exact x_iret hx hb hr hlocks hs0 hbs (by decide) (by decide) dX1_mix_32 (⟨by simp only [op_mix, c_8, not_true_eq_false, not_false_eq_true, and_true, true_and, and_false, false_and, and_self, if_true, if_false, reduceIte, Bool.false_eq_true, if_true_left], by simp only [op_mix, c_8, not_true_eq_false, not_false_eq_true, and_true, true_and, and_false, false_and, and_self, if_true, if_false, reduceIte, Bool.false_eq_true, if_true_left]; exact hH, sc_F.rf⟩)
    · refine xl (fun _ => lv_iload_n hx hb dX1_mix_11 rfl (lv_at hl 3 rfl)) ?_
      refine xl (fun _ => lv_bipush (v := 9) hx hb dX1_mix_12 (by decide)) ?_
      refine xb (fun _ => lv_icmp_gt (tgt := 31) hx hb dX1_mix_14 (by decide)) (fun c_14 => ?_) (fun c_14 => ?_)
      · refine xl (fun _ => lv_iconst (v := (-1)) hx hb dX1_mix_31 (by decide)) ?_
        exact x_iret hx hb hr hlocks hs0 hbs (by decide) (by decide) dX1_mix_32 (⟨by simp only [op_mix, c_8, c_14, not_true_eq_false, not_false_eq_true, and_true, true_and, and_false, false_and, and_self, if_true, if_false, reduceIte, Bool.false_eq_true, if_true_left], by simp only [op_mix, c_8, c_14, not_true_eq_false, not_false_eq_true, and_true, true_and, and_false, false_and, and_self, if_true, if_false, reduceIte, Bool.false_eq_true, if_true_left]; exact hH, sc_F.rf⟩)
      · refine xl (fun _ => lv_aloadN hx hb dX1_mix_17 (lv_at hl 0 rfl)) ?_
        refine xl (fun _ => lv_ifnullN (tgt := 31) hx hb dX1_mix_19 (by decide)) ?_
        refine xl (fun _ => lv_iconst (v := (-1)) hx hb dX1_mix_31 (by decide)) ?_
        exact x_iret hx hb hr hlocks hs0 hbs (by decide) (by decide) dX1_mix_32 (⟨by simp only [op_mix, c_8, c_14, hs_2, not_true_eq_false, not_false_eq_true, and_true, true_and, and_false, false_and, and_self, if_true, if_false, reduceIte, Bool.false_eq_true, if_true_left], by simp only [op_mix, c_8, c_14, hs_2, not_true_eq_false, not_false_eq_true, and_true, true_and, and_false, false_and, and_self, if_true, if_false, reduceIte, Bool.false_eq_true, if_true_left]; exact hH, sc_F.rf⟩)
  · have hi := sp_rg_lt hrg hs_2
    refine x_callV E hl (c_X1_termIn_s l G H b lo n _ t dv fc rg ta na pa hC x hs_2) xm_yX1_termIn wMX1_49 wI_yX1_termIn wT_yX1_termIn (ci := 1) rfl rfl hX (rest := []) rfl (by decide) (by decide) ⟨by decide, by decide⟩ dX1_mix_2 (x_pure (r := .ref (ta i)) (st1 := []) ?_)
    refine xs (fun _ => lv_astore (i := 5) (lv' := [(5, .ref (ta i)), (0, .ref b), (1, .int r), (2, .int q), (3, .int x), (4, .int y)]) hx hb dX1_mix_5 hl (by decide) (rfl)) (fun ls hl => ?_)
    refine xl (fun _ => lv_iload_n hx hb dX1_mix_7 rfl (lv_at hl 3 rfl)) ?_
    refine xb (fun _ => lv_if_lt (tgt := 31) hx hb dX1_mix_8 (by decide)) (fun c_8 => ?_) (fun c_8 => ?_)
    · refine xl (fun _ => lv_iconst (v := (-1)) hx hb dX1_mix_31 (by decide)) ?_
      exact x_iret hx hb hr hlocks hs0 hbs (by decide) (by decide) dX1_mix_32 (⟨by simp only [op_mix, c_8, not_true_eq_false, not_false_eq_true, and_true, true_and, and_false, false_and, and_self, if_true, if_false, reduceIte, Bool.false_eq_true, if_true_left], by simp only [op_mix, c_8, not_true_eq_false, not_false_eq_true, and_true, true_and, and_false, false_and, and_self, if_true, if_false, reduceIte, Bool.false_eq_true, if_true_left]; exact hH, sc_F.rf⟩)
    · refine xl (fun _ => lv_iload_n hx hb dX1_mix_11 rfl (lv_at hl 3 rfl)) ?_
      refine xl (fun _ => lv_bipush (v := 9) hx hb dX1_mix_12 (by decide)) ?_
      refine xb (fun _ => lv_icmp_gt (tgt := 31) hx hb dX1_mix_14 (by decide)) (fun c_14 => ?_) (fun c_14 => ?_)
      · refine xl (fun _ => lv_iconst (v := (-1)) hx hb dX1_mix_31 (by decide)) ?_
        exact x_iret hx hb hr hlocks hs0 hbs (by decide) (by decide) dX1_mix_32 (⟨by simp only [op_mix, c_8, c_14, not_true_eq_false, not_false_eq_true, and_true, true_and, and_false, false_and, and_self, if_true, if_false, reduceIte, Bool.false_eq_true, if_true_left], by simp only [op_mix, c_8, c_14, not_true_eq_false, not_false_eq_true, and_true, true_and, and_false, false_and, and_self, if_true, if_false, reduceIte, Bool.false_eq_true, if_true_left]; exact hH, sc_F.rf⟩)
      · refine xl (fun _ => lv_aload hx hb dX1_mix_17 (lv_at hl 0 rfl)) ?_
        refine xl (fun _ => lv_ifnull hx hb dX1_mix_19) ?_
        refine xl (fun _ => lv_aload_n hx hb dX1_mix_22 rfl (lv_at hl 1 rfl)) ?_
        refine xl (fun _ => lv_iload hx hb dX1_mix_23 (lv_at hl 5 rfl)) ?_
        refine x_callV E hl (c_X1_isTermOrNothing l G H b lo n _ t dv fc rg ta na pa hC y) xm_yX1_isTermOrNothing wMX1_52 wI_yX1_isTermOrNothing wT_yX1_isTermOrNothing (ci := 1) rfl rfl hX (rest := []) rfl (by decide) (by decide) ⟨by decide, by decide⟩ dX1_mix_25 (x_pure (r := .int (bI (sp_tn rg y))) (st1 := []) ?_)
        refine xb (fun _ => lv_if_ne (tgt := 33) hx hb dX1_mix_28 (by decide)) (fun c_28 => ?_) (fun c_28 => ?_)
        · have c_28 := bI_t c_28
          refine xl (fun _ => lv_aload_n hx hb dX1_mix_33 rfl (lv_at hl 1 rfl)) ?_
          refine xl (fun _ => lv_iload_n hx hb dX1_mix_34 rfl (lv_at hl 2 rfl)) ?_
          refine xl (fun _ => lv_aload_n hx hb dX1_mix_35 rfl (lv_at hl 1 rfl)) ?_
          refine xl (fun _ => lv_iconst (v := 4) hx hb dX1_mix_36 (by decide)) ?_
          refine xl (fun _ => lv_iload_n hx hb dX1_mix_37 rfl (lv_at hl 3 rfl)) ?_
          refine xl (fun _ => lv_aload hx hb dX1_mix_38 (lv_at hl 0 rfl)) ?_
          refine xl (fun _ => lv_aload_n hx hb dX1_mix_40 rfl (lv_at hl 1 rfl)) ?_
          refine xl (fun _ => lv_iload hx hb dX1_mix_41 (lv_at hl 5 rfl)) ?_
          refine x_callV E hl (c_X1_termIn l G H b lo n _ t dv fc rg ta na pa hC y) xm_yX1_termIn wMX1_49 wI_yX1_termIn wT_yX1_termIn (ci := 1) rfl rfl hX (rest := [.ref (ta i), .int q, .int 4, .ref b, .int r, .ref b]) rfl (by simp [cat_rf, cat_int, cat_ref, cat_null]) (by decide) ⟨by decide, by decide⟩ dX1_mix_43 (x_pure (r := va_rf (Option.map ta (sp_rg rg y))) (st1 := []) ?_)
          refine xl (fun _ => lv_null hx hb dX1_mix_46) ?_
          refine x_callV E hl (c_X1_plainTerm l G H b _ _ hX 4 q (Option.map ta (some i)) (Option.map ta (sp_rg rg y)) (Option.map ta none) (sc_obo hC (o := (some i)) (so_b hi)) (sc_obo hC (o := (sp_rg rg y)) (fun j e => sp_rg_lt hrg e)) (sc_obo hC (o := none) (no_b))) xm_yX1_plainTerm wMX1_29 wI_yX1_plainTerm wT_yX1_plainTerm (ci := 1) rfl rfl hX (rest := [.int r, .ref b]) rfl (by simp [cat_rf, cat_int, cat_ref, cat_null]) (by decide) ⟨by decide, by decide⟩ dX1_mix_47 (fun v_1 H_2 hp_3 hz_4 hq_5 => ?_)
          obtain ⟨rfl, ht1, ht2, ht3, ht4⟩ := hp_3
          obtain ⟨hV1, hO1, hne1, hF1⟩ := sc_plain hV (some i) (sp_rg rg y) none 4 q ht1 ht2 ht3 ht4
          obtain ⟨fc1, hC1, hfI1⟩ := id hV1
          obtain ⟨-, -, -, -, -, hX1, -⟩ := id hC1
          refine xg (g2 := F0 m 50 ls [.ref (H.size + 1), .int r, .ref b]) rfl ?_
          refine x_callV E hl (c_X1_makeInto l G H_2 b lo n t rg ta na pa dv g hV1 hD hg (4, q, z4, sp_p4 (some i) (sp_rg rg y) none) (H.size + 1) (b + 3) H.size hO1 hne1 (wf_mix hi (fun j e => sp_rg_lt hrg e)) hn1 r) xm_yX1_makeInto wMX1_33 wI_yX1_makeInto wT_yX1_makeInto (ci := 1) rfl rfl hX1 (rest := []) rfl (by decide) (by decide) ⟨by decide, by decide⟩ dX1_mix_50 (fun v_6 H_7 hp_8 hz_9 hq_10 => ?_)
          obtain ⟨rfl, hH2, hF2, hS2⟩ := hp_8
          refine xg (g2 := F0 m 53 ls [.int (sp_mi (n, t, rg, g) r (4, q, z4, sp_p4 (some i) (sp_rg rg y) none)).1]) rfl ?_
          exact x_iret hx hb hr hlocks hs0 hbs (by decide) (by decide) dX1_mix_53 (⟨by simp only [op_mix, c_8, c_14, hs_2, c_28, not_true_eq_false, not_false_eq_true, and_true, true_and, and_false, false_and, and_self, if_true, if_false, reduceIte, Bool.false_eq_true, if_true_left], by simp only [op_mix, c_8, c_14, hs_2, c_28, not_true_eq_false, not_false_eq_true, and_true, true_and, and_false, false_and, and_self, if_true, if_false, reduceIte, Bool.false_eq_true, if_true_left]; exact hH2, hF1.tr hF2⟩)
        · have c_28 := bI_f c_28
          refine xl (fun _ => lv_iconst (v := (-1)) hx hb dX1_mix_31 (by decide)) ?_
          exact x_iret hx hb hr hlocks hs0 hbs (by decide) (by decide) dX1_mix_32 (⟨by simp only [op_mix, c_8, c_14, hs_2, c_28, not_true_eq_false, not_false_eq_true, and_true, true_and, and_false, false_and, and_self, if_true, if_false, reduceIte, Bool.false_eq_true, if_true_left], by simp only [op_mix, c_8, c_14, hs_2, c_28, not_true_eq_false, not_false_eq_true, and_true, true_and, and_false, false_and, and_self, if_true, if_false, reduceIte, Bool.false_eq_true, if_true_left]; exact hH, sc_F.rf⟩)

set_option maxHeartbeats 4000000 in
set_option maxRecDepth 100000 in
theorem c_X1_sealed (l : Launch) (G : sg_G) (H : Heap) (b lo n : Nat) (t : Nat → sp_T) (rg : Nat → Option Nat) (g : Nat → Prop) (hH : sc_H G b lo n t rg g H) (hn1 : n < 512) (r k h q : Int32) : xC l G yX1_sealed cX1_sealed 8 (some FieldType.int) 5 2 11 [.ref b, .int r, .int k, .int h, .int q] H (fun ans H' => ans = some (.int (op_sealed (n, t, rg, g) r k h q).1) ∧ sc_HS G b lo (op_sealed (n, t, rg, g) r k h q).2 H' ∧ sc_F b lo H H') := by
  refine xC.start (by decide) (Nat.le_of_ble_eq_true rfl) ?_
  intro p e s m args below meth c ls E hnm hs0 hl
  obtain ⟨hx, hb, hml, hown, hts, hr, hlocks, hK, hbs⟩ := id E
  have hl : lv_has ls 8 [(0, .ref b), (1, .int r), (2, .int k), (3, .int h), (4, .int q)] := hl
  obtain ⟨ta, na, pa, dv, hV, hD, hg⟩ := id hH
  obtain ⟨fc, hC, hfI⟩ := id hV
  obtain ⟨hw, hb0, hb4, hlo, hn5, hX, hRG, hMD, hZR, hT, hrg, hwf⟩ := id hC
  have hFF : sc_F b lo H H := sc_F.rf
  have hSS : H.size = H.size := rfl
  refine xl (fun _ => lv_aload_n hx hb dX1_sealed_0 rfl (lv_at hl 0 rfl)) ?_
  refine xl (fun _ => lv_iload_n hx hb dX1_sealed_1 rfl (lv_at hl 2 rfl)) ?_
  rcases hs_2 : sp_rg rg k with _ | i
  · refine x_callV E hl (c_X1_termIn_n l G H b lo n _ t dv fc rg ta na pa hC k hs_2) xm_yX1_termIn wMX1_49 wI_yX1_termIn wT_yX1_termIn (ci := 1) rfl rfl hX (rest := []) rfl (by decide) (by decide) ⟨by decide, by decide⟩ dX1_sealed_2 (x_pure (r := .null) (st1 := []) ?_)
    refine xs (fun _ => lv_astoreN (i := 5) (lv' := [(5, .null), (0, .ref b), (1, .int r), (2, .int k), (3, .int h), (4, .int q)]) hx hb dX1_sealed_5 hl (by decide) (rfl)) (fun ls hl => ?_)
    refine xl (fun _ => lv_aload_n hx hb dX1_sealed_7 rfl (lv_at hl 1 rfl)) ?_
    refine xl (fun _ => lv_iload_n hx hb dX1_sealed_8 rfl (lv_at hl 4 rfl)) ?_
    rcases hs_9 : sp_rg rg h with _ | j
    · refine x_callV E hl (c_X1_termIn_n l G H b lo n _ t dv fc rg ta na pa hC h hs_9) xm_yX1_termIn wMX1_49 wI_yX1_termIn wT_yX1_termIn (ci := 1) rfl rfl hX (rest := []) rfl (by decide) (by decide) ⟨by decide, by decide⟩ dX1_sealed_9 (x_pure (r := .null) (st1 := []) ?_)
      refine xs (fun _ => lv_astoreN (i := 6) (lv' := [(6, .null), (5, .null), (0, .ref b), (1, .int r), (2, .int k), (3, .int h), (4, .int q)]) hx hb dX1_sealed_12 hl (by decide) (rfl)) (fun ls hl => ?_)
      refine xl (fun _ => lv_aload_n hx hb dX1_sealed_14 rfl (lv_at hl 2 rfl)) ?_
      refine xl (fun _ => lv_iload hx hb dX1_sealed_15 (lv_at hl 6 rfl)) ?_
      rcases hs_17 : sp_rg rg q with _ | u
      · refine x_callV E hl (c_X1_termIn_n l G H b lo n _ t dv fc rg ta na pa hC q hs_17) xm_yX1_termIn wMX1_49 wI_yX1_termIn wT_yX1_termIn (ci := 1) rfl rfl hX (rest := []) rfl (by decide) (by decide) ⟨by decide, by decide⟩ dX1_sealed_17 (x_pure (r := .null) (st1 := []) ?_)
        refine xs (fun _ => lv_astoreN (i := 7) (lv' := [(7, .null), (6, .null), (5, .null), (0, .ref b), (1, .int r), (2, .int k), (3, .int h), (4, .int q)]) hx hb dX1_sealed_20 hl (by decide) (rfl)) (fun ls hl => ?_)
        refine xl (fun _ => lv_aloadN hx hb dX1_sealed_22 (lv_at hl 2 rfl)) ?_
        refine xl (fun _ => lv_ifnullN (tgt := 37) hx hb dX1_sealed_24 (by decide)) ?_
        refine xl (fun _ => lv_iconst (v := (-1)) hx hb dX1_sealed_37 (by decide)) ?_
        exact x_iret hx hb hr hlocks hs0 hbs (by decide) (by decide) dX1_sealed_38 (⟨by simp only [op_sealed, hs_2, hs_9, hs_17], by simp only [op_sealed, hs_2, hs_9, hs_17]; exact hH, sc_F.rf⟩)
      · have hu := sp_rg_lt hrg hs_17
        refine x_callV E hl (c_X1_termIn_s l G H b lo n _ t dv fc rg ta na pa hC q hs_17) xm_yX1_termIn wMX1_49 wI_yX1_termIn wT_yX1_termIn (ci := 1) rfl rfl hX (rest := []) rfl (by decide) (by decide) ⟨by decide, by decide⟩ dX1_sealed_17 (x_pure (r := .ref (ta u)) (st1 := []) ?_)
        refine xs (fun _ => lv_astore (i := 7) (lv' := [(7, .ref (ta u)), (6, .null), (5, .null), (0, .ref b), (1, .int r), (2, .int k), (3, .int h), (4, .int q)]) hx hb dX1_sealed_20 hl (by decide) (rfl)) (fun ls hl => ?_)
        refine xl (fun _ => lv_aloadN hx hb dX1_sealed_22 (lv_at hl 2 rfl)) ?_
        refine xl (fun _ => lv_ifnullN (tgt := 37) hx hb dX1_sealed_24 (by decide)) ?_
        refine xl (fun _ => lv_iconst (v := (-1)) hx hb dX1_sealed_37 (by decide)) ?_
        exact x_iret hx hb hr hlocks hs0 hbs (by decide) (by decide) dX1_sealed_38 (⟨by simp only [op_sealed, hs_2, hs_9, hs_17], by simp only [op_sealed, hs_2, hs_9, hs_17]; exact hH, sc_F.rf⟩)
    · have hj := sp_rg_lt hrg hs_9
      refine x_callV E hl (c_X1_termIn_s l G H b lo n _ t dv fc rg ta na pa hC h hs_9) xm_yX1_termIn wMX1_49 wI_yX1_termIn wT_yX1_termIn (ci := 1) rfl rfl hX (rest := []) rfl (by decide) (by decide) ⟨by decide, by decide⟩ dX1_sealed_9 (x_pure (r := .ref (ta j)) (st1 := []) ?_)
      refine xs (fun _ => lv_astore (i := 6) (lv' := [(6, .ref (ta j)), (5, .null), (0, .ref b), (1, .int r), (2, .int k), (3, .int h), (4, .int q)]) hx hb dX1_sealed_12 hl (by decide) (rfl)) (fun ls hl => ?_)
      refine xl (fun _ => lv_aload_n hx hb dX1_sealed_14 rfl (lv_at hl 2 rfl)) ?_
      refine xl (fun _ => lv_iload hx hb dX1_sealed_15 (lv_at hl 6 rfl)) ?_
      rcases hs_17 : sp_rg rg q with _ | u
      · refine x_callV E hl (c_X1_termIn_n l G H b lo n _ t dv fc rg ta na pa hC q hs_17) xm_yX1_termIn wMX1_49 wI_yX1_termIn wT_yX1_termIn (ci := 1) rfl rfl hX (rest := []) rfl (by decide) (by decide) ⟨by decide, by decide⟩ dX1_sealed_17 (x_pure (r := .null) (st1 := []) ?_)
        refine xs (fun _ => lv_astoreN (i := 7) (lv' := [(7, .null), (6, .ref (ta j)), (5, .null), (0, .ref b), (1, .int r), (2, .int k), (3, .int h), (4, .int q)]) hx hb dX1_sealed_20 hl (by decide) (rfl)) (fun ls hl => ?_)
        refine xl (fun _ => lv_aloadN hx hb dX1_sealed_22 (lv_at hl 2 rfl)) ?_
        refine xl (fun _ => lv_ifnullN (tgt := 37) hx hb dX1_sealed_24 (by decide)) ?_
        refine xl (fun _ => lv_iconst (v := (-1)) hx hb dX1_sealed_37 (by decide)) ?_
        exact x_iret hx hb hr hlocks hs0 hbs (by decide) (by decide) dX1_sealed_38 (⟨by simp only [op_sealed, hs_2, hs_9, hs_17], by simp only [op_sealed, hs_2, hs_9, hs_17]; exact hH, sc_F.rf⟩)
      · have hu := sp_rg_lt hrg hs_17
        refine x_callV E hl (c_X1_termIn_s l G H b lo n _ t dv fc rg ta na pa hC q hs_17) xm_yX1_termIn wMX1_49 wI_yX1_termIn wT_yX1_termIn (ci := 1) rfl rfl hX (rest := []) rfl (by decide) (by decide) ⟨by decide, by decide⟩ dX1_sealed_17 (x_pure (r := .ref (ta u)) (st1 := []) ?_)
        refine xs (fun _ => lv_astore (i := 7) (lv' := [(7, .ref (ta u)), (6, .ref (ta j)), (5, .null), (0, .ref b), (1, .int r), (2, .int k), (3, .int h), (4, .int q)]) hx hb dX1_sealed_20 hl (by decide) (rfl)) (fun ls hl => ?_)
        refine xl (fun _ => lv_aloadN hx hb dX1_sealed_22 (lv_at hl 2 rfl)) ?_
        refine xl (fun _ => lv_ifnullN (tgt := 37) hx hb dX1_sealed_24 (by decide)) ?_
        refine xl (fun _ => lv_iconst (v := (-1)) hx hb dX1_sealed_37 (by decide)) ?_
        exact x_iret hx hb hr hlocks hs0 hbs (by decide) (by decide) dX1_sealed_38 (⟨by simp only [op_sealed, hs_2, hs_9, hs_17], by simp only [op_sealed, hs_2, hs_9, hs_17]; exact hH, sc_F.rf⟩)
  · have hi := sp_rg_lt hrg hs_2
    refine x_callV E hl (c_X1_termIn_s l G H b lo n _ t dv fc rg ta na pa hC k hs_2) xm_yX1_termIn wMX1_49 wI_yX1_termIn wT_yX1_termIn (ci := 1) rfl rfl hX (rest := []) rfl (by decide) (by decide) ⟨by decide, by decide⟩ dX1_sealed_2 (x_pure (r := .ref (ta i)) (st1 := []) ?_)
    refine xs (fun _ => lv_astore (i := 5) (lv' := [(5, .ref (ta i)), (0, .ref b), (1, .int r), (2, .int k), (3, .int h), (4, .int q)]) hx hb dX1_sealed_5 hl (by decide) (rfl)) (fun ls hl => ?_)
    refine xl (fun _ => lv_aload_n hx hb dX1_sealed_7 rfl (lv_at hl 1 rfl)) ?_
    refine xl (fun _ => lv_iload_n hx hb dX1_sealed_8 rfl (lv_at hl 4 rfl)) ?_
    rcases hs_9 : sp_rg rg h with _ | j
    · refine x_callV E hl (c_X1_termIn_n l G H b lo n _ t dv fc rg ta na pa hC h hs_9) xm_yX1_termIn wMX1_49 wI_yX1_termIn wT_yX1_termIn (ci := 1) rfl rfl hX (rest := []) rfl (by decide) (by decide) ⟨by decide, by decide⟩ dX1_sealed_9 (x_pure (r := .null) (st1 := []) ?_)
      refine xs (fun _ => lv_astoreN (i := 6) (lv' := [(6, .null), (5, .ref (ta i)), (0, .ref b), (1, .int r), (2, .int k), (3, .int h), (4, .int q)]) hx hb dX1_sealed_12 hl (by decide) (rfl)) (fun ls hl => ?_)
      refine xl (fun _ => lv_aload_n hx hb dX1_sealed_14 rfl (lv_at hl 2 rfl)) ?_
      refine xl (fun _ => lv_iload hx hb dX1_sealed_15 (lv_at hl 6 rfl)) ?_
      rcases hs_17 : sp_rg rg q with _ | u
      · refine x_callV E hl (c_X1_termIn_n l G H b lo n _ t dv fc rg ta na pa hC q hs_17) xm_yX1_termIn wMX1_49 wI_yX1_termIn wT_yX1_termIn (ci := 1) rfl rfl hX (rest := []) rfl (by decide) (by decide) ⟨by decide, by decide⟩ dX1_sealed_17 (x_pure (r := .null) (st1 := []) ?_)
        refine xs (fun _ => lv_astoreN (i := 7) (lv' := [(7, .null), (6, .null), (5, .ref (ta i)), (0, .ref b), (1, .int r), (2, .int k), (3, .int h), (4, .int q)]) hx hb dX1_sealed_20 hl (by decide) (rfl)) (fun ls hl => ?_)
        refine xl (fun _ => lv_aload hx hb dX1_sealed_22 (lv_at hl 2 rfl)) ?_
        refine xl (fun _ => lv_ifnull hx hb dX1_sealed_24) ?_
        refine xl (fun _ => lv_aloadN hx hb dX1_sealed_27 (lv_at hl 1 rfl)) ?_
        refine xl (fun _ => lv_ifnullN (tgt := 37) hx hb dX1_sealed_29 (by decide)) ?_
        refine xl (fun _ => lv_iconst (v := (-1)) hx hb dX1_sealed_37 (by decide)) ?_
        exact x_iret hx hb hr hlocks hs0 hbs (by decide) (by decide) dX1_sealed_38 (⟨by simp only [op_sealed, hs_2, hs_9, hs_17], by simp only [op_sealed, hs_2, hs_9, hs_17]; exact hH, sc_F.rf⟩)
      · have hu := sp_rg_lt hrg hs_17
        refine x_callV E hl (c_X1_termIn_s l G H b lo n _ t dv fc rg ta na pa hC q hs_17) xm_yX1_termIn wMX1_49 wI_yX1_termIn wT_yX1_termIn (ci := 1) rfl rfl hX (rest := []) rfl (by decide) (by decide) ⟨by decide, by decide⟩ dX1_sealed_17 (x_pure (r := .ref (ta u)) (st1 := []) ?_)
        refine xs (fun _ => lv_astore (i := 7) (lv' := [(7, .ref (ta u)), (6, .null), (5, .ref (ta i)), (0, .ref b), (1, .int r), (2, .int k), (3, .int h), (4, .int q)]) hx hb dX1_sealed_20 hl (by decide) (rfl)) (fun ls hl => ?_)
        refine xl (fun _ => lv_aload hx hb dX1_sealed_22 (lv_at hl 2 rfl)) ?_
        refine xl (fun _ => lv_ifnull hx hb dX1_sealed_24) ?_
        refine xl (fun _ => lv_aloadN hx hb dX1_sealed_27 (lv_at hl 1 rfl)) ?_
        refine xl (fun _ => lv_ifnullN (tgt := 37) hx hb dX1_sealed_29 (by decide)) ?_
        refine xl (fun _ => lv_iconst (v := (-1)) hx hb dX1_sealed_37 (by decide)) ?_
        exact x_iret hx hb hr hlocks hs0 hbs (by decide) (by decide) dX1_sealed_38 (⟨by simp only [op_sealed, hs_2, hs_9, hs_17], by simp only [op_sealed, hs_2, hs_9, hs_17]; exact hH, sc_F.rf⟩)
    · have hj := sp_rg_lt hrg hs_9
      refine x_callV E hl (c_X1_termIn_s l G H b lo n _ t dv fc rg ta na pa hC h hs_9) xm_yX1_termIn wMX1_49 wI_yX1_termIn wT_yX1_termIn (ci := 1) rfl rfl hX (rest := []) rfl (by decide) (by decide) ⟨by decide, by decide⟩ dX1_sealed_9 (x_pure (r := .ref (ta j)) (st1 := []) ?_)
      refine xs (fun _ => lv_astore (i := 6) (lv' := [(6, .ref (ta j)), (5, .ref (ta i)), (0, .ref b), (1, .int r), (2, .int k), (3, .int h), (4, .int q)]) hx hb dX1_sealed_12 hl (by decide) (rfl)) (fun ls hl => ?_)
      refine xl (fun _ => lv_aload_n hx hb dX1_sealed_14 rfl (lv_at hl 2 rfl)) ?_
      refine xl (fun _ => lv_iload hx hb dX1_sealed_15 (lv_at hl 6 rfl)) ?_
      rcases hs_17 : sp_rg rg q with _ | u
      · refine x_callV E hl (c_X1_termIn_n l G H b lo n _ t dv fc rg ta na pa hC q hs_17) xm_yX1_termIn wMX1_49 wI_yX1_termIn wT_yX1_termIn (ci := 1) rfl rfl hX (rest := []) rfl (by decide) (by decide) ⟨by decide, by decide⟩ dX1_sealed_17 (x_pure (r := .null) (st1 := []) ?_)
        refine xs (fun _ => lv_astoreN (i := 7) (lv' := [(7, .null), (6, .ref (ta j)), (5, .ref (ta i)), (0, .ref b), (1, .int r), (2, .int k), (3, .int h), (4, .int q)]) hx hb dX1_sealed_20 hl (by decide) (rfl)) (fun ls hl => ?_)
        refine xl (fun _ => lv_aload hx hb dX1_sealed_22 (lv_at hl 2 rfl)) ?_
        refine xl (fun _ => lv_ifnull hx hb dX1_sealed_24) ?_
        refine xl (fun _ => lv_aload hx hb dX1_sealed_27 (lv_at hl 1 rfl)) ?_
        refine xl (fun _ => lv_ifnull hx hb dX1_sealed_29) ?_
        refine xl (fun _ => lv_aloadN hx hb dX1_sealed_32 (lv_at hl 0 rfl)) ?_
        refine xl (fun _ => lv_ifnonnullN hx hb dX1_sealed_34) ?_
        refine xl (fun _ => lv_iconst (v := (-1)) hx hb dX1_sealed_37 (by decide)) ?_
        exact x_iret hx hb hr hlocks hs0 hbs (by decide) (by decide) dX1_sealed_38 (⟨by simp only [op_sealed, hs_2, hs_9, hs_17], by simp only [op_sealed, hs_2, hs_9, hs_17]; exact hH, sc_F.rf⟩)
      · have hu := sp_rg_lt hrg hs_17
        refine x_callV E hl (c_X1_termIn_s l G H b lo n _ t dv fc rg ta na pa hC q hs_17) xm_yX1_termIn wMX1_49 wI_yX1_termIn wT_yX1_termIn (ci := 1) rfl rfl hX (rest := []) rfl (by decide) (by decide) ⟨by decide, by decide⟩ dX1_sealed_17 (x_pure (r := .ref (ta u)) (st1 := []) ?_)
        refine xs (fun _ => lv_astore (i := 7) (lv' := [(7, .ref (ta u)), (6, .ref (ta j)), (5, .ref (ta i)), (0, .ref b), (1, .int r), (2, .int k), (3, .int h), (4, .int q)]) hx hb dX1_sealed_20 hl (by decide) (rfl)) (fun ls hl => ?_)
        refine xl (fun _ => lv_aload hx hb dX1_sealed_22 (lv_at hl 2 rfl)) ?_
        refine xl (fun _ => lv_ifnull hx hb dX1_sealed_24) ?_
        refine xl (fun _ => lv_aload hx hb dX1_sealed_27 (lv_at hl 1 rfl)) ?_
        refine xl (fun _ => lv_ifnull hx hb dX1_sealed_29) ?_
        refine xl (fun _ => lv_aload hx hb dX1_sealed_32 (lv_at hl 0 rfl)) ?_
        refine xl (fun _ => lv_ifnonnull (tgt := 39) hx hb dX1_sealed_34 (by decide)) ?_
        refine xl (fun _ => lv_aload_n hx hb dX1_sealed_39 rfl (lv_at hl 3 rfl)) ?_
        refine xl (fun _ => lv_iload_n hx hb dX1_sealed_40 rfl (lv_at hl 4 rfl)) ?_
        refine xl (fun _ => lv_aload_n hx hb dX1_sealed_41 rfl (lv_at hl 3 rfl)) ?_
        refine xl (fun _ => lv_iconst (v := 5) hx hb dX1_sealed_42 (by decide)) ?_
        refine xl (fun _ => lv_iconst (v := 0) hx hb dX1_sealed_43 (by decide)) ?_
        refine xl (fun _ => lv_aload hx hb dX1_sealed_44 (lv_at hl 2 rfl)) ?_
        refine xl (fun _ => lv_aload hx hb dX1_sealed_46 (lv_at hl 1 rfl)) ?_
        refine xl (fun _ => lv_aload hx hb dX1_sealed_48 (lv_at hl 0 rfl)) ?_
        refine x_callV E hl (c_X1_plainTerm l G H b _ _ hX 5 0 (Option.map ta (some i)) (Option.map ta (some j)) (Option.map ta (some u)) (sc_obo hC (o := (some i)) (so_b hi)) (sc_obo hC (o := (some j)) (so_b hj)) (sc_obo hC (o := (some u)) (so_b hu))) xm_yX1_plainTerm wMX1_29 wI_yX1_plainTerm wT_yX1_plainTerm (ci := 1) rfl rfl hX (rest := [.int r, .ref b]) rfl (by simp [cat_rf, cat_int, cat_ref, cat_null]) (by decide) ⟨by decide, by decide⟩ dX1_sealed_50 (fun v_1 H_2 hp_3 hz_4 hq_5 => ?_)
        obtain ⟨rfl, ht1, ht2, ht3, ht4⟩ := hp_3
        obtain ⟨hV1, hO1, hne1, hF1⟩ := sc_plain hV (some i) (some j) (some u) 5 0 ht1 ht2 ht3 ht4
        obtain ⟨fc1, hC1, hfI1⟩ := id hV1
        obtain ⟨-, -, -, -, -, hX1, -⟩ := id hC1
        refine xg (g2 := F0 m 53 ls [.ref (H.size + 1), .int r, .ref b]) rfl ?_
        refine x_callV E hl (c_X1_makeInto l G H_2 b lo n t rg ta na pa dv g hV1 hD hg (5, 0, z4, sp_p4 (some i) (some j) (some u)) (H.size + 1) (b + 3) H.size hO1 hne1 (wf_sealed hi hj hu) hn1 r) xm_yX1_makeInto wMX1_33 wI_yX1_makeInto wT_yX1_makeInto (ci := 1) rfl rfl hX1 (rest := []) rfl (by decide) (by decide) ⟨by decide, by decide⟩ dX1_sealed_53 (fun v_6 H_7 hp_8 hz_9 hq_10 => ?_)
        obtain ⟨rfl, hH2, hF2, hS2⟩ := hp_8
        refine xg (g2 := F0 m 56 ls [.int (sp_mi (n, t, rg, g) r (5, 0, z4, sp_p4 (some i) (some j) (some u))).1]) rfl ?_
        exact x_iret hx hb hr hlocks hs0 hbs (by decide) (by decide) dX1_sealed_56 (⟨by simp only [op_sealed, hs_2, hs_9, hs_17], by simp only [op_sealed, hs_2, hs_9, hs_17]; exact hH2, hF1.tr hF2⟩)

set_option maxHeartbeats 4000000 in
set_option maxRecDepth 100000 in
theorem c_X1_signed (l : Launch) (G : sg_G) (H : Heap) (b lo n : Nat) (t : Nat → sp_T) (rg : Nat → Option Nat) (g : Nat → Prop) (hH : sc_H G b lo n t rg g H) (hn1 : n < 512) (r x y : Int32) : xC l G yX1_signed cX1_signed 6 (some FieldType.int) 5 2 11 [.ref b, .int r, .int x, .int y] H (fun ans H' => ans = some (.int (op_signed (n, t, rg, g) r x y).1) ∧ sc_HS G b lo (op_signed (n, t, rg, g) r x y).2 H' ∧ sc_F b lo H H') := by
  refine xC.start (by decide) (Nat.le_of_ble_eq_true rfl) ?_
  intro p e s m args below meth c ls E hnm hs0 hl
  obtain ⟨hx, hb, hml, hown, hts, hr, hlocks, hK, hbs⟩ := id E
  have hl : lv_has ls 6 [(0, .ref b), (1, .int r), (2, .int x), (3, .int y)] := hl
  obtain ⟨ta, na, pa, dv, hV, hD, hg⟩ := id hH
  obtain ⟨fc, hC, hfI⟩ := id hV
  obtain ⟨hw, hb0, hb4, hlo, hn5, hX, hRG, hMD, hZR, hT, hrg, hwf⟩ := id hC
  have hFF : sc_F b lo H H := sc_F.rf
  have hSS : H.size = H.size := rfl
  refine xl (fun _ => lv_aload_n hx hb dX1_signed_0 rfl (lv_at hl 0 rfl)) ?_
  refine xl (fun _ => lv_iload_n hx hb dX1_signed_1 rfl (lv_at hl 2 rfl)) ?_
  refine xl (fun _ => lv_iconst (v := 1) hx hb dX1_signed_2 (by decide)) ?_
  rcases hs_3 : sp_rs t rg x 1 with _ | i
  · refine x_callV E hl (c_X1_termOfSort_n l G H b lo n _ t dv fc rg ta na pa hC x 1 hs_3) xm_yX1_termOfSort wMX1_37 wI_yX1_termOfSort wT_yX1_termOfSort (ci := 1) rfl rfl hX (rest := []) rfl (by decide) (by decide) ⟨by decide, by decide⟩ dX1_signed_3 (x_pure (r := .null) (st1 := []) ?_)
    refine xs (fun _ => lv_astoreN (i := 4) (lv' := [(4, .null), (0, .ref b), (1, .int r), (2, .int x), (3, .int y)]) hx hb dX1_signed_6 hl (by decide) (rfl)) (fun ls hl => ?_)
    refine xl (fun _ => lv_aload_n hx hb dX1_signed_8 rfl (lv_at hl 1 rfl)) ?_
    refine xl (fun _ => lv_iload_n hx hb dX1_signed_9 rfl (lv_at hl 4 rfl)) ?_
    rcases hs_10 : sp_rg rg y with _ | j
    · refine x_callV E hl (c_X1_termIn_n l G H b lo n _ t dv fc rg ta na pa hC y hs_10) xm_yX1_termIn wMX1_49 wI_yX1_termIn wT_yX1_termIn (ci := 1) rfl rfl hX (rest := []) rfl (by decide) (by decide) ⟨by decide, by decide⟩ dX1_signed_10 (x_pure (r := .null) (st1 := []) ?_)
      refine xs (fun _ => lv_astoreN (i := 5) (lv' := [(5, .null), (4, .null), (0, .ref b), (1, .int r), (2, .int x), (3, .int y)]) hx hb dX1_signed_13 hl (by decide) (rfl)) (fun ls hl => ?_)
      refine xl (fun _ => lv_aloadN hx hb dX1_signed_15 (lv_at hl 1 rfl)) ?_
      refine xl (fun _ => lv_ifnullN (tgt := 25) hx hb dX1_signed_17 (by decide)) ?_
      refine xl (fun _ => lv_iconst (v := (-1)) hx hb dX1_signed_25 (by decide)) ?_
      exact x_iret hx hb hr hlocks hs0 hbs (by decide) (by decide) dX1_signed_26 (⟨by simp only [op_signed, hs_3, hs_10], by simp only [op_signed, hs_3, hs_10]; exact hH, sc_F.rf⟩)
    · have hj := sp_rg_lt hrg hs_10
      refine x_callV E hl (c_X1_termIn_s l G H b lo n _ t dv fc rg ta na pa hC y hs_10) xm_yX1_termIn wMX1_49 wI_yX1_termIn wT_yX1_termIn (ci := 1) rfl rfl hX (rest := []) rfl (by decide) (by decide) ⟨by decide, by decide⟩ dX1_signed_10 (x_pure (r := .ref (ta j)) (st1 := []) ?_)
      refine xs (fun _ => lv_astore (i := 5) (lv' := [(5, .ref (ta j)), (4, .null), (0, .ref b), (1, .int r), (2, .int x), (3, .int y)]) hx hb dX1_signed_13 hl (by decide) (rfl)) (fun ls hl => ?_)
      refine xl (fun _ => lv_aloadN hx hb dX1_signed_15 (lv_at hl 1 rfl)) ?_
      refine xl (fun _ => lv_ifnullN (tgt := 25) hx hb dX1_signed_17 (by decide)) ?_
      refine xl (fun _ => lv_iconst (v := (-1)) hx hb dX1_signed_25 (by decide)) ?_
      exact x_iret hx hb hr hlocks hs0 hbs (by decide) (by decide) dX1_signed_26 (⟨by simp only [op_signed, hs_3, hs_10], by simp only [op_signed, hs_3, hs_10]; exact hH, sc_F.rf⟩)
  · have hi := sp_rg_lt hrg (sp_rs_of hs_3).1
    refine x_callV E hl (c_X1_termOfSort_s l G H b lo n _ t dv fc rg ta na pa hC x 1 hs_3) xm_yX1_termOfSort wMX1_37 wI_yX1_termOfSort wT_yX1_termOfSort (ci := 1) rfl rfl hX (rest := []) rfl (by decide) (by decide) ⟨by decide, by decide⟩ dX1_signed_3 (x_pure (r := .ref (ta i)) (st1 := []) ?_)
    refine xs (fun _ => lv_astore (i := 4) (lv' := [(4, .ref (ta i)), (0, .ref b), (1, .int r), (2, .int x), (3, .int y)]) hx hb dX1_signed_6 hl (by decide) (rfl)) (fun ls hl => ?_)
    refine xl (fun _ => lv_aload_n hx hb dX1_signed_8 rfl (lv_at hl 1 rfl)) ?_
    refine xl (fun _ => lv_iload_n hx hb dX1_signed_9 rfl (lv_at hl 4 rfl)) ?_
    rcases hs_10 : sp_rg rg y with _ | j
    · refine x_callV E hl (c_X1_termIn_n l G H b lo n _ t dv fc rg ta na pa hC y hs_10) xm_yX1_termIn wMX1_49 wI_yX1_termIn wT_yX1_termIn (ci := 1) rfl rfl hX (rest := []) rfl (by decide) (by decide) ⟨by decide, by decide⟩ dX1_signed_10 (x_pure (r := .null) (st1 := []) ?_)
      refine xs (fun _ => lv_astoreN (i := 5) (lv' := [(5, .null), (4, .ref (ta i)), (0, .ref b), (1, .int r), (2, .int x), (3, .int y)]) hx hb dX1_signed_13 hl (by decide) (rfl)) (fun ls hl => ?_)
      refine xl (fun _ => lv_aload hx hb dX1_signed_15 (lv_at hl 1 rfl)) ?_
      refine xl (fun _ => lv_ifnull hx hb dX1_signed_17) ?_
      refine xl (fun _ => lv_aloadN hx hb dX1_signed_20 (lv_at hl 0 rfl)) ?_
      refine xl (fun _ => lv_ifnonnullN hx hb dX1_signed_22) ?_
      refine xl (fun _ => lv_iconst (v := (-1)) hx hb dX1_signed_25 (by decide)) ?_
      exact x_iret hx hb hr hlocks hs0 hbs (by decide) (by decide) dX1_signed_26 (⟨by simp only [op_signed, hs_3, hs_10], by simp only [op_signed, hs_3, hs_10]; exact hH, sc_F.rf⟩)
    · have hj := sp_rg_lt hrg hs_10
      refine x_callV E hl (c_X1_termIn_s l G H b lo n _ t dv fc rg ta na pa hC y hs_10) xm_yX1_termIn wMX1_49 wI_yX1_termIn wT_yX1_termIn (ci := 1) rfl rfl hX (rest := []) rfl (by decide) (by decide) ⟨by decide, by decide⟩ dX1_signed_10 (x_pure (r := .ref (ta j)) (st1 := []) ?_)
      refine xs (fun _ => lv_astore (i := 5) (lv' := [(5, .ref (ta j)), (4, .ref (ta i)), (0, .ref b), (1, .int r), (2, .int x), (3, .int y)]) hx hb dX1_signed_13 hl (by decide) (rfl)) (fun ls hl => ?_)
      refine xl (fun _ => lv_aload hx hb dX1_signed_15 (lv_at hl 1 rfl)) ?_
      refine xl (fun _ => lv_ifnull hx hb dX1_signed_17) ?_
      refine xl (fun _ => lv_aload hx hb dX1_signed_20 (lv_at hl 0 rfl)) ?_
      refine xl (fun _ => lv_ifnonnull (tgt := 27) hx hb dX1_signed_22 (by decide)) ?_
      refine xl (fun _ => lv_aload_n hx hb dX1_signed_27 rfl (lv_at hl 2 rfl)) ?_
      refine xl (fun _ => lv_iload_n hx hb dX1_signed_28 rfl (lv_at hl 3 rfl)) ?_
      refine xl (fun _ => lv_aload_n hx hb dX1_signed_29 rfl (lv_at hl 2 rfl)) ?_
      refine xl (fun _ => lv_bipush (v := 6) hx hb dX1_signed_30 (by decide)) ?_
      refine xl (fun _ => lv_iconst (v := 0) hx hb dX1_signed_32 (by decide)) ?_
      refine xl (fun _ => lv_aload hx hb dX1_signed_33 (lv_at hl 1 rfl)) ?_
      refine xl (fun _ => lv_aload hx hb dX1_signed_35 (lv_at hl 0 rfl)) ?_
      refine xl (fun _ => lv_null hx hb dX1_signed_37) ?_
      refine x_callV E hl (c_X1_plainTerm l G H b _ _ hX 6 0 (Option.map ta (some i)) (Option.map ta (some j)) (Option.map ta none) (sc_obo hC (o := (some i)) (so_b hi)) (sc_obo hC (o := (some j)) (so_b hj)) (sc_obo hC (o := none) (no_b))) xm_yX1_plainTerm wMX1_29 wI_yX1_plainTerm wT_yX1_plainTerm (ci := 1) rfl rfl hX (rest := [.int r, .ref b]) rfl (by simp [cat_rf, cat_int, cat_ref, cat_null]) (by decide) ⟨by decide, by decide⟩ dX1_signed_38 (fun v_1 H_2 hp_3 hz_4 hq_5 => ?_)
      obtain ⟨rfl, ht1, ht2, ht3, ht4⟩ := hp_3
      obtain ⟨hV1, hO1, hne1, hF1⟩ := sc_plain hV (some i) (some j) none 6 0 ht1 ht2 ht3 ht4
      obtain ⟨fc1, hC1, hfI1⟩ := id hV1
      obtain ⟨-, -, -, -, -, hX1, -⟩ := id hC1
      refine xg (g2 := F0 m 41 ls [.ref (H.size + 1), .int r, .ref b]) rfl ?_
      refine x_callV E hl (c_X1_makeInto l G H_2 b lo n t rg ta na pa dv g hV1 hD hg (6, 0, z4, sp_p4 (some i) (some j) none) (H.size + 1) (b + 3) H.size hO1 hne1 (wf_signed hi hj (sp_rs_of hs_3).2) hn1 r) xm_yX1_makeInto wMX1_33 wI_yX1_makeInto wT_yX1_makeInto (ci := 1) rfl rfl hX1 (rest := []) rfl (by decide) (by decide) ⟨by decide, by decide⟩ dX1_signed_41 (fun v_6 H_7 hp_8 hz_9 hq_10 => ?_)
      obtain ⟨rfl, hH2, hF2, hS2⟩ := hp_8
      refine xg (g2 := F0 m 44 ls [.int (sp_mi (n, t, rg, g) r (6, 0, z4, sp_p4 (some i) (some j) none)).1]) rfl ?_
      exact x_iret hx hb hr hlocks hs0 hbs (by decide) (by decide) dX1_signed_44 (⟨by simp only [op_signed, hs_3, hs_10], by simp only [op_signed, hs_3, hs_10]; exact hH2, hF1.tr hF2⟩)

set_option maxHeartbeats 4000000 in
set_option maxRecDepth 100000 in
theorem c_X1_row (l : Launch) (G : sg_G) (H : Heap) (b lo n : Nat) (t : Nat → sp_T) (rg : Nat → Option Nat) (g : Nat → Prop) (hH : sc_H G b lo n t rg g H) (hn1 : n < 512) (r k : Int32) : xC l G yX1_row cX1_row 3 (some FieldType.int) 5 2 11 [.ref b, .int r, .int k] H (fun ans H' => ans = some (.int (op_row (n, t, rg, g) r k).1) ∧ sc_HS G b lo (op_row (n, t, rg, g) r k).2 H' ∧ sc_F b lo H H') := by
  refine xC.start (by decide) (Nat.le_of_ble_eq_true rfl) ?_
  intro p e s m args below meth c ls E hnm hs0 hl
  obtain ⟨hx, hb, hml, hown, hts, hr, hlocks, hK, hbs⟩ := id E
  have hl : lv_has ls 3 [(0, .ref b), (1, .int r), (2, .int k)] := hl
  obtain ⟨ta, na, pa, dv, hV, hD, hg⟩ := id hH
  obtain ⟨fc, hC, hfI⟩ := id hV
  obtain ⟨hw, hb0, hb4, hlo, hn5, hX, hRG, hMD, hZR, hT, hrg, hwf⟩ := id hC
  have hFF : sc_F b lo H H := sc_F.rf
  have hSS : H.size = H.size := rfl
  refine xl (fun _ => lv_iload_n hx hb dX1_row_0 rfl (lv_at hl 2 rfl)) ?_
  refine x_callS E hl (c_X1_isKind l G H k) xm_yX1_isKind wMX1_56 wS_yX1_isKind (rest := []) rfl (by decide) (by decide) ⟨by decide, by decide⟩ dX1_row_1 (x_pure (r := .int (bI (sp_ik k))) (st1 := []) ?_)
  refine xb (fun _ => lv_if_ne (tgt := 9) hx hb dX1_row_4 (by decide)) (fun c_4 => ?_) (fun c_4 => ?_)
  · have c_4 := bI_t c_4
    refine xl (fun _ => lv_aload_n hx hb dX1_row_9 rfl (lv_at hl 0 rfl)) ?_
    refine xl (fun _ => lv_iload_n hx hb dX1_row_10 rfl (lv_at hl 1 rfl)) ?_
    refine xl (fun _ => lv_aload_n hx hb dX1_row_11 rfl (lv_at hl 0 rfl)) ?_
    refine xl (fun _ => lv_bipush (v := 7) hx hb dX1_row_12 (by decide)) ?_
    refine xl (fun _ => lv_iload_n hx hb dX1_row_14 rfl (lv_at hl 2 rfl)) ?_
    refine xl (fun _ => lv_null hx hb dX1_row_15) ?_
    refine xl (fun _ => lv_null hx hb dX1_row_16) ?_
    refine xl (fun _ => lv_null hx hb dX1_row_17) ?_
    refine x_callV E hl (c_X1_plainTerm l G H b _ _ hX 7 k (Option.map ta none) (Option.map ta none) (Option.map ta none) (sc_obo hC (o := none) (no_b)) (sc_obo hC (o := none) (no_b)) (sc_obo hC (o := none) (no_b))) xm_yX1_plainTerm wMX1_29 wI_yX1_plainTerm wT_yX1_plainTerm (ci := 1) rfl rfl hX (rest := [.int r, .ref b]) rfl (by simp [cat_rf, cat_int, cat_ref, cat_null]) (by decide) ⟨by decide, by decide⟩ dX1_row_18 (fun v_1 H_2 hp_3 hz_4 hq_5 => ?_)
    obtain ⟨rfl, ht1, ht2, ht3, ht4⟩ := hp_3
    obtain ⟨hV1, hO1, hne1, hF1⟩ := sc_plain hV none none none 7 k ht1 ht2 ht3 ht4
    obtain ⟨fc1, hC1, hfI1⟩ := id hV1
    obtain ⟨-, -, -, -, -, hX1, -⟩ := id hC1
    refine xg (g2 := F0 m 21 ls [.ref (H.size + 1), .int r, .ref b]) rfl ?_
    refine x_callV E hl (c_X1_makeInto l G H_2 b lo n t rg ta na pa dv g hV1 hD hg (7, k, z4, sp_p4 none none none) (H.size + 1) (b + 3) H.size hO1 hne1 (wf_row (sp_ik_of c_4) (bd_p4 (so := 7) (la := k) (nu := z4) no_b no_b no_b)) hn1 r) xm_yX1_makeInto wMX1_33 wI_yX1_makeInto wT_yX1_makeInto (ci := 1) rfl rfl hX1 (rest := []) rfl (by decide) (by decide) ⟨by decide, by decide⟩ dX1_row_21 (fun v_6 H_7 hp_8 hz_9 hq_10 => ?_)
    obtain ⟨rfl, hH2, hF2, hS2⟩ := hp_8
    refine xg (g2 := F0 m 24 ls [.int (sp_mi (n, t, rg, g) r (7, k, z4, sp_p4 none none none)).1]) rfl ?_
    exact x_iret hx hb hr hlocks hs0 hbs (by decide) (by decide) dX1_row_24 (⟨by simp only [op_row, c_4, reduceIte, Bool.false_eq_true, and_true, true_and, and_false, false_and, and_self, not_true_eq_false, not_false_eq_true], by simp only [op_row, c_4, reduceIte, Bool.false_eq_true, and_true, true_and, and_false, false_and, and_self, not_true_eq_false, not_false_eq_true]; exact hH2, hF1.tr hF2⟩)
  · have c_4 := bI_f c_4
    refine xl (fun _ => lv_iconst (v := (-1)) hx hb dX1_row_7 (by decide)) ?_
    exact x_iret hx hb hr hlocks hs0 hbs (by decide) (by decide) dX1_row_8 (⟨by simp only [op_row, c_4, reduceIte, Bool.false_eq_true, and_true, true_and, and_false, false_and, and_self, not_true_eq_false, not_false_eq_true], by simp only [op_row, c_4, reduceIte, Bool.false_eq_true, and_true, true_and, and_false, false_and, and_self, not_true_eq_false, not_false_eq_true]; exact hH, sc_F.rf⟩)
end
section
/-! a GOOD row -/
noncomputable def cB (P : Prop) : Bool := @decide P (Classical.propDecidable P)
theorem cB_t {P : Prop} : cB P = true ↔ P := by
  unfold cB
  exact @decide_eq_true_iff _ (Classical.propDecidable _)
def sp_fit (t : Nat → sp_T) (o : Option Nat) (wv : Int32) : Bool := match o with
  | none => decide (wv = 0) || decide (wv = 3)
  | some j => decide (wv = 1) || (!decide (wv = 0) && decide (sp_so (t j) = 2))
def sp_gn (d : sp_T) (kk : Nat) : Prop := ∀ k, k < 4 → ¬ sp_nu d k < sg_tab 2 (kk * 4 + k) ∧ sp_nu d k ≤ sg_tab 3 (kk * 4 + k)
def sp_gap (d : sp_T) : Nat → Bool
  | 0 => false
  | q + 1 => (sp_pa d q).isNone
def sp_gt (t : Nat → sp_T) (d : sp_T) (kk : Nat) : Prop := ∀ k, k < 4 → sp_fit t (sp_pa d k) (sg_tab 4 (kk * 4 + k)) = true ∧ ¬ (sp_gap d k = true ∧ ¬ sp_pa d k = none)
noncomputable def op_good (a : sp_S) (x : Int32) : Int32 := match sp_rs a.2.1 a.2.2.1 x 7 with
  | some i => bI (cB (sp_gn (a.2.1 i) ((sp_la (a.2.1 i)).toNatClampNeg - 1) ∧ sp_gt a.2.1 (a.2.1 i) ((sp_la (a.2.1 i)).toNatClampNeg - 1)))
  | none => -1
theorem sp_lt28 {kk k : Nat} (h : kk < 7) (h4 : k < 4) : kk * 4 + k < 28 := by omega
end
section
set_option maxHeartbeats 4000000 in
set_option maxRecDepth 100000 in
theorem c_X1_alter (l : Launch) (G : sg_G) (H : Heap) (b lo n : Nat) (t : Nat → sp_T) (rg : Nat → Option Nat) (g : Nat → Prop) (hH : sc_H G b lo n t rg g H) (hn1 : n < 512) (r x k v : Int32) : xC l G yX1_alter cX1_alter 6 (some FieldType.int) 5 2 11 [.ref b, .int r, .int x, .int k, .int v] H (fun ans H' => ans = some (.int (op_alter (n, t, rg, g) r x k v).1) ∧ sc_HS G b lo (op_alter (n, t, rg, g) r x k v).2 H' ∧ sc_F b lo H H') := by
  refine xC.start (by decide) (Nat.le_of_ble_eq_true rfl) ?_
  intro p e s m args below meth c ls E hnm hs0 hl
  obtain ⟨hx, hb, hml, hown, hts, hr, hlocks, hK, hbs⟩ := id E
  have hl : lv_has ls 6 [(0, .ref b), (1, .int r), (2, .int x), (3, .int k), (4, .int v)] := hl
  obtain ⟨ta, na, pa, dv, hV, hD, hg⟩ := id hH
  obtain ⟨fc, hC, hfI⟩ := id hV
  obtain ⟨hw, hb0, hb4, hlo, hn5, hX, hRG, hMD, hZR, hT, hrg, hwf⟩ := id hC
  have hFF : sc_F b lo H H := sc_F.rf
  have hSS : H.size = H.size := rfl
  refine xl (fun _ => lv_aload_n hx hb dX1_alter_0 rfl (lv_at hl 0 rfl)) ?_
  refine xl (fun _ => lv_iload_n hx hb dX1_alter_1 rfl (lv_at hl 2 rfl)) ?_
  refine xl (fun _ => lv_bipush (v := 7) hx hb dX1_alter_2 (by decide)) ?_
  rcases hs_4 : sp_rs t rg x 7 with _ | i
  · refine x_callV E hl (c_X1_termOfSort_n l G H b lo n _ t dv fc rg ta na pa hC x 7 hs_4) xm_yX1_termOfSort wMX1_37 wI_yX1_termOfSort wT_yX1_termOfSort (ci := 1) rfl rfl hX (rest := []) rfl (by decide) (by decide) ⟨by decide, by decide⟩ dX1_alter_4 (x_pure (r := .null) (st1 := []) ?_)
    refine xs (fun _ => lv_astoreN (i := 5) (lv' := [(5, .null), (0, .ref b), (1, .int r), (2, .int x), (3, .int k), (4, .int v)]) hx hb dX1_alter_7 hl (by decide) (rfl)) (fun ls hl => ?_)
    refine xl (fun _ => lv_aloadN hx hb dX1_alter_9 (lv_at hl 0 rfl)) ?_
    refine xl (fun _ => lv_ifnonnullN hx hb dX1_alter_11) ?_
    refine xl (fun _ => lv_iconst (v := (-1)) hx hb dX1_alter_14 (by decide)) ?_
    exact x_iret hx hb hr hlocks hs0 hbs (by decide) (by decide) dX1_alter_15 (⟨by simp only [op_alter, hs_4, reduceIte, Bool.false_eq_true, and_true, true_and, and_false, false_and, and_self, not_true_eq_false, not_false_eq_true], by simp only [op_alter, hs_4, reduceIte, Bool.false_eq_true, and_true, true_and, and_false, false_and, and_self, not_true_eq_false, not_false_eq_true]; exact hH, sc_F.rf⟩)
  · have hi := sp_rg_lt hrg (sp_rs_of hs_4).1
    refine x_callV E hl (c_X1_termOfSort_s l G H b lo n _ t dv fc rg ta na pa hC x 7 hs_4) xm_yX1_termOfSort wMX1_37 wI_yX1_termOfSort wT_yX1_termOfSort (ci := 1) rfl rfl hX (rest := []) rfl (by decide) (by decide) ⟨by decide, by decide⟩ dX1_alter_4 (x_pure (r := .ref (ta i)) (st1 := []) ?_)
    refine xs (fun _ => lv_astore (i := 5) (lv' := [(5, .ref (ta i)), (0, .ref b), (1, .int r), (2, .int x), (3, .int k), (4, .int v)]) hx hb dX1_alter_7 hl (by decide) (rfl)) (fun ls hl => ?_)
    refine xl (fun _ => lv_aload hx hb dX1_alter_9 (lv_at hl 0 rfl)) ?_
    refine xl (fun _ => lv_ifnonnull (tgt := 16) hx hb dX1_alter_11 (by decide)) ?_
    refine xl (fun _ => lv_iload_n hx hb dX1_alter_16 rfl (lv_at hl 4 rfl)) ?_
    refine x_callS E hl (c_X1_isSlot l G H k) xm_yX1_isSlot wMX1_59 wS_yX1_isSlot (rest := []) rfl (by decide) (by decide) ⟨by decide, by decide⟩ dX1_alter_17 (x_pure (r := .int (bI (sp_is k))) (st1 := []) ?_)
    refine xb (fun _ => lv_if_eq (tgt := 37) hx hb dX1_alter_20 (by decide)) (fun c_20 => ?_) (fun c_20 => ?_)
    · have c_20 := bI_f c_20
      refine xl (fun _ => lv_iload_n hx hb dX1_alter_37 rfl (lv_at hl 4 rfl)) ?_
      refine xl (fun _ => lv_iconst (v := 4) hx hb dX1_alter_38 (by decide)) ?_
      refine xb (fun _ => lv_icmp_ne (tgt := 63) hx hb dX1_alter_39 (by decide)) (fun c_39 => ?_) (fun c_39 => ?_)
      · refine xl (fun _ => lv_iconst (v := (-1)) hx hb dX1_alter_63 (by decide)) ?_
        exact x_iret hx hb hr hlocks hs0 hbs (by decide) (by decide) dX1_alter_64 (⟨by simp only [op_alter, hs_4, c_20, c_39, reduceIte, Bool.false_eq_true, and_true, true_and, and_false, false_and, and_self, not_true_eq_false, not_false_eq_true], by simp only [op_alter, hs_4, c_20, c_39, reduceIte, Bool.false_eq_true, and_true, true_and, and_false, false_and, and_self, not_true_eq_false, not_false_eq_true]; exact hH, sc_F.rf⟩)
      · have c_20 : sp_is 4 = false := by rw [← c_39]; exact c_20
        refine xl (fun _ => lv_iload hx hb dX1_alter_42 (lv_at hl 5 rfl)) ?_
        refine x_callS E hl (c_X1_isKind l G H v) xm_yX1_isKind wMX1_56 wS_yX1_isKind (rest := []) rfl (by decide) (by decide) ⟨by decide, by decide⟩ dX1_alter_44 (x_pure (r := .int (bI (sp_ik v))) (st1 := []) ?_)
        refine xb (fun _ => lv_if_eq (tgt := 63) hx hb dX1_alter_47 (by decide)) (fun c_47 => ?_) (fun c_47 => ?_)
        · have c_47 := bI_f c_47
          refine xl (fun _ => lv_iconst (v := (-1)) hx hb dX1_alter_63 (by decide)) ?_
          exact x_iret hx hb hr hlocks hs0 hbs (by decide) (by decide) dX1_alter_64 (⟨by simp only [op_alter, hs_4, c_20, c_39, c_47, reduceIte, Bool.false_eq_true, and_true, true_and, and_false, false_and, and_self, not_true_eq_false, not_false_eq_true], by simp only [op_alter, hs_4, c_20, c_39, c_47, reduceIte, Bool.false_eq_true, and_true, true_and, and_false, false_and, and_self, not_true_eq_false, not_false_eq_true]; exact hH, sc_F.rf⟩)
        · have c_47 := bI_t c_47
          refine xl (fun _ => lv_aload_n hx hb dX1_alter_50 rfl (lv_at hl 1 rfl)) ?_
          refine xl (fun _ => lv_iload_n hx hb dX1_alter_51 rfl (lv_at hl 2 rfl)) ?_
          refine xl (fun _ => lv_aload hx hb dX1_alter_52 (lv_at hl 0 rfl)) ?_
          refine xl (fun _ => lv_iload hx hb dX1_alter_54 (lv_at hl 5 rfl)) ?_
          refine x_callV E hl (c_X0_withLabel l G H (ta i) (na i) (pa i) _ _ _ _ _ (hT i hi).2.2.2.1 v) xm_yX0_withLabel wMX1_65 wI_yX0_withLabel wT_yX0_withLabel (ci := 0) rfl rfl ((hT i hi).2.2.2.1) (rest := [.int r, .ref b]) rfl (by simp [cat_rf, cat_int, cat_ref, cat_null]) (by decide) ⟨by decide, by decide⟩ dX1_alter_56 (fun v_1 H_2 hp_3 hz_4 hq_5 => ?_)
          obtain ⟨rfl, ht1, ht3, ht4⟩ := hp_3
          obtain ⟨hV1, hF1, hne0⟩ := sc_more hV (by omega) ht4
          have hne1 := hne0 H.size (by omega)
          obtain ⟨fc1, hC1, hfI1⟩ := id hV1
          obtain ⟨-, -, -, -, -, hX1, -⟩ := id hC1
          have h7 := (sp_rs_of hs_4).2
          rw [h7] at ht1
          have hO1 : sc_O G H_2 b lo ta (7, v, sp_nu (t i), sp_pa (t i)) H.size (na i) (pa i) 0 false false := ⟨hlo, (hT i hi).2.1, (hT i hi).2.2.1, ht1, va_at.kept (H1 := H_2) (hT i hi).2.2.2.2.1 (ht4 _ (va_at.lt (hT i hi).2.2.2.2.1)), va_at.kept (H1 := H_2) (hT i hi).2.2.2.2.2 (ht4 _ (va_at.lt (hT i hi).2.2.2.2.2))⟩
          refine xg (g2 := F0 m 59 ls [.ref H.size, .int r, .ref b]) rfl ?_
          refine x_callV E hl (c_X1_makeInto l G H_2 b lo n t rg ta na pa dv g hV1 hD hg (7, v, sp_nu (t i), sp_pa (t i)) H.size (na i) (pa i) hO1 hne1 (wf_row (sp_ik_of c_47) (sc_bd hC i hi)) hn1 r) xm_yX1_makeInto wMX1_33 wI_yX1_makeInto wT_yX1_makeInto (ci := 1) rfl rfl hX1 (rest := []) rfl (by decide) (by decide) ⟨by decide, by decide⟩ dX1_alter_59 (fun v_6 H_7 hp_8 hz_9 hq_10 => ?_)
          obtain ⟨rfl, hH2, hF2, hS2⟩ := hp_8
          refine xg (g2 := F0 m 62 ls [.int (sp_mi (n, t, rg, g) r (7, v, sp_nu (t i), sp_pa (t i))).1]) rfl ?_
          exact x_iret hx hb hr hlocks hs0 hbs (by decide) (by decide) dX1_alter_62 (⟨by simp only [op_alter, hs_4, c_20, c_39, c_47, reduceIte, Bool.false_eq_true, and_true, true_and, and_false, false_and, and_self, not_true_eq_false, not_false_eq_true], by simp only [op_alter, hs_4, c_20, c_39, c_47, reduceIte, Bool.false_eq_true, and_true, true_and, and_false, false_and, and_self, not_true_eq_false, not_false_eq_true]; exact hH2, hF1.tr hF2⟩)
    · have c_20 := bI_t c_20
      obtain ⟨j, hj, rfl⟩ := sp_is_of c_20
      have hcl : (nI j).toNatClampNeg = j := nI_clamp (by omega)
      refine xl (fun _ => lv_aload_n hx hb dX1_alter_23 rfl (lv_at hl 1 rfl)) ?_
      refine xl (fun _ => lv_iload_n hx hb dX1_alter_24 rfl (lv_at hl 2 rfl)) ?_
      refine xl (fun _ => lv_aload hx hb dX1_alter_25 (lv_at hl 0 rfl)) ?_
      refine xl (fun _ => lv_iload_n hx hb dX1_alter_27 rfl (lv_at hl 4 rfl)) ?_
      refine xl (fun _ => lv_iload hx hb dX1_alter_28 (lv_at hl 5 rfl)) ?_
      refine x_callV E hl (c_X0_withNumber l G H (ta i) (na i) (pa i) _ _ _ _ _ _ (hT i hi).2.2.2.1 (hT i hi).2.2.2.2.1 j hj v) xm_yX0_withNumber wMX1_62 wI_yX0_withNumber wT_yX0_withNumber (ci := 0) rfl rfl ((hT i hi).2.2.2.1) (rest := [.int r, .ref b]) rfl (by simp [cat_rf, cat_int, cat_ref, cat_null]) (by decide) ⟨by decide, by decide⟩ dX1_alter_30 (fun v_11 H_12 hp_13 hz_14 hq_15 => ?_)
      obtain ⟨rfl, ht1, ht2, ht3, ht4⟩ := hp_13
      obtain ⟨hV1, hF1, hne0⟩ := sc_more hV (by omega) ht4
      have hne1 := hne0 (H.size + 1) (by omega)
      obtain ⟨fc1, hC1, hfI1⟩ := id hV1
      obtain ⟨-, -, -, -, -, hX1, -⟩ := id hC1
      have h7 := (sp_rs_of hs_4).2
      rw [h7] at ht1
      have hO1 : sc_O G H_12 b lo ta (7, sp_la (t i), upd (sp_nu (t i)) j v, sp_pa (t i)) (H.size + 1) H.size (pa i) 0 false false := ⟨by omega, Or.inr hlo, (hT i hi).2.2.1, ht1, ht2, va_at.kept (H1 := H_12) (hT i hi).2.2.2.2.2 (ht4 _ (va_at.lt (hT i hi).2.2.2.2.2))⟩
      refine xg (g2 := F0 m 33 ls [.ref (H.size + 1), .int r, .ref b]) rfl ?_
      refine x_callV E hl (c_X1_makeInto l G H_12 b lo n t rg ta na pa dv g hV1 hD hg (7, sp_la (t i), upd (sp_nu (t i)) j v, sp_pa (t i)) (H.size + 1) H.size (pa i) hO1 hne1 (wf_row (sp_wf7 (hwf i hi) h7) (sc_bd hC i hi)) hn1 r) xm_yX1_makeInto wMX1_33 wI_yX1_makeInto wT_yX1_makeInto (ci := 1) rfl rfl hX1 (rest := []) rfl (by decide) (by decide) ⟨by decide, by decide⟩ dX1_alter_33 (fun v_16 H_17 hp_18 hz_19 hq_20 => ?_)
      obtain ⟨rfl, hH2, hF2, hS2⟩ := hp_18
      refine xg (g2 := F0 m 36 ls [.int (sp_mi (n, t, rg, g) r (7, sp_la (t i), upd (sp_nu (t i)) j v, sp_pa (t i))).1]) rfl ?_
      exact x_iret hx hb hr hlocks hs0 hbs (by decide) (by decide) dX1_alter_36 (⟨by simp only [op_alter, hs_4, c_20, hcl, reduceIte, Bool.false_eq_true, and_true, true_and, and_false, false_and, and_self, not_true_eq_false, not_false_eq_true], by simp only [op_alter, hs_4, c_20, hcl, reduceIte, Bool.false_eq_true, and_true, true_and, and_false, false_and, and_self, not_true_eq_false, not_false_eq_true]; exact hH2, hF1.tr hF2⟩)

theorem va_up_map (f : Nat → Nat) (p : Nat → Option Nat) (j : Nat) (o : Option Nat) (q : Nat) : va_up (fun k => (p k).map f) j (o.map f) q = (va_up p j o q).map f := by
  by_cases e : q = j
  · subst e; rw [va_up_self, va_up_self]
  · rw [va_up_ne _ _ e, va_up_ne _ _ e]
theorem bd_up {n j : Nat} {p : Nat → Option Nat} {o : Option Nat} (hp : ∀ q, q < 4 → ∀ x, p q = some x → x < n) (ho : ∀ x, o = some x → x < n) : ∀ q, q < 4 → ∀ x, va_up p j o q = some x → x < n := by
  intro q hq x e
  by_cases h : q = j
  · subst h; rw [va_up_self] at e; exact ho x e
  · rw [va_up_ne _ _ h] at e; exact hp q hq x e

set_option maxHeartbeats 4000000 in
set_option maxRecDepth 100000 in
theorem c_X1_swap (l : Launch) (G : sg_G) (H : Heap) (b lo n : Nat) (t : Nat → sp_T) (rg : Nat → Option Nat) (g : Nat → Prop) (hH : sc_H G b lo n t rg g H) (hn1 : n < 512) (r x k y : Int32) : xC l G yX1_swap cX1_swap 6 (some FieldType.int) 5 2 11 [.ref b, .int r, .int x, .int k, .int y] H (fun ans H' => ans = some (.int (op_swap (n, t, rg, g) r x k y).1) ∧ sc_HS G b lo (op_swap (n, t, rg, g) r x k y).2 H' ∧ sc_F b lo H H') := by
  refine xC.start (by decide) (Nat.le_of_ble_eq_true rfl) ?_
  intro p e s m args below meth c ls E hnm hs0 hl
  obtain ⟨hx, hb, hml, hown, hts, hr, hlocks, hK, hbs⟩ := id E
  have hl : lv_has ls 6 [(0, .ref b), (1, .int r), (2, .int x), (3, .int k), (4, .int y)] := hl
  obtain ⟨ta, na, pa, dv, hV, hD, hg⟩ := id hH
  obtain ⟨fc, hC, hfI⟩ := id hV
  obtain ⟨hw, hb0, hb4, hlo, hn5, hX, hRG, hMD, hZR, hT, hrg, hwf⟩ := id hC
  have hFF : sc_F b lo H H := sc_F.rf
  have hSS : H.size = H.size := rfl
  refine xl (fun _ => lv_aload_n hx hb dX1_swap_0 rfl (lv_at hl 0 rfl)) ?_
  refine xl (fun _ => lv_iload_n hx hb dX1_swap_1 rfl (lv_at hl 2 rfl)) ?_
  refine xl (fun _ => lv_bipush (v := 7) hx hb dX1_swap_2 (by decide)) ?_
  rcases hs_4 : sp_rs t rg x 7 with _ | i
  · refine x_callV E hl (c_X1_termOfSort_n l G H b lo n _ t dv fc rg ta na pa hC x 7 hs_4) xm_yX1_termOfSort wMX1_37 wI_yX1_termOfSort wT_yX1_termOfSort (ci := 1) rfl rfl hX (rest := []) rfl (by decide) (by decide) ⟨by decide, by decide⟩ dX1_swap_4 (x_pure (r := .null) (st1 := []) ?_)
    refine xs (fun _ => lv_astoreN (i := 5) (lv' := [(5, .null), (0, .ref b), (1, .int r), (2, .int x), (3, .int k), (4, .int y)]) hx hb dX1_swap_7 hl (by decide) (rfl)) (fun ls hl => ?_)
    refine xl (fun _ => lv_aloadN hx hb dX1_swap_9 (lv_at hl 0 rfl)) ?_
    refine xl (fun _ => lv_ifnullN (tgt := 30) hx hb dX1_swap_11 (by decide)) ?_
    refine xl (fun _ => lv_iconst (v := (-1)) hx hb dX1_swap_30 (by decide)) ?_
    exact x_iret hx hb hr hlocks hs0 hbs (by decide) (by decide) dX1_swap_31 (⟨by simp only [op_swap, hs_4, reduceIte, Bool.false_eq_true, and_true, true_and, and_false, false_and, and_self, not_true_eq_false, not_false_eq_true], by simp only [op_swap, hs_4, reduceIte, Bool.false_eq_true, and_true, true_and, and_false, false_and, and_self, not_true_eq_false, not_false_eq_true]; exact hH, sc_F.rf⟩)
  · have hi := sp_rg_lt hrg (sp_rs_of hs_4).1
    refine x_callV E hl (c_X1_termOfSort_s l G H b lo n _ t dv fc rg ta na pa hC x 7 hs_4) xm_yX1_termOfSort wMX1_37 wI_yX1_termOfSort wT_yX1_termOfSort (ci := 1) rfl rfl hX (rest := []) rfl (by decide) (by decide) ⟨by decide, by decide⟩ dX1_swap_4 (x_pure (r := .ref (ta i)) (st1 := []) ?_)
    refine xs (fun _ => lv_astore (i := 5) (lv' := [(5, .ref (ta i)), (0, .ref b), (1, .int r), (2, .int x), (3, .int k), (4, .int y)]) hx hb dX1_swap_7 hl (by decide) (rfl)) (fun ls hl => ?_)
    refine xl (fun _ => lv_aload hx hb dX1_swap_9 (lv_at hl 0 rfl)) ?_
    refine xl (fun _ => lv_ifnull hx hb dX1_swap_11) ?_
    refine xl (fun _ => lv_iload_n hx hb dX1_swap_14 rfl (lv_at hl 4 rfl)) ?_
    refine x_callS E hl (c_X1_isSlot l G H k) xm_yX1_isSlot wMX1_59 wS_yX1_isSlot (rest := []) rfl (by decide) (by decide) ⟨by decide, by decide⟩ dX1_swap_15 (x_pure (r := .int (bI (sp_is k))) (st1 := []) ?_)
    refine xb (fun _ => lv_if_eq (tgt := 30) hx hb dX1_swap_18 (by decide)) (fun c_18 => ?_) (fun c_18 => ?_)
    · have c_18 := bI_f c_18
      refine xl (fun _ => lv_iconst (v := (-1)) hx hb dX1_swap_30 (by decide)) ?_
      exact x_iret hx hb hr hlocks hs0 hbs (by decide) (by decide) dX1_swap_31 (⟨by simp only [op_swap, hs_4, c_18, reduceIte, Bool.false_eq_true, and_true, true_and, and_false, false_and, and_self, not_true_eq_false, not_false_eq_true], by simp only [op_swap, hs_4, c_18, reduceIte, Bool.false_eq_true, and_true, true_and, and_false, false_and, and_self, not_true_eq_false, not_false_eq_true]; exact hH, sc_F.rf⟩)
    · have c_18 := bI_t c_18
      obtain ⟨j, hj, rfl⟩ := sp_is_of c_18
      have hcl : (nI j).toNatClampNeg = j := nI_clamp (by omega)
      refine xl (fun _ => lv_aload_n hx hb dX1_swap_21 rfl (lv_at hl 1 rfl)) ?_
      refine xl (fun _ => lv_iload hx hb dX1_swap_22 (lv_at hl 5 rfl)) ?_
      refine x_callV E hl (c_X1_isTermOrNothing l G H b lo n _ t dv fc rg ta na pa hC y) xm_yX1_isTermOrNothing wMX1_52 wI_yX1_isTermOrNothing wT_yX1_isTermOrNothing (ci := 1) rfl rfl hX (rest := []) rfl (by decide) (by decide) ⟨by decide, by decide⟩ dX1_swap_24 (x_pure (r := .int (bI (sp_tn rg y))) (st1 := []) ?_)
      refine xb (fun _ => lv_if_ne (tgt := 32) hx hb dX1_swap_27 (by decide)) (fun c_27 => ?_) (fun c_27 => ?_)
      · have c_27 := bI_t c_27
        refine xl (fun _ => lv_aload_n hx hb dX1_swap_32 rfl (lv_at hl 1 rfl)) ?_
        refine xl (fun _ => lv_iload_n hx hb dX1_swap_33 rfl (lv_at hl 2 rfl)) ?_
        refine xl (fun _ => lv_aload hx hb dX1_swap_34 (lv_at hl 0 rfl)) ?_
        refine xl (fun _ => lv_iload_n hx hb dX1_swap_36 rfl (lv_at hl 4 rfl)) ?_
        refine xl (fun _ => lv_aload_n hx hb dX1_swap_37 rfl (lv_at hl 1 rfl)) ?_
        refine xl (fun _ => lv_iload hx hb dX1_swap_38 (lv_at hl 5 rfl)) ?_
        refine x_callV E hl (c_X1_termIn l G H b lo n _ t dv fc rg ta na pa hC y) xm_yX1_termIn wMX1_49 wI_yX1_termIn wT_yX1_termIn (ci := 1) rfl rfl hX (rest := [.int (nI j), .ref (ta i), .int r, .ref b]) rfl (by simp [cat_rf, cat_int, cat_ref, cat_null]) (by decide) ⟨by decide, by decide⟩ dX1_swap_40 (x_pure (r := va_rf (Option.map ta (sp_rg rg y))) (st1 := []) ?_)
        refine x_callV E hl (c_X0_withPart l G H (ta i) (na i) (pa i) _ _ _ _ _ (fun k => (sp_pa (t i) k).map ta) (hT i hi).2.2.2.1 (hT i hi).2.2.2.2.2 (fun q hq => sc_obo hC (sc_bd hC i hi q hq)) j hj (Option.map ta (sp_rg rg y)) (sc_obo hC (fun j e => sp_rg_lt hrg e))) xm_yX0_withPart wMX1_68 wI_yX0_withPart wT_yX0_withPart (ci := 0) rfl rfl ((hT i hi).2.2.2.1) (rest := [.int r, .ref b]) rfl (by simp [cat_rf, cat_int, cat_ref, cat_null]) (by decide) ⟨by decide, by decide⟩ dX1_swap_43 (fun v_1 H_2 hp_3 hz_4 hq_5 => ?_)
        obtain ⟨rfl, ht1, ht2, ht3, ht4⟩ := hp_3
        obtain ⟨hV1, hF1, hne0⟩ := sc_more hV (by omega) ht4
        have hne1 := hne0 (H.size + 1) (by omega)
        obtain ⟨fc1, hC1, hfI1⟩ := id hV1
        obtain ⟨-, -, -, -, -, hX1, -⟩ := id hC1
        have h7 := (sp_rs_of hs_4).2
        rw [h7] at ht1
        have hO1 : sc_O G H_2 b lo ta (7, sp_la (t i), sp_nu (t i), va_up (sp_pa (t i)) j (sp_rg rg y)) (H.size + 1) (na i) H.size 0 false false := ⟨by omega, (hT i hi).2.1, hlo, ht1, va_at.kept (H1 := H_2) (hT i hi).2.2.2.2.1 (ht4 _ (va_at.lt (hT i hi).2.2.2.2.1)), ra_to ht2 (fun q _ => va_up_map ta (sp_pa (t i)) j (sp_rg rg y) q)⟩
        refine xg (g2 := F0 m 46 ls [.ref (H.size + 1), .int r, .ref b]) rfl ?_
        refine x_callV E hl (c_X1_makeInto l G H_2 b lo n t rg ta na pa dv g hV1 hD hg (7, sp_la (t i), sp_nu (t i), va_up (sp_pa (t i)) j (sp_rg rg y)) (H.size + 1) (na i) H.size hO1 hne1 (wf_row (sp_wf7 (hwf i hi) h7) (bd_up (sc_bd hC i hi) (fun x e => sp_rg_lt hrg e))) hn1 r) xm_yX1_makeInto wMX1_33 wI_yX1_makeInto wT_yX1_makeInto (ci := 1) rfl rfl hX1 (rest := []) rfl (by decide) (by decide) ⟨by decide, by decide⟩ dX1_swap_46 (fun v_6 H_7 hp_8 hz_9 hq_10 => ?_)
        obtain ⟨rfl, hH2, hF2, hS2⟩ := hp_8
        refine xg (g2 := F0 m 49 ls [.int (sp_mi (n, t, rg, g) r (7, sp_la (t i), sp_nu (t i), va_up (sp_pa (t i)) j (sp_rg rg y))).1]) rfl ?_
        exact x_iret hx hb hr hlocks hs0 hbs (by decide) (by decide) dX1_swap_49 (⟨by simp only [op_swap, hs_4, c_18, c_27, hcl, reduceIte, Bool.false_eq_true, and_true, true_and, and_false, false_and, and_self, not_true_eq_false, not_false_eq_true], by simp only [op_swap, hs_4, c_18, c_27, hcl, reduceIte, Bool.false_eq_true, and_true, true_and, and_false, false_and, and_self, not_true_eq_false, not_false_eq_true]; exact hH2, hF1.tr hF2⟩)
      · have c_27 := bI_f c_27
        refine xl (fun _ => lv_iconst (v := (-1)) hx hb dX1_swap_30 (by decide)) ?_
        exact x_iret hx hb hr hlocks hs0 hbs (by decide) (by decide) dX1_swap_31 (⟨by simp only [op_swap, hs_4, c_18, c_27, hcl, reduceIte, Bool.false_eq_true, and_true, true_and, and_false, false_and, and_self, not_true_eq_false, not_false_eq_true], by simp only [op_swap, hs_4, c_18, c_27, hcl, reduceIte, Bool.false_eq_true, and_true, true_and, and_false, false_and, and_self, not_true_eq_false, not_false_eq_true]; exact hH, sc_F.rf⟩)

set_option maxHeartbeats 4000000 in
set_option maxRecDepth 100000 in
theorem c_X1_part (l : Launch) (G : sg_G) (H : Heap) (b lo n : Nat) (t : Nat → sp_T) (rg : Nat → Option Nat) (g : Nat → Prop) (hH : sc_H G b lo n t rg g H) (r x w : Int32) : xC l G yX1_part cX1_part 5 (some FieldType.int) 3 0 0 [.ref b, .int r, .int x, .int w] H (fun ans H' => ans = some (.int (op_part (n, t, rg, g) r x w).1) ∧ sc_HS G b lo (op_part (n, t, rg, g) r x w).2 H' ∧ sc_F b lo H H') := by
  refine xC.start (by decide) (Nat.le_of_ble_eq_true rfl) ?_
  intro p e s m args below meth c ls E hnm hs0 hl
  obtain ⟨hx, hb, hml, hown, hts, hr, hlocks, hK, hbs⟩ := id E
  have hl : lv_has ls 5 [(0, .ref b), (1, .int r), (2, .int x), (3, .int w)] := hl
  obtain ⟨ta, na, pa, dv, hV, hD, hg⟩ := id hH
  obtain ⟨fc, hC, hfI⟩ := id hV
  obtain ⟨hw, hb0, hb4, hlo, hn5, hX, hRG, hMD, hZR, hT, hrg, hwf⟩ := id hC
  have hFF : sc_F b lo H H := sc_F.rf
  have hSS : H.size = H.size := rfl
  refine xl (fun _ => lv_aload_n hx hb dX1_part_0 rfl (lv_at hl 0 rfl)) ?_
  refine xl (fun _ => lv_iload_n hx hb dX1_part_1 rfl (lv_at hl 2 rfl)) ?_
  rcases hs_2 : sp_rg rg x with _ | i
  · refine x_callV E hl (c_X1_termIn_n l G H b lo n _ t dv fc rg ta na pa hC x hs_2) xm_yX1_termIn wMX1_49 wI_yX1_termIn wT_yX1_termIn (ci := 1) rfl rfl hX (rest := []) rfl (by decide) (by decide) ⟨by decide, by decide⟩ dX1_part_2 (x_pure (r := .null) (st1 := []) ?_)
    refine xs (fun _ => lv_astoreN (i := 4) (lv' := [(4, .null), (0, .ref b), (1, .int r), (2, .int x), (3, .int w)]) hx hb dX1_part_5 hl (by decide) (rfl)) (fun ls hl => ?_)
    refine xl (fun _ => lv_aloadN hx hb dX1_part_7 (lv_at hl 0 rfl)) ?_
    refine xl (fun _ => lv_ifnullN (tgt := 32) hx hb dX1_part_9 (by decide)) ?_
    refine xl (fun _ => lv_iconst (v := (-1)) hx hb dX1_part_32 (by decide)) ?_
    exact x_iret hx hb hr hlocks hs0 hbs (by decide) (by decide) dX1_part_33 (⟨by simp only [op_part, hs_2, reduceIte, Bool.false_eq_true, and_true, true_and, and_false, false_and, and_self, not_true_eq_false, not_false_eq_true], by simp only [op_part, hs_2, reduceIte, Bool.false_eq_true, and_true, true_and, and_false, false_and, and_self, not_true_eq_false, not_false_eq_true]; exact hH, sc_F.rf⟩)
  · have hi := sp_rg_lt hrg hs_2
    refine x_callV E hl (c_X1_termIn_s l G H b lo n _ t dv fc rg ta na pa hC x hs_2) xm_yX1_termIn wMX1_49 wI_yX1_termIn wT_yX1_termIn (ci := 1) rfl rfl hX (rest := []) rfl (by decide) (by decide) ⟨by decide, by decide⟩ dX1_part_2 (x_pure (r := .ref (ta i)) (st1 := []) ?_)
    refine xs (fun _ => lv_astore (i := 4) (lv' := [(4, .ref (ta i)), (0, .ref b), (1, .int r), (2, .int x), (3, .int w)]) hx hb dX1_part_5 hl (by decide) (rfl)) (fun ls hl => ?_)
    refine xl (fun _ => lv_aload hx hb dX1_part_7 (lv_at hl 0 rfl)) ?_
    refine xl (fun _ => lv_ifnull hx hb dX1_part_9) ?_
    refine xl (fun _ => lv_iload_n hx hb dX1_part_12 rfl (lv_at hl 4 rfl)) ?_
    refine xb (fun _ => lv_if_lt (tgt := 32) hx hb dX1_part_13 (by decide)) (fun c_13 => ?_) (fun c_13 => ?_)
    · refine xl (fun _ => lv_iconst (v := (-1)) hx hb dX1_part_32 (by decide)) ?_
      exact x_iret hx hb hr hlocks hs0 hbs (by decide) (by decide) dX1_part_33 (⟨by simp only [op_part, hs_2, c_13, reduceIte, Bool.false_eq_true, and_true, true_and, and_false, false_and, and_self, not_true_eq_false, not_false_eq_true], by simp only [op_part, hs_2, c_13, reduceIte, Bool.false_eq_true, and_true, true_and, and_false, false_and, and_self, not_true_eq_false, not_false_eq_true]; exact hH, sc_F.rf⟩)
    · refine xl (fun _ => lv_iload_n hx hb dX1_part_16 rfl (lv_at hl 4 rfl)) ?_
      refine x_gets hx hb hts hown hK 0 (by decide) wFX1_72 dX1_part_17 ?_
      refine x_tlen hx hb hK 0 (by decide) dX1_part_20 ?_
      refine xb (fun _ => lv_icmp_ge (tgt := 32) hx hb dX1_part_21 (by decide)) (fun c_21 => ?_) (fun c_21 => ?_)
      · have c_21 : 10 ≤ w := c_21
        refine xl (fun _ => lv_iconst (v := (-1)) hx hb dX1_part_32 (by decide)) ?_
        exact x_iret hx hb hr hlocks hs0 hbs (by decide) (by decide) dX1_part_33 (⟨by simp only [op_part, hs_2, c_13, c_21, reduceIte, Bool.false_eq_true, and_true, true_and, and_false, false_and, and_self, not_true_eq_false, not_false_eq_true], by simp only [op_part, hs_2, c_13, c_21, reduceIte, Bool.false_eq_true, and_true, true_and, and_false, false_and, and_self, not_true_eq_false, not_false_eq_true]; exact hH, sc_F.rf⟩)
      · have c_21 : ¬ 10 ≤ w := c_21
        refine xl (fun _ => lv_iload_n hx hb dX1_part_24 rfl (lv_at hl 4 rfl)) ?_
        refine x_gets hx hb hts hown hK 1 (by decide) wFX1_75 dX1_part_25 ?_
        refine x_tlen hx hb hK 1 (by decide) dX1_part_28 ?_
        refine xb (fun _ => lv_icmp_lt (tgt := 34) hx hb dX1_part_29 (by decide)) (fun c_29 => ?_) (fun c_29 => ?_)
        · obtain ⟨j, hj, rfl⟩ : ∃ j, j < 10 ∧ w = nI j := by
            rcases pk_ix w (n := 10) (by decide) with a | a | a
            · exact absurd a c_13
            · exact absurd a c_21
            · exact a
          have hcl : (nI j).toNatClampNeg = j := nI_clamp (by omega)
          have hsl := sp_sl_ok j hj
          refine xl (fun _ => lv_aload hx hb dX1_part_34 (lv_at hl 0 rfl)) ?_
          refine x_get (ci := 0) hx hb hts hown hK wiX0 ((hT i hi).2.2.2.1) rfl 0 (by decide) wFX1_78 rfl rfl dX1_part_36 ?_
          refine x_gets hx hb hts hown hK 0 (by decide) wFX1_72 dX1_part_39 ?_
          refine xl (fun _ => lv_iload_n hx hb dX1_part_42 rfl (lv_at hl 4 rfl)) ?_
          refine x_tald hx hb hK 0 (by decide) j (rfl) (by show _ < 10; omega) (by decide) dX1_part_43 ?_
          refine xb (fun _ => lv_icmp_eq (tgt := 49) hx hb dX1_part_44 (by decide)) (fun c_44 => ?_) (fun c_44 => ?_)
          · refine xl (fun _ => lv_aload_n hx hb dX1_part_49 rfl (lv_at hl 1 rfl)) ?_
            refine xl (fun _ => lv_iload_n hx hb dX1_part_50 rfl (lv_at hl 2 rfl)) ?_
            refine xl (fun _ => lv_aload hx hb dX1_part_51 (lv_at hl 0 rfl)) ?_
            refine x_gets hx hb hts hown hK 1 (by decide) wFX1_75 dX1_part_53 ?_
            refine xl (fun _ => lv_iload_n hx hb dX1_part_56 rfl (lv_at hl 4 rfl)) ?_
            refine x_tald hx hb hK 1 (by decide) j (rfl) (by show _ < 10; omega) (by decide) dX1_part_57 ?_
            rw [hsl.1]
            rcases hs_58 : sp_pa (t i) (sp_sl j) with _ | k
            · refine x_callV E hl (show xC l G yX0_partAt cX0_partAt 2 (some (.object "TermSpread$Term")) 0 0 0 [.ref (ta i), .int (nI (sp_sl j))] H (xPu .null H) from by have q := c_X0_partAt l G H (ta i) (na i) (pa i) _ _ _ _ _ _ (hT i hi).2.2.2.1 (hT i hi).2.2.2.2.2 (sp_sl j) hsl.2; rw [hs_58] at q; exact q) xm_yX0_partAt wMX1_45 wI_yX0_partAt wT_yX0_partAt (ci := 0) rfl rfl ((hT i hi).2.2.2.1) (rest := [.int r, .ref b]) rfl (by simp [cat_rf, cat_int, cat_ref, cat_null]) (by decide) ⟨by decide, by decide⟩ dX1_part_58 (x_pure (r := .null) (st1 := []) ?_)
              refine x_callV E hl (c_X1_putInto_n l G H b lo n t rg ta na pa dv hV r) xm_yX1_putInto wMX1_81 wI_yX1_putInto wT_yX1_putInto (ci := 1) rfl rfl hX (rest := []) rfl (by decide) (by decide) ⟨by decide, by decide⟩ dX1_part_61 (fun v_1 H_2 hp_3 hz_4 hq_5 => ?_)
              obtain ⟨rfl, rfl⟩ := hp_3
              refine xg (g2 := F0 m 64 ls [.int (-1)]) rfl ?_
              exact x_iret hx hb hr hlocks hs0 hbs (by decide) (by decide) dX1_part_64 (⟨by simp only [op_part, hs_2, c_13, c_21, hcl, c_44, hs_58, reduceIte, Bool.false_eq_true, and_true, true_and, and_false, false_and, and_self, not_true_eq_false, not_false_eq_true], by simp only [op_part, hs_2, c_13, c_21, hcl, c_44, hs_58, reduceIte, Bool.false_eq_true, and_true, true_and, and_false, false_and, and_self, not_true_eq_false, not_false_eq_true]; exact hH, sc_F.rf⟩)
            · have hk := sc_bd hC i hi (sp_sl j) hsl.2 k hs_58
              refine x_callV E hl (show xC l G yX0_partAt cX0_partAt 2 (some (.object "TermSpread$Term")) 0 0 0 [.ref (ta i), .int (nI (sp_sl j))] H (xPu (.ref (ta k)) H) from by have q := c_X0_partAt l G H (ta i) (na i) (pa i) _ _ _ _ _ _ (hT i hi).2.2.2.1 (hT i hi).2.2.2.2.2 (sp_sl j) hsl.2; rw [hs_58] at q; exact q) xm_yX0_partAt wMX1_45 wI_yX0_partAt wT_yX0_partAt (ci := 0) rfl rfl ((hT i hi).2.2.2.1) (rest := [.int r, .ref b]) rfl (by simp [cat_rf, cat_int, cat_ref, cat_null]) (by decide) ⟨by decide, by decide⟩ dX1_part_58 (x_pure (r := .ref (ta k)) (st1 := []) ?_)
              refine x_callV E hl (c_X1_putInto l G H b lo n t rg ta na pa dv hV r k hk) xm_yX1_putInto wMX1_81 wI_yX1_putInto wT_yX1_putInto (ci := 1) rfl rfl hX (rest := []) rfl (by decide) (by decide) ⟨by decide, by decide⟩ dX1_part_61 (fun v_6 H_7 hp_8 hz_9 hq_10 => ?_)
              obtain ⟨rfl, hV2, hF2, hS2⟩ := hp_8
              refine xg (g2 := F0 m 64 ls [.int (sp_r1 r)]) rfl ?_
              exact x_iret hx hb hr hlocks hs0 hbs (by decide) (by decide) dX1_part_64 (⟨by simp only [op_part, hs_2, c_13, c_21, hcl, c_44, hs_58, reduceIte, Bool.false_eq_true, and_true, true_and, and_false, false_and, and_self, not_true_eq_false, not_false_eq_true], by simp only [op_part, hs_2, c_13, c_21, hcl, c_44, hs_58, reduceIte, Bool.false_eq_true, and_true, true_and, and_false, false_and, and_self, not_true_eq_false, not_false_eq_true]; exact ⟨ta, na, pa, dv, hV2, hD, hg⟩, hF2⟩)
          · refine xl (fun _ => lv_iconst (v := (-1)) hx hb dX1_part_47 (by decide)) ?_
            exact x_iret hx hb hr hlocks hs0 hbs (by decide) (by decide) dX1_part_48 (⟨by simp only [op_part, hs_2, c_13, c_21, hcl, c_44, reduceIte, Bool.false_eq_true, and_true, true_and, and_false, false_and, and_self, not_true_eq_false, not_false_eq_true], by simp only [op_part, hs_2, c_13, c_21, hcl, c_44, reduceIte, Bool.false_eq_true, and_true, true_and, and_false, false_and, and_self, not_true_eq_false, not_false_eq_true]; exact hH, sc_F.rf⟩)
        · exact absurd (Int32.not_le.mp c_21) c_29

set_option maxHeartbeats 4000000 in
set_option maxRecDepth 100000 in
theorem c_X1_give (l : Launch) (G : sg_G) (H : Heap) (b lo n : Nat) (t : Nat → sp_T) (rg : Nat → Option Nat) (g : Nat → Prop) (hH : sc_H G b lo n t rg g H) (x : Int32) : xC l G yX1_give cX1_give 4 (some FieldType.int) 5 0 0 [.ref b, .int x] H (fun ans H' => ans = some (.int (op_give (n, t, rg, g) x).1) ∧ sc_HS G b lo (op_give (n, t, rg, g) x).2 H' ∧ sc_F b lo H H') := by
  refine xC.start (by decide) (Nat.le_of_ble_eq_true rfl) ?_
  intro p e s m args below meth c ls E hnm hs0 hl
  obtain ⟨hx, hb, hml, hown, hts, hr, hlocks, hK, hbs⟩ := id E
  have hl : lv_has ls 4 [(0, .ref b), (1, .int x)] := hl
  obtain ⟨ta, na, pa, dv, hV, hD, hg⟩ := id hH
  obtain ⟨fc, hC, hfI⟩ := id hV
  obtain ⟨hw, hb0, hb4, hlo, hn5, hX, hRG, hMD, hZR, hT, hrg, hwf⟩ := id hC
  have hFF : sc_F b lo H H := sc_F.rf
  have hSS : H.size = H.size := rfl
  refine xl (fun _ => lv_aload_n hx hb dX1_give_0 rfl (lv_at hl 0 rfl)) ?_
  refine xl (fun _ => lv_iload_n hx hb dX1_give_1 rfl (lv_at hl 1 rfl)) ?_
  rcases hs_2 : sp_rg rg x with _ | i
  · refine x_callV E hl (c_X1_termIn_n l G H b lo n _ t dv fc rg ta na pa hC x hs_2) xm_yX1_termIn wMX1_49 wI_yX1_termIn wT_yX1_termIn (ci := 1) rfl rfl hX (rest := []) rfl (by decide) (by decide) ⟨by decide, by decide⟩ dX1_give_2 (x_pure (r := .null) (st1 := []) ?_)
    refine xs (fun _ => lv_astore_nN (i := 2) (lv' := [(2, .null), (0, .ref b), (1, .int x)]) hx hb dX1_give_5 rfl hl (by decide) (rfl)) (fun ls hl => ?_)
    refine xl (fun _ => lv_aload_nN hx hb dX1_give_6 rfl (lv_at hl 0 rfl)) ?_
    refine xl (fun _ => lv_ifnonnullN hx hb dX1_give_7) ?_
    refine xl (fun _ => lv_iconst (v := (-1)) hx hb dX1_give_10 (by decide)) ?_
    exact x_iret hx hb hr hlocks hs0 hbs (by decide) (by decide) dX1_give_11 (⟨by simp only [op_give, hs_2], by simp only [op_give, hs_2]; exact hH, sc_F.rf⟩)
  · have hi := sp_rg_lt hrg hs_2
    refine x_callV E hl (c_X1_termIn_s l G H b lo n _ t dv fc rg ta na pa hC x hs_2) xm_yX1_termIn wMX1_49 wI_yX1_termIn wT_yX1_termIn (ci := 1) rfl rfl hX (rest := []) rfl (by decide) (by decide) ⟨by decide, by decide⟩ dX1_give_2 (x_pure (r := .ref (ta i)) (st1 := []) ?_)
    refine xs (fun _ => lv_astore_n (i := 2) (lv' := [(2, .ref (ta i)), (0, .ref b), (1, .int x)]) hx hb dX1_give_5 rfl hl (by decide) (rfl)) (fun ls hl => ?_)
    refine xl (fun _ => lv_aload_n hx hb dX1_give_6 rfl (lv_at hl 0 rfl)) ?_
    refine xl (fun _ => lv_ifnonnull (tgt := 12) hx hb dX1_give_7 (by decide)) ?_
    refine xl (fun _ => lv_aload_n hx hb dX1_give_12 rfl (lv_at hl 0 rfl)) ?_
    refine x_get (ci := 0) hx hb hts hown hK wiX0 ((hT i hi).2.2.2.1) rfl 5 (by decide) wFX1_84 rfl rfl dX1_give_13 ?_
    refine xb (fun _ => lv_if_eq (tgt := 21) hx hb dX1_give_16 (by decide)) (fun c_16 => ?_) (fun c_16 => ?_)
    · have c_16 := bI_f c_16
      refine xl (fun _ => lv_aload_n hx hb dX1_give_21 rfl (lv_at hl 1 rfl)) ?_
      refine x_get (ci := 1) hx hb hts hown hK wiX1 hX rfl 3 (by decide) wFX1_22 rfl rfl dX1_give_22 ?_
      refine xs (fun _ => lv_istore_n (i := 3) (lv' := [(3, .int (nI (sp_ct dv n))), (2, .ref (ta i)), (0, .ref b), (1, .int x)]) hx hb dX1_give_25 rfl hl (by decide) (rfl)) (fun ls hl => ?_)
      refine xl (fun _ => lv_aload_n hx hb dX1_give_26 rfl (lv_at hl 2 rfl)) ?_
      refine xl (fun _ => lv_aload_n hx hb dX1_give_27 rfl (lv_at hl 1 rfl)) ?_
      refine x_callV E hl (c_X1_derive_s l G H b lo n t rg ta na pa dv hV i hi) xm_yX1_derive wMX1_88 wI_yX1_derive wT_yX1_derive (ci := 1) rfl rfl hX (rest := []) rfl (by decide) (by decide) ⟨by decide, by decide⟩ dX1_give_28 (fun v_1 H_2 hp_3 hz_4 hq_5 => ?_)
      obtain ⟨rfl, hV, hF2, hS2⟩ := hp_3
      have hFF := hFF.tr hF2
      refine xg (g2 := F0 m 31 ls []) rfl ?_
      obtain ⟨fc, hC, hfI⟩ := id hV
      obtain ⟨hw, hb0, hb4, hlo, hn5, hX, hRG, hMD, hZR, hT, hrg, hwf⟩ := id hC
      refine xl (fun _ => lv_aload_n hx hb dX1_give_31 rfl (lv_at hl 2 rfl)) ?_
      refine x_callV E hl (c_X1_spread l G H_2 b lo n t rg ta na pa _ hV) xm_yX1_spread wMX1_92 wI_yX1_spread wT_yX1_spread (ci := 1) rfl rfl hX (rest := []) rfl (by decide) (by decide) ⟨by decide, by decide⟩ dX1_give_32 (fun v_6 H_7 hp_8 hz_9 hq_10 => ?_)
      obtain ⟨rfl, ⟨dv2, hV, hok, hcd⟩, hF2, hS2⟩ := hp_8
      have hFF := hFF.tr hF2
      refine xg (g2 := F0 m 35 ls []) rfl ?_
      obtain ⟨fc, hC, hfI⟩ := id hV
      obtain ⟨hw, hb0, hb4, hlo, hn5, hX, hRG, hMD, hZR, hT, hrg, hwf⟩ := id hC
      have hD2 := sp_der_give hi hD hok hcd
      refine xl (fun _ => lv_aload_n hx hb dX1_give_35 rfl (lv_at hl 2 rfl)) ?_
      refine x_get (ci := 1) hx hb hts hown hK wiX1 hX rfl 3 (by decide) wFX1_22 rfl rfl dX1_give_36 ?_
      refine xl (fun _ => lv_iload_n hx hb dX1_give_39 rfl (lv_at hl 0 rfl)) ?_
      refine xl (fun _ => lv_isub hx hb dX1_give_40) ?_
      exact x_iret hx hb hr hlocks hs0 hbs (by decide) (by decide) dX1_give_41 (⟨by simp only [op_give, hs_2]; rw [sp_dc_eq hD2, sp_dc_eq hD], by simp only [op_give, hs_2]; exact ⟨ta, na, pa, dv2, hV, hD2, fun j h => by rcases h with h | rfl; exact hg j h; exact hi⟩, hFF⟩)
    · have c_16 := bI_t c_16
      refine xl (fun _ => lv_iconst (v := 0) hx hb dX1_give_19 (by decide)) ?_
      exact x_iret hx hb hr hlocks hs0 hbs (by decide) (by decide) dX1_give_20 (⟨by simp only [op_give, hs_2]; rw [sp_dc_same ((hD i hi).mp c_16), Int32.sub_self], by simp only [op_give, hs_2]; exact ⟨ta, na, pa, dv, hV, fun j hj => (hD j hj).trans ⟨sp_der_gv_mono i j, sp_der_gv_old ((hD i hi).mp c_16) j⟩, fun j h => by rcases h with h | rfl; exact hg j h; exact hi⟩, sc_F.rf⟩)

set_option maxHeartbeats 4000000 in
set_option maxRecDepth 100000 in
theorem c_X1_derived (l : Launch) (G : sg_G) (H : Heap) (b lo n : Nat) (t : Nat → sp_T) (rg : Nat → Option Nat) (g : Nat → Prop) (hH : sc_H G b lo n t rg g H) (x : Int32) : xC l G yX1_derived cX1_derived 3 (some FieldType.int) 2 0 0 [.ref b, .int x] H (xPu (.int (op_derived (n, t, rg, g) x)) H) := by
  refine xC.start (by decide) (Nat.le_of_ble_eq_true rfl) ?_
  intro p e s m args below meth c ls E hnm hs0 hl
  obtain ⟨hx, hb, hml, hown, hts, hr, hlocks, hK, hbs⟩ := id E
  have hl : lv_has ls 3 [(0, .ref b), (1, .int x)] := hl
  obtain ⟨ta, na, pa, dv, hV, hD, hg⟩ := id hH
  obtain ⟨fc, hC, hfI⟩ := id hV
  obtain ⟨hw, hb0, hb4, hlo, hn5, hX, hRG, hMD, hZR, hT, hrg, hwf⟩ := id hC
  have hFF : sc_F b lo H H := sc_F.rf
  have hSS : H.size = H.size := rfl
  refine xl (fun _ => lv_aload_n hx hb dX1_derived_0 rfl (lv_at hl 0 rfl)) ?_
  refine xl (fun _ => lv_iload_n hx hb dX1_derived_1 rfl (lv_at hl 1 rfl)) ?_
  rcases hs_2 : sp_rg rg x with _ | i
  · refine x_callV E hl (c_X1_termIn_n l G H b lo n _ t dv fc rg ta na pa hC x hs_2) xm_yX1_termIn wMX1_49 wI_yX1_termIn wT_yX1_termIn (ci := 1) rfl rfl hX (rest := []) rfl (by decide) (by decide) ⟨by decide, by decide⟩ dX1_derived_2 (x_pure (r := .null) (st1 := []) ?_)
    refine xs (fun _ => lv_astore_nN (i := 2) (lv' := [(2, .null), (0, .ref b), (1, .int x)]) hx hb dX1_derived_5 rfl hl (by decide) (rfl)) (fun ls hl => ?_)
    refine xl (fun _ => lv_aload_nN hx hb dX1_derived_6 rfl (lv_at hl 0 rfl)) ?_
    refine xl (fun _ => lv_ifnonnullN hx hb dX1_derived_7) ?_
    refine xl (fun _ => lv_iconst (v := (-1)) hx hb dX1_derived_10 (by decide)) ?_
    exact x_iret hx hb hr hlocks hs0 hbs (by decide) (by decide) dX1_derived_11 (⟨by simp only [op_derived, hs_2], rfl⟩)
  · have hi := sp_rg_lt hrg hs_2
    refine x_callV E hl (c_X1_termIn_s l G H b lo n _ t dv fc rg ta na pa hC x hs_2) xm_yX1_termIn wMX1_49 wI_yX1_termIn wT_yX1_termIn (ci := 1) rfl rfl hX (rest := []) rfl (by decide) (by decide) ⟨by decide, by decide⟩ dX1_derived_2 (x_pure (r := .ref (ta i)) (st1 := []) ?_)
    refine xs (fun _ => lv_astore_n (i := 2) (lv' := [(2, .ref (ta i)), (0, .ref b), (1, .int x)]) hx hb dX1_derived_5 rfl hl (by decide) (rfl)) (fun ls hl => ?_)
    refine xl (fun _ => lv_aload_n hx hb dX1_derived_6 rfl (lv_at hl 0 rfl)) ?_
    refine xl (fun _ => lv_ifnonnull (tgt := 12) hx hb dX1_derived_7 (by decide)) ?_
    refine xl (fun _ => lv_aload_n hx hb dX1_derived_12 rfl (lv_at hl 0 rfl)) ?_
    refine x_get (ci := 0) hx hb hts hown hK wiX0 ((hT i hi).2.2.2.1) rfl 5 (by decide) wFX1_84 rfl rfl dX1_derived_13 ?_
    refine xb (fun _ => lv_if_eq (tgt := 23) hx hb dX1_derived_16 (by decide)) (fun c_16 => ?_) (fun c_16 => ?_)
    · have c_16 := bI_f c_16
      refine xl (fun _ => lv_iconst (v := 0) hx hb dX1_derived_23 (by decide)) ?_
      exact x_iret hx hb hr hlocks hs0 hbs (by decide) (by decide) dX1_derived_24 (⟨by simp only [op_derived, hs_2]; rw [show sp_dB n t g i = dv i from bool_eq (sp_dB_t.trans (hD i hi).symm), c_16]; rfl, rfl⟩)
    · have c_16 := bI_t c_16
      refine xl (fun _ => lv_iconst (v := 1) hx hb dX1_derived_19 (by decide)) ?_
      refine xl (fun _ => lv_goto (tgt := 24) hx hb dX1_derived_20 (by decide)) ?_
      exact x_iret hx hb hr hlocks hs0 hbs (by decide) (by decide) dX1_derived_24 (⟨by simp only [op_derived, hs_2]; rw [show sp_dB n t g i = dv i from bool_eq (sp_dB_t.trans (hD i hi).symm), c_16]; rfl, rfl⟩)

set_option maxHeartbeats 4000000 in
set_option maxRecDepth 100000 in
theorem c_X1_same (l : Launch) (G : sg_G) (H : Heap) (b lo n : Nat) (t : Nat → sp_T) (rg : Nat → Option Nat) (g : Nat → Prop) (hH : sc_H G b lo n t rg g H) (x y : Int32) : xC l G yX1_same cX1_same 5 (some FieldType.int) 2 0 0 [.ref b, .int x, .int y] H (xPu (.int (op_same (n, t, rg, g) x y)) H) := by
  refine xC.start (by decide) (Nat.le_of_ble_eq_true rfl) ?_
  intro p e s m args below meth c ls E hnm hs0 hl
  obtain ⟨hx, hb, hml, hown, hts, hr, hlocks, hK, hbs⟩ := id E
  have hl : lv_has ls 5 [(0, .ref b), (1, .int x), (2, .int y)] := hl
  obtain ⟨ta, na, pa, dv, hV, hD, hg⟩ := id hH
  obtain ⟨fc, hC, hfI⟩ := id hV
  obtain ⟨hw, hb0, hb4, hlo, hn5, hX, hRG, hMD, hZR, hT, hrg, hwf⟩ := id hC
  have hFF : sc_F b lo H H := sc_F.rf
  have hSS : H.size = H.size := rfl
  refine xl (fun _ => lv_aload_n hx hb dX1_same_0 rfl (lv_at hl 0 rfl)) ?_
  refine xl (fun _ => lv_iload_n hx hb dX1_same_1 rfl (lv_at hl 1 rfl)) ?_
  rcases hs_2 : sp_rg rg x with _ | i
  · refine x_callV E hl (c_X1_termIn_n l G H b lo n _ t dv fc rg ta na pa hC x hs_2) xm_yX1_termIn wMX1_49 wI_yX1_termIn wT_yX1_termIn (ci := 1) rfl rfl hX (rest := []) rfl (by decide) (by decide) ⟨by decide, by decide⟩ dX1_same_2 (x_pure (r := .null) (st1 := []) ?_)
    refine xs (fun _ => lv_astore_nN (i := 3) (lv' := [(3, .null), (0, .ref b), (1, .int x), (2, .int y)]) hx hb dX1_same_5 rfl hl (by decide) (rfl)) (fun ls hl => ?_)
    refine xl (fun _ => lv_aload_n hx hb dX1_same_6 rfl (lv_at hl 1 rfl)) ?_
    refine xl (fun _ => lv_iload_n hx hb dX1_same_7 rfl (lv_at hl 3 rfl)) ?_
    rcases hs_8 : sp_rg rg y with _ | j
    · refine x_callV E hl (c_X1_termIn_n l G H b lo n _ t dv fc rg ta na pa hC y hs_8) xm_yX1_termIn wMX1_49 wI_yX1_termIn wT_yX1_termIn (ci := 1) rfl rfl hX (rest := []) rfl (by decide) (by decide) ⟨by decide, by decide⟩ dX1_same_8 (x_pure (r := .null) (st1 := []) ?_)
      refine xs (fun _ => lv_astoreN (i := 4) (lv' := [(4, .null), (3, .null), (0, .ref b), (1, .int x), (2, .int y)]) hx hb dX1_same_11 hl (by decide) (rfl)) (fun ls hl => ?_)
      refine xl (fun _ => lv_aload_nN hx hb dX1_same_13 rfl (lv_at hl 1 rfl)) ?_
      refine xl (fun _ => lv_ifnullN (tgt := 22) hx hb dX1_same_14 (by decide)) ?_
      refine xl (fun _ => lv_iconst (v := (-1)) hx hb dX1_same_22 (by decide)) ?_
      exact x_iret hx hb hr hlocks hs0 hbs (by decide) (by decide) dX1_same_23 (⟨by simp only [op_same, hs_2, hs_8], rfl⟩)
    · have hj := sp_rg_lt hrg hs_8
      refine x_callV E hl (c_X1_termIn_s l G H b lo n _ t dv fc rg ta na pa hC y hs_8) xm_yX1_termIn wMX1_49 wI_yX1_termIn wT_yX1_termIn (ci := 1) rfl rfl hX (rest := []) rfl (by decide) (by decide) ⟨by decide, by decide⟩ dX1_same_8 (x_pure (r := .ref (ta j)) (st1 := []) ?_)
      refine xs (fun _ => lv_astore (i := 4) (lv' := [(4, .ref (ta j)), (3, .null), (0, .ref b), (1, .int x), (2, .int y)]) hx hb dX1_same_11 hl (by decide) (rfl)) (fun ls hl => ?_)
      refine xl (fun _ => lv_aload_nN hx hb dX1_same_13 rfl (lv_at hl 1 rfl)) ?_
      refine xl (fun _ => lv_ifnullN (tgt := 22) hx hb dX1_same_14 (by decide)) ?_
      refine xl (fun _ => lv_iconst (v := (-1)) hx hb dX1_same_22 (by decide)) ?_
      exact x_iret hx hb hr hlocks hs0 hbs (by decide) (by decide) dX1_same_23 (⟨by simp only [op_same, hs_2, hs_8], rfl⟩)
  · have hi := sp_rg_lt hrg hs_2
    refine x_callV E hl (c_X1_termIn_s l G H b lo n _ t dv fc rg ta na pa hC x hs_2) xm_yX1_termIn wMX1_49 wI_yX1_termIn wT_yX1_termIn (ci := 1) rfl rfl hX (rest := []) rfl (by decide) (by decide) ⟨by decide, by decide⟩ dX1_same_2 (x_pure (r := .ref (ta i)) (st1 := []) ?_)
    refine xs (fun _ => lv_astore_n (i := 3) (lv' := [(3, .ref (ta i)), (0, .ref b), (1, .int x), (2, .int y)]) hx hb dX1_same_5 rfl hl (by decide) (rfl)) (fun ls hl => ?_)
    refine xl (fun _ => lv_aload_n hx hb dX1_same_6 rfl (lv_at hl 1 rfl)) ?_
    refine xl (fun _ => lv_iload_n hx hb dX1_same_7 rfl (lv_at hl 3 rfl)) ?_
    rcases hs_8 : sp_rg rg y with _ | j
    · refine x_callV E hl (c_X1_termIn_n l G H b lo n _ t dv fc rg ta na pa hC y hs_8) xm_yX1_termIn wMX1_49 wI_yX1_termIn wT_yX1_termIn (ci := 1) rfl rfl hX (rest := []) rfl (by decide) (by decide) ⟨by decide, by decide⟩ dX1_same_8 (x_pure (r := .null) (st1 := []) ?_)
      refine xs (fun _ => lv_astoreN (i := 4) (lv' := [(4, .null), (3, .ref (ta i)), (0, .ref b), (1, .int x), (2, .int y)]) hx hb dX1_same_11 hl (by decide) (rfl)) (fun ls hl => ?_)
      refine xl (fun _ => lv_aload_n hx hb dX1_same_13 rfl (lv_at hl 1 rfl)) ?_
      refine xl (fun _ => lv_ifnull hx hb dX1_same_14) ?_
      refine xl (fun _ => lv_aloadN hx hb dX1_same_17 (lv_at hl 0 rfl)) ?_
      refine xl (fun _ => lv_ifnonnullN hx hb dX1_same_19) ?_
      refine xl (fun _ => lv_iconst (v := (-1)) hx hb dX1_same_22 (by decide)) ?_
      exact x_iret hx hb hr hlocks hs0 hbs (by decide) (by decide) dX1_same_23 (⟨by simp only [op_same, hs_2, hs_8], rfl⟩)
    · have hj := sp_rg_lt hrg hs_8
      refine x_callV E hl (c_X1_termIn_s l G H b lo n _ t dv fc rg ta na pa hC y hs_8) xm_yX1_termIn wMX1_49 wI_yX1_termIn wT_yX1_termIn (ci := 1) rfl rfl hX (rest := []) rfl (by decide) (by decide) ⟨by decide, by decide⟩ dX1_same_8 (x_pure (r := .ref (ta j)) (st1 := []) ?_)
      refine xs (fun _ => lv_astore (i := 4) (lv' := [(4, .ref (ta j)), (3, .ref (ta i)), (0, .ref b), (1, .int x), (2, .int y)]) hx hb dX1_same_11 hl (by decide) (rfl)) (fun ls hl => ?_)
      refine xl (fun _ => lv_aload_n hx hb dX1_same_13 rfl (lv_at hl 1 rfl)) ?_
      refine xl (fun _ => lv_ifnull hx hb dX1_same_14) ?_
      refine xl (fun _ => lv_aload hx hb dX1_same_17 (lv_at hl 0 rfl)) ?_
      refine xl (fun _ => lv_ifnonnull (tgt := 24) hx hb dX1_same_19 (by decide)) ?_
      refine xl (fun _ => lv_aload_n hx hb dX1_same_24 rfl (lv_at hl 1 rfl)) ?_
      refine xl (fun _ => lv_aload hx hb dX1_same_25 (lv_at hl 0 rfl)) ?_
      refine xb (fun _ => lv_acmp_ne (rx := (some (ta i))) (ry := (some (ta j))) (tgt := 34) hx hb dX1_same_27 (by decide)) (fun c_27 => ?_) (fun c_27 => ?_)
      · refine xl (fun _ => lv_iconst (v := 0) hx hb dX1_same_34 (by decide)) ?_
        exact x_iret hx hb hr hlocks hs0 hbs (by decide) (by decide) dX1_same_35 (⟨by simp only [op_same, hs_2, hs_8]; rw [if_neg (fun e => c_27 (by rw [e]))], rfl⟩)
      · refine xl (fun _ => lv_iconst (v := 1) hx hb dX1_same_30 (by decide)) ?_
        refine xl (fun _ => lv_goto (tgt := 35) hx hb dX1_same_31 (by decide)) ?_
        exact x_iret hx hb hr hlocks hs0 hbs (by decide) (by decide) dX1_same_35 (⟨by simp only [op_same, hs_2, hs_8]; rw [if_pos (sc_inj hC hi hj (Option.some.inj c_27))], rfl⟩)

set_option maxHeartbeats 4000000 in
set_option maxRecDepth 100000 in
theorem c_X1_about (l : Launch) (G : sg_G) (H : Heap) (b lo n : Nat) (t : Nat → sp_T) (rg : Nat → Option Nat) (g : Nat → Prop) (hH : sc_H G b lo n t rg g H) (x w : Int32) : xC l G yX1_about cX1_about 4 (some FieldType.int) 2 0 0 [.ref b, .int x, .int w] H (xPu (.int (op_about (n, t, rg, g) x w)) H) := by
  refine xC.start (by decide) (Nat.le_of_ble_eq_true rfl) ?_
  intro p e s m args below meth c ls E hnm hs0 hl
  obtain ⟨hx, hb, hml, hown, hts, hr, hlocks, hK, hbs⟩ := id E
  have hl : lv_has ls 4 [(0, .ref b), (1, .int x), (2, .int w)] := hl
  obtain ⟨ta, na, pa, dv, hV, hD, hg⟩ := id hH
  obtain ⟨fc, hC, hfI⟩ := id hV
  obtain ⟨hw, hb0, hb4, hlo, hn5, hX, hRG, hMD, hZR, hT, hrg, hwf⟩ := id hC
  have hFF : sc_F b lo H H := sc_F.rf
  have hSS : H.size = H.size := rfl
  refine xl (fun _ => lv_aload_n hx hb dX1_about_0 rfl (lv_at hl 0 rfl)) ?_
  refine xl (fun _ => lv_iload_n hx hb dX1_about_1 rfl (lv_at hl 1 rfl)) ?_
  rcases hs_2 : sp_rg rg x with _ | i
  · refine x_callV E hl (c_X1_termIn_n l G H b lo n _ t dv fc rg ta na pa hC x hs_2) xm_yX1_termIn wMX1_49 wI_yX1_termIn wT_yX1_termIn (ci := 1) rfl rfl hX (rest := []) rfl (by decide) (by decide) ⟨by decide, by decide⟩ dX1_about_2 (x_pure (r := .null) (st1 := []) ?_)
    refine xs (fun _ => lv_astore_nN (i := 3) (lv' := [(3, .null), (0, .ref b), (1, .int x), (2, .int w)]) hx hb dX1_about_5 rfl hl (by decide) (rfl)) (fun ls hl => ?_)
    refine xl (fun _ => lv_aload_nN hx hb dX1_about_6 rfl (lv_at hl 0 rfl)) ?_
    refine xl (fun _ => lv_ifnonnullN hx hb dX1_about_7) ?_
    refine xl (fun _ => lv_iconst (v := (-1)) hx hb dX1_about_10 (by decide)) ?_
    exact x_iret hx hb hr hlocks hs0 hbs (by decide) (by decide) dX1_about_11 (⟨by simp only [op_about, hs_2, reduceIte, Bool.false_eq_true, and_true, true_and, and_false, false_and, and_self, not_true_eq_false, not_false_eq_true], rfl⟩)
  · have hi := sp_rg_lt hrg hs_2
    refine x_callV E hl (c_X1_termIn_s l G H b lo n _ t dv fc rg ta na pa hC x hs_2) xm_yX1_termIn wMX1_49 wI_yX1_termIn wT_yX1_termIn (ci := 1) rfl rfl hX (rest := []) rfl (by decide) (by decide) ⟨by decide, by decide⟩ dX1_about_2 (x_pure (r := .ref (ta i)) (st1 := []) ?_)
    refine xs (fun _ => lv_astore_n (i := 3) (lv' := [(3, .ref (ta i)), (0, .ref b), (1, .int x), (2, .int w)]) hx hb dX1_about_5 rfl hl (by decide) (rfl)) (fun ls hl => ?_)
    refine xl (fun _ => lv_aload_n hx hb dX1_about_6 rfl (lv_at hl 0 rfl)) ?_
    refine xl (fun _ => lv_ifnonnull (tgt := 12) hx hb dX1_about_7 (by decide)) ?_
    refine xl (fun _ => lv_iload_n hx hb dX1_about_12 rfl (lv_at hl 3 rfl)) ?_
    refine xb (fun _ => lv_if_ne (tgt := 21) hx hb dX1_about_13 (by decide)) (fun c_13 => ?_) (fun c_13 => ?_)
    · refine xl (fun _ => lv_iload_n hx hb dX1_about_21 rfl (lv_at hl 3 rfl)) ?_
      refine xl (fun _ => lv_iconst (v := 1) hx hb dX1_about_22 (by decide)) ?_
      refine xb (fun _ => lv_icmp_ne (tgt := 31) hx hb dX1_about_23 (by decide)) (fun c_23 => ?_) (fun c_23 => ?_)
      · refine xl (fun _ => lv_iload_n hx hb dX1_about_31 rfl (lv_at hl 3 rfl)) ?_
        refine xl (fun _ => lv_iconst (v := 2) hx hb dX1_about_32 (by decide)) ?_
        refine xl (fun _ => lv_isub hx hb dX1_about_33) ?_
        refine x_callS E hl (c_X1_isSlot l G H (w - 2)) xm_yX1_isSlot wMX1_59 wS_yX1_isSlot (rest := []) rfl (by decide) (by decide) ⟨by decide, by decide⟩ dX1_about_34 (x_pure (r := .int (bI (sp_is (w - 2)))) (st1 := []) ?_)
        refine xb (fun _ => lv_if_eq (tgt := 50) hx hb dX1_about_37 (by decide)) (fun c_37 => ?_) (fun c_37 => ?_)
        · have c_37 := bI_f c_37
          refine xl (fun _ => lv_iconst (v := (-1)) hx hb dX1_about_50 (by decide)) ?_
          exact x_iret hx hb hr hlocks hs0 hbs (by decide) (by decide) dX1_about_51 (⟨by simp only [op_about, hs_2, c_13, c_23, c_37, reduceIte, Bool.false_eq_true, and_true, true_and, and_false, false_and, and_self, not_true_eq_false, not_false_eq_true], rfl⟩)
        · have c_37 := bI_t c_37
          obtain ⟨j, hj, hje⟩ := sp_is_of c_37
          have hcl : (w - 2).toNatClampNeg = j := by rw [hje]; exact nI_clamp (by omega)
          refine xl (fun _ => lv_aload_n hx hb dX1_about_40 rfl (lv_at hl 0 rfl)) ?_
          refine xl (fun _ => lv_iload_n hx hb dX1_about_41 rfl (lv_at hl 3 rfl)) ?_
          refine xl (fun _ => lv_iconst (v := 2) hx hb dX1_about_42 (by decide)) ?_
          refine xl (fun _ => lv_isub hx hb dX1_about_43) ?_
          rw [show (w - 2) = (nI j) from hje]
          refine x_callV E hl (c_X0_numberAt l G H (ta i) (na i) (pa i) _ _ _ _ _ _ (hT i hi).2.2.2.1 (hT i hi).2.2.2.2.1 j hj) xm_yX0_numberAt wMX1_105 wI_yX0_numberAt wT_yX0_numberAt (ci := 0) rfl rfl ((hT i hi).2.2.2.1) (rest := []) rfl (by decide) (by decide) ⟨by decide, by decide⟩ dX1_about_44 (x_pure (r := .int (sp_nu (t i) j)) (st1 := []) ?_)
          refine xl (fun _ => lv_goto (tgt := 51) hx hb dX1_about_47 (by decide)) ?_
          exact x_iret hx hb hr hlocks hs0 hbs (by decide) (by decide) dX1_about_51 (⟨by simp only [op_about, hs_2, c_13, c_23, c_37, hcl, reduceIte, Bool.false_eq_true, and_true, true_and, and_false, false_and, and_self, not_true_eq_false, not_false_eq_true], rfl⟩)
      · have c_13 : ¬ (1 : Int32) = 0 := by decide
        refine xl (fun _ => lv_aload_n hx hb dX1_about_26 rfl (lv_at hl 0 rfl)) ?_
        refine x_get (ci := 0) hx hb hts hown hK wiX0 ((hT i hi).2.2.2.1) rfl 1 (by decide) wFX1_102 rfl rfl dX1_about_27 ?_
        exact x_iret hx hb hr hlocks hs0 hbs (by decide) (by decide) dX1_about_30 (⟨by simp only [op_about, hs_2, c_13, c_23, reduceIte, Bool.false_eq_true, and_true, true_and, and_false, false_and, and_self, not_true_eq_false, not_false_eq_true], rfl⟩)
    · refine xl (fun _ => lv_aload_n hx hb dX1_about_16 rfl (lv_at hl 0 rfl)) ?_
      refine x_get (ci := 0) hx hb hts hown hK wiX0 ((hT i hi).2.2.2.1) rfl 0 (by decide) wFX1_78 rfl rfl dX1_about_17 ?_
      exact x_iret hx hb hr hlocks hs0 hbs (by decide) (by decide) dX1_about_20 (⟨by simp only [op_about, hs_2, c_13, reduceIte, Bool.false_eq_true, and_true, true_and, and_false, false_and, and_self, not_true_eq_false, not_false_eq_true], rfl⟩)

set_option maxHeartbeats 4000000 in
set_option maxRecDepth 100000 in
theorem c_X1_count (l : Launch) (G : sg_G) (H : Heap) (b lo n : Nat) (t : Nat → sp_T) (rg : Nat → Option Nat) (g : Nat → Prop) (hH : sc_H G b lo n t rg g H) (w : Int32) : xC l G yX1_count cX1_count 2 (some FieldType.int) 1 0 0 [.ref b, .int w] H (xPu (.int (op_count (n, t, rg, g) w)) H) := by
  refine xC.start (by decide) (Nat.le_of_ble_eq_true rfl) ?_
  intro p e s m args below meth c ls E hnm hs0 hl
  obtain ⟨hx, hb, hml, hown, hts, hr, hlocks, hK, hbs⟩ := id E
  have hl : lv_has ls 2 [(0, .ref b), (1, .int w)] := hl
  obtain ⟨ta, na, pa, dv, hV, hD, hg⟩ := id hH
  obtain ⟨fc, hC, hfI⟩ := id hV
  obtain ⟨hw, hb0, hb4, hlo, hn5, hX, hRG, hMD, hZR, hT, hrg, hwf⟩ := id hC
  have hFF : sc_F b lo H H := sc_F.rf
  have hSS : H.size = H.size := rfl
  refine xl (fun _ => lv_iload_n hx hb dX1_count_0 rfl (lv_at hl 1 rfl)) ?_
  refine xb (fun _ => lv_if_ne (tgt := 9) hx hb dX1_count_1 (by decide)) (fun c_1 => ?_) (fun c_1 => ?_)
  · refine xl (fun _ => lv_iload_n hx hb dX1_count_9 rfl (lv_at hl 1 rfl)) ?_
    refine xl (fun _ => lv_iconst (v := 1) hx hb dX1_count_10 (by decide)) ?_
    refine xb (fun _ => lv_icmp_ne (tgt := 21) hx hb dX1_count_11 (by decide)) (fun c_11 => ?_) (fun c_11 => ?_)
    · refine xl (fun _ => lv_iconst (v := (-1)) hx hb dX1_count_21 (by decide)) ?_
      exact x_iret hx hb hr hlocks hs0 hbs (by decide) (by decide) dX1_count_22 (⟨by simp only [op_count, c_1, c_11, reduceIte, Bool.false_eq_true, and_true, true_and, and_false, false_and, and_self, not_true_eq_false, not_false_eq_true], rfl⟩)
    · have c_1 : ¬ (1 : Int32) = 0 := by decide
      refine xl (fun _ => lv_aload_n hx hb dX1_count_14 rfl (lv_at hl 0 rfl)) ?_
      refine x_get (ci := 1) hx hb hts hown hK wiX1 hX rfl 3 (by decide) wFX1_22 rfl rfl dX1_count_15 ?_
      refine xl (fun _ => lv_goto (tgt := 22) hx hb dX1_count_18 (by decide)) ?_
      exact x_iret hx hb hr hlocks hs0 hbs (by decide) (by decide) dX1_count_22 (⟨by simp only [op_count, c_1, c_11, reduceIte, Bool.false_eq_true, and_true, true_and, and_false, false_and, and_self, not_true_eq_false, not_false_eq_true]; rw [sp_dc_eq hD], rfl⟩)
  · refine xl (fun _ => lv_aload_n hx hb dX1_count_4 rfl (lv_at hl 0 rfl)) ?_
    refine x_get (ci := 1) hx hb hts hown hK wiX1 hX rfl 2 (by decide) wFX1_18 rfl rfl dX1_count_5 ?_
    exact x_iret hx hb hr hlocks hs0 hbs (by decide) (by decide) dX1_count_8 (⟨by simp only [op_count, c_1, reduceIte, Bool.false_eq_true, and_true, true_and, and_false, false_and, and_self, not_true_eq_false, not_false_eq_true], rfl⟩)

set_option maxHeartbeats 4000000 in
set_option maxRecDepth 100000 in
theorem c_X1_placeInTable (l : Launch) (G : sg_G) (H : Heap) (kk k : Nat) : xC l G yX1_placeInTable cX1_placeInTable 2 (some FieldType.int) 0 0 0 [.int (nI (kk + 1)), .int (nI k)] H (xPu (.int (nI (kk * 4 + k))) H) := by
  refine xC.start (by decide) (Nat.le_of_ble_eq_true rfl) ?_
  intro p e s m args below meth c ls E hnm hs0 hl
  obtain ⟨hx, hb, hml, hown, hts, hr, hlocks, hK, hbs⟩ := id E
  have hl : lv_has ls 2 [(0, .int (nI (kk + 1))), (1, .int (nI k))] := hl
  refine xl (fun _ => lv_iload_n hx hb dX1_placeInTable_0 rfl (lv_at hl 0 rfl)) ?_
  refine xl (fun _ => lv_iconst (v := 1) hx hb dX1_placeInTable_1 (by decide)) ?_
  refine xl (fun _ => lv_isub hx hb dX1_placeInTable_2) ?_
  refine xl (fun _ => lv_iconst (v := 4) hx hb dX1_placeInTable_3 (by decide)) ?_
  refine xl (fun _ => lv_imul hx hb dX1_placeInTable_4) ?_
  refine xl (fun _ => lv_iload_n hx hb dX1_placeInTable_5 rfl (lv_at hl 1 rfl)) ?_
  refine xl (fun _ => lv_iadd hx hb dX1_placeInTable_6) ?_
  exact x_iret hx hb hr hlocks hs0 hbs (by decide) (by decide) dX1_placeInTable_7 (⟨by rw [nI_pred, show (4 : Int32) = nI 4 from rfl, pk_mul, nI_add], rfl⟩)

set_option maxHeartbeats 4000000 in
set_option maxRecDepth 100000 in
theorem c_X1_fits_n (l : Launch) (G : sg_G) (H : Heap) (t : Nat → sp_T) (q : Int32) : xC l G yX1_fits cX1_fits 2 (some FieldType.boolean) 0 0 0 [.null, .int q] H (xPu (.int (bI (sp_fit t none q))) H) := by
  refine xC.start (by decide) (Nat.le_of_ble_eq_true rfl) ?_
  intro p e s m args below meth c ls E hnm hs0 hl
  obtain ⟨hx, hb, hml, hown, hts, hr, hlocks, hK, hbs⟩ := id E
  have hl : lv_has ls 2 [(0, .null), (1, .int q)] := hl
  refine xl (fun _ => lv_aload_nN hx hb dX1_fits_0 rfl (lv_at hl 0 rfl)) ?_
  refine xl (fun _ => lv_ifnonnullN hx hb dX1_fits_1) ?_
  refine xl (fun _ => lv_iload_n hx hb dX1_fits_4 rfl (lv_at hl 1 rfl)) ?_
  refine xb (fun _ => lv_if_eq (tgt := 13) hx hb dX1_fits_5 (by decide)) (fun c_5 => ?_) (fun c_5 => ?_)
  · refine xl (fun _ => lv_iconst (v := 1) hx hb dX1_fits_13 (by decide)) ?_
    refine xl (fun _ => lv_goto (tgt := 18) hx hb dX1_fits_14 (by decide)) ?_
    exact x_zret hx hb hr hlocks hs0 hbs (by decide) (by decide) (by decide) dX1_fits_18 (pu1 (by simp [sp_fit, c_5]))
  · refine xl (fun _ => lv_iload_n hx hb dX1_fits_8 rfl (lv_at hl 1 rfl)) ?_
    refine xl (fun _ => lv_iconst (v := 3) hx hb dX1_fits_9 (by decide)) ?_
    refine xb (fun _ => lv_icmp_ne (tgt := 17) hx hb dX1_fits_10 (by decide)) (fun c_10 => ?_) (fun c_10 => ?_)
    · refine xl (fun _ => lv_iconst (v := 0) hx hb dX1_fits_17 (by decide)) ?_
      exact x_zret hx hb hr hlocks hs0 hbs (by decide) (by decide) (by decide) dX1_fits_18 (pu0 (by simp [sp_fit, c_5, c_10]))
    · refine xl (fun _ => lv_iconst (v := 1) hx hb dX1_fits_13 (by decide)) ?_
      refine xl (fun _ => lv_goto (tgt := 18) hx hb dX1_fits_14 (by decide)) ?_
      exact x_zret hx hb hr hlocks hs0 hbs (by decide) (by decide) (by decide) dX1_fits_18 (pu1 (by simp [sp_fit, c_5, c_10]))

set_option maxHeartbeats 4000000 in
set_option maxRecDepth 100000 in
theorem c_X1_fits_s (l : Launch) (G : sg_G) (H : Heap) (b lo n dc : Nat) (t : Nat → sp_T) (dv fc : Nat → Bool) (rg : Nat → Option Nat) (ta na pa : Nat → Nat) (hC : sc_X G b lo n t dv fc rg dc ta na pa H) (q : Int32) (j : Nat) (hj : j < n) : xC l G yX1_fits cX1_fits 2 (some FieldType.boolean) 0 0 0 [.ref (ta j), .int q] H (xPu (.int (bI (sp_fit t (some j) q))) H) := by
  refine xC.start (by decide) (Nat.le_of_ble_eq_true rfl) ?_
  intro p e s m args below meth c ls E hnm hs0 hl
  obtain ⟨hx, hb, hml, hown, hts, hr, hlocks, hK, hbs⟩ := id E
  have hl : lv_has ls 2 [(0, .ref (ta j)), (1, .int q)] := hl
  obtain ⟨hw, hb0, hb4, hlo, hn5, hX, hRG, hMD, hZR, hT, hrg, hwf⟩ := id hC
  refine xl (fun _ => lv_aload_n hx hb dX1_fits_0 rfl (lv_at hl 0 rfl)) ?_
  refine xl (fun _ => lv_ifnonnull (tgt := 19) hx hb dX1_fits_1 (by decide)) ?_
  refine xl (fun _ => lv_iload_n hx hb dX1_fits_19 rfl (lv_at hl 1 rfl)) ?_
  refine xl (fun _ => lv_iconst (v := 1) hx hb dX1_fits_20 (by decide)) ?_
  refine xb (fun _ => lv_icmp_eq (tgt := 36) hx hb dX1_fits_21 (by decide)) (fun c_21 => ?_) (fun c_21 => ?_)
  · refine xl (fun _ => lv_iconst (v := 1) hx hb dX1_fits_36 (by decide)) ?_
    refine xl (fun _ => lv_goto (tgt := 41) hx hb dX1_fits_37 (by decide)) ?_
    exact x_zret hx hb hr hlocks hs0 hbs (by decide) (by decide) (by decide) dX1_fits_41 (pu1 (by simp [sp_fit, c_21]))
  · refine xl (fun _ => lv_iload_n hx hb dX1_fits_24 rfl (lv_at hl 1 rfl)) ?_
    refine xb (fun _ => lv_if_eq (tgt := 40) hx hb dX1_fits_25 (by decide)) (fun c_25 => ?_) (fun c_25 => ?_)
    · refine xl (fun _ => lv_iconst (v := 0) hx hb dX1_fits_40 (by decide)) ?_
      exact x_zret hx hb hr hlocks hs0 hbs (by decide) (by decide) (by decide) dX1_fits_41 (pu0 (by simp [sp_fit, c_21, c_25]))
    · refine xl (fun _ => lv_aload_n hx hb dX1_fits_28 rfl (lv_at hl 0 rfl)) ?_
      refine x_get (ci := 0) hx hb hts hown hK wiX0 ((hT j hj).2.2.2.1) rfl 0 (by decide) wFX1_78 rfl rfl dX1_fits_29 ?_
      refine xl (fun _ => lv_iconst (v := 2) hx hb dX1_fits_32 (by decide)) ?_
      refine xb (fun _ => lv_icmp_ne (tgt := 40) hx hb dX1_fits_33 (by decide)) (fun c_33 => ?_) (fun c_33 => ?_)
      · refine xl (fun _ => lv_iconst (v := 0) hx hb dX1_fits_40 (by decide)) ?_
        exact x_zret hx hb hr hlocks hs0 hbs (by decide) (by decide) (by decide) dX1_fits_41 (pu0 (by simp [sp_fit, c_21, c_25, c_33]))
      · refine xl (fun _ => lv_iconst (v := 1) hx hb dX1_fits_36 (by decide)) ?_
        refine xl (fun _ => lv_goto (tgt := 41) hx hb dX1_fits_37 (by decide)) ?_
        exact x_zret hx hb hr hlocks hs0 hbs (by decide) (by decide) (by decide) dX1_fits_41 (pu1 (by simp [sp_fit, c_21, c_25, c_33]))

theorem c_X1_fits (l : Launch) (G : sg_G) (H : Heap) (b lo n dc : Nat) (t : Nat → sp_T) (dv fc : Nat → Bool) (rg : Nat → Option Nat) (ta na pa : Nat → Nat) (hC : sc_X G b lo n t dv fc rg dc ta na pa H) (q : Int32) (o : Option Nat) (ho : ∀ j, o = some j → j < n) : xC l G yX1_fits cX1_fits 2 (some FieldType.boolean) 0 0 0 [va_rf (o.map ta), .int q] H (xPu (.int (bI (sp_fit t o q))) H) := by
  cases o with
  | none => exact c_X1_fits_n l G H t q
  | some j => exact c_X1_fits_s l G H b lo n dc t dv fc rg ta na pa hC q j (ho j rfl)

set_option maxHeartbeats 4000000 in
set_option maxRecDepth 100000 in
theorem c_X1_hasGoodNumbers (l : Launch) (G : sg_G) (H : Heap) (b lo n dc : Nat) (t : Nat → sp_T) (dv fc : Nat → Bool) (rg : Nat → Option Nat) (ta na pa : Nat → Nat) (hC : sc_X G b lo n t dv fc rg dc ta na pa H) (i : Nat) (hi : i < n) (kk : Nat) (hkk : kk < 7) (hla : sp_la (t i) = nI (kk + 1)) (B : Bool) (hB : B = true ↔ sp_gn (t i) kk) : xC l G yX1_hasGoodNumbers cX1_hasGoodNumbers 4 (some FieldType.boolean) 1 0 0 [.ref (ta i)] H (xPu (.int (bI B)) H) := by
  refine xC.start (by decide) (Nat.le_of_ble_eq_true rfl) ?_
  intro p e s m args below meth c ls E hnm hs0 hl
  obtain ⟨hx, hb, hml, hown, hts, hr, hlocks, hK, hbs⟩ := id E
  have hl : lv_has ls 4 [(0, .ref (ta i))] := hl
  obtain ⟨hw, hb0, hb4, hlo, hn5, hX, hRG, hMD, hZR, hT, hrg, hwf⟩ := id hC
  refine xl (fun _ => lv_iconst (v := 0) hx hb dX1_hasGoodNumbers_0 (by decide)) ?_
  refine xs (fun _ => lv_istore_n (i := 1) (lv' := [(1, .int 0), (0, .ref (ta i))]) hx hb dX1_hasGoodNumbers_1 rfl hl (by decide) (rfl)) (fun ls hl => ?_)
  have hloop : ∀ (d : Nat) (k : Nat), k ≤ 4 → 4 < k + d → (∀ q, q < k → ¬ sp_nu (t i) q < sg_tab 2 (kk * 4 + q) ∧ sp_nu (t i) q ≤ sg_tab 3 (kk * 4 + q)) → ∀ (ls : Array Slot), lv_has ls 4 [(1, .int (nI k)), (0, .ref (ta i))] → xV p l e (xR 1 0 0) s m args below meth c G H 0 0 (MQ below (xQ G H (xPu (.int (bI B)) H)) args s 0 0 (sg_fr G)) (F0 m 2 ls []) := by
    intro d
    induction d with
    | zero =>
      intro k h1 h2
      exact absurd h2 (by omega)
    | succ d ih =>
      intro k hk hd hall ls hl
      refine xl (fun _ => lv_iload_n hx hb dX1_hasGoodNumbers_2 rfl (lv_at hl 0 rfl)) ?_
      refine xl (fun _ => lv_iconst (v := 4) hx hb dX1_hasGoodNumbers_3 (by decide)) ?_
      refine xb (fun _ => lv_icmp_ge (tgt := 70) hx hb dX1_hasGoodNumbers_4 (by decide)) (fun c_4 => ?_) (fun c_4 => ?_)
      · have e4 : k = 4 := by have := nI_le4 (n := 4) (by omega) (by decide) c_4; omega
        refine xl (fun _ => lv_iconst (v := 1) hx hb dX1_hasGoodNumbers_70 (by decide)) ?_
        exact x_zret hx hb hr hlocks hs0 hbs (by decide) (by decide) (by decide) dX1_hasGoodNumbers_71 (pu1 (hB.mpr (fun q hq => hall q (by omega))))
      · have hi4 : k < 4 := nI_nle4 (n := 4) (by omega) (by decide) c_4
        have h28 := sp_lt28 hkk hi4
        refine xl (fun _ => lv_aload_n hx hb dX1_hasGoodNumbers_7 rfl (lv_at hl 1 rfl)) ?_
        refine x_get (ci := 0) hx hb hts hown hK wiX0 ((hT i hi).2.2.2.1) rfl 1 (by decide) wFX1_102 rfl rfl dX1_hasGoodNumbers_8 ?_
        refine xg (g2 := F0 m 11 ls [.int (nI (kk + 1))]) (by rw [hla]) ?_
        refine xl (fun _ => lv_iload_n hx hb dX1_hasGoodNumbers_11 rfl (lv_at hl 0 rfl)) ?_
        refine x_callS E hl (c_X1_placeInTable l G H kk k) xm_yX1_placeInTable wMX1_153 wS_yX1_placeInTable (rest := []) rfl (by decide) (by decide) ⟨by decide, by decide⟩ dX1_hasGoodNumbers_12 (x_pure (r := .int (nI (kk * 4 + k))) (st1 := []) ?_)
        refine xs (fun _ => lv_istore_n (i := 2) (lv' := [(2, .int (nI (kk * 4 + k))), (1, .int (nI k)), (0, .ref (ta i))]) hx hb dX1_hasGoodNumbers_15 rfl hl (by decide) (rfl)) (fun ls hl => ?_)
        refine xl (fun _ => lv_iload_n hx hb dX1_hasGoodNumbers_16 rfl (lv_at hl 0 rfl)) ?_
        refine xb (fun _ => lv_if_lt (tgt := 36) hx hb dX1_hasGoodNumbers_17 (by decide)) (fun c_17 => ?_) (fun c_17 => ?_)
        · exact absurd c_17 (nI_pos (by omega))
        · refine xl (fun _ => lv_iload_n hx hb dX1_hasGoodNumbers_20 rfl (lv_at hl 0 rfl)) ?_
          refine x_gets hx hb hts hown hK 2 (by decide) wFX1_156 dX1_hasGoodNumbers_21 ?_
          refine x_tlen hx hb hK 2 (by decide) dX1_hasGoodNumbers_24 ?_
          refine xb (fun _ => lv_icmp_ge (tgt := 36) hx hb dX1_hasGoodNumbers_25 (by decide)) (fun c_25 => ?_) (fun c_25 => ?_)
          · exact absurd c_25 (nI_ge (b := 28) h28 (by decide))
          · refine xl (fun _ => lv_iload_n hx hb dX1_hasGoodNumbers_28 rfl (lv_at hl 0 rfl)) ?_
            refine x_gets hx hb hts hown hK 3 (by decide) wFX1_159 dX1_hasGoodNumbers_29 ?_
            refine x_tlen hx hb hK 3 (by decide) dX1_hasGoodNumbers_32 ?_
            refine xb (fun _ => lv_icmp_lt (tgt := 38) hx hb dX1_hasGoodNumbers_33 (by decide)) (fun c_33 => ?_) (fun c_33 => ?_)
            · refine xl (fun _ => lv_aload_n hx hb dX1_hasGoodNumbers_38 rfl (lv_at hl 2 rfl)) ?_
              refine xl (fun _ => lv_iload_n hx hb dX1_hasGoodNumbers_39 rfl (lv_at hl 1 rfl)) ?_
              refine x_callV E hl (c_X0_numberAt l G H (ta i) (na i) (pa i) _ _ _ _ _ _ (hT i hi).2.2.2.1 (hT i hi).2.2.2.2.1 k hi4) xm_yX0_numberAt wMX1_105 wI_yX0_numberAt wT_yX0_numberAt (ci := 0) rfl rfl ((hT i hi).2.2.2.1) (rest := []) rfl (by decide) (by decide) ⟨by decide, by decide⟩ dX1_hasGoodNumbers_40 (x_pure (r := .int (sp_nu (t i) k)) (st1 := []) ?_)
              refine xs (fun _ => lv_istore_n (i := 3) (lv' := [(3, .int (sp_nu (t i) k)), (2, .int (nI (kk * 4 + k))), (1, .int (nI k)), (0, .ref (ta i))]) hx hb dX1_hasGoodNumbers_43 rfl hl (by decide) (rfl)) (fun ls hl => ?_)
              refine xl (fun _ => lv_iload_n hx hb dX1_hasGoodNumbers_44 rfl (lv_at hl 0 rfl)) ?_
              refine x_gets hx hb hts hown hK 2 (by decide) wFX1_156 dX1_hasGoodNumbers_45 ?_
              refine xl (fun _ => lv_iload_n hx hb dX1_hasGoodNumbers_48 rfl (lv_at hl 1 rfl)) ?_
              refine x_tald hx hb hK 2 (by decide) (kk * 4 + k) (rfl) (sp_lt28 hkk hi4) (by decide) dX1_hasGoodNumbers_49 ?_
              refine xb (fun _ => lv_icmp_lt (tgt := 62) hx hb dX1_hasGoodNumbers_50 (by decide)) (fun c_50 => ?_) (fun c_50 => ?_)
              · refine xl (fun _ => lv_iconst (v := 0) hx hb dX1_hasGoodNumbers_62 (by decide)) ?_
                exact x_zret hx hb hr hlocks hs0 hbs (by decide) (by decide) (by decide) dX1_hasGoodNumbers_63 (pu0 (bF hB (fun z => (z k hi4).1 c_50)))
              · refine xl (fun _ => lv_iload_n hx hb dX1_hasGoodNumbers_53 rfl (lv_at hl 0 rfl)) ?_
                refine x_gets hx hb hts hown hK 3 (by decide) wFX1_159 dX1_hasGoodNumbers_54 ?_
                refine xl (fun _ => lv_iload_n hx hb dX1_hasGoodNumbers_57 rfl (lv_at hl 1 rfl)) ?_
                refine x_tald hx hb hK 3 (by decide) (kk * 4 + k) (rfl) (sp_lt28 hkk hi4) (by decide) dX1_hasGoodNumbers_58 ?_
                refine xb (fun _ => lv_icmp_le (tgt := 64) hx hb dX1_hasGoodNumbers_59 (by decide)) (fun c_59 => ?_) (fun c_59 => ?_)
                · refine xs (fun _ => lv_iinc (v := (nI (k + 1))) (lv' := [(1, .int (nI (k + 1))), (3, .int (sp_nu (t i) k)), (2, .int (nI (kk * 4 + k))), (0, .ref (ta i))]) hx hb dX1_hasGoodNumbers_64 hl (k := 2) rfl (nI_1 k) (by decide) (rfl)) (fun ls hl => ?_)
                  refine xl (fun _ => lv_goto (tgt := 2) hx hb dX1_hasGoodNumbers_67 (by decide)) ?_
                  exact ih (k + 1) (by omega) (by omega) (fun q hq => by by_cases e : q = k; (rw [e]; exact ⟨c_50, c_59⟩); exact hall q (by omega)) ls (lv_sub hl [0, 3] rfl)
                · refine xl (fun _ => lv_iconst (v := 0) hx hb dX1_hasGoodNumbers_62 (by decide)) ?_
                  exact x_zret hx hb hr hlocks hs0 hbs (by decide) (by decide) (by decide) dX1_hasGoodNumbers_63 (pu0 (bF hB (fun z => c_59 (z k hi4).2)))
            · exact absurd ((nI_ltI (b := 28) (by omega) (by decide)).mpr h28) c_33
  exact hloop 5 0 (by decide) (by decide) (fun k hk => absurd hk (Nat.not_lt_zero k)) ls (lv_sub hl [0, 1] rfl)

set_option maxHeartbeats 4000000 in
set_option maxRecDepth 100000 in
theorem c_X1_hasGoodTerms (l : Launch) (G : sg_G) (H : Heap) (b lo n dc : Nat) (t : Nat → sp_T) (dv fc : Nat → Bool) (rg : Nat → Option Nat) (ta na pa : Nat → Nat) (hC : sc_X G b lo n t dv fc rg dc ta na pa H) (i : Nat) (hi : i < n) (kk : Nat) (hkk : kk < 7) (hla : sp_la (t i) = nI (kk + 1)) (B : Bool) (hB : B = true ↔ sp_gt t (t i) kk) : xC l G yX1_hasGoodTerms cX1_hasGoodTerms 5 (some FieldType.boolean) 1 0 0 [.ref (ta i)] H (xPu (.int (bI B)) H) := by
  refine xC.start (by decide) (Nat.le_of_ble_eq_true rfl) ?_
  intro p e s m args below meth c ls E hnm hs0 hl
  obtain ⟨hx, hb, hml, hown, hts, hr, hlocks, hK, hbs⟩ := id E
  have hl : lv_has ls 5 [(0, .ref (ta i))] := hl
  obtain ⟨hw, hb0, hb4, hlo, hn5, hX, hRG, hMD, hZR, hT, hrg, hwf⟩ := id hC
  refine xl (fun _ => lv_iconst (v := 0) hx hb dX1_hasGoodTerms_0 (by decide)) ?_
  refine xs (fun _ => lv_istore_n (i := 1) (lv' := [(1, .int 0), (0, .ref (ta i))]) hx hb dX1_hasGoodTerms_1 rfl hl (by decide) (rfl)) (fun ls hl => ?_)
  refine xl (fun _ => lv_iconst (v := 0) hx hb dX1_hasGoodTerms_2 (by decide)) ?_
  refine xs (fun _ => lv_istore_n (i := 2) (lv' := [(2, .int 0), (1, .int 0), (0, .ref (ta i))]) hx hb dX1_hasGoodTerms_3 rfl hl (by decide) (rfl)) (fun ls hl => ?_)
  have hloop : ∀ (d : Nat) (k : Nat) (gp : Bool), k ≤ 4 → 4 < k + d → gp = sp_gap (t i) k → (∀ q, q < k → sp_fit t (sp_pa (t i) q) (sg_tab 4 (kk * 4 + q)) = true ∧ ¬ (sp_gap (t i) q = true ∧ ¬ sp_pa (t i) q = none)) → ∀ (ls : Array Slot), lv_has ls 5 [(2, .int (nI k)), (1, .int (bI gp)), (0, .ref (ta i))] → xV p l e (xR 1 0 0) s m args below meth c G H 0 0 (MQ below (xQ G H (xPu (.int (bI B)) H)) args s 0 0 (sg_fr G)) (F0 m 4 ls []) := by
    intro d
    induction d with
    | zero =>
      intro k gp h1 h2
      exact absurd h2 (by omega)
    | succ d ih =>
      intro k gp hk hd hgp hall ls hl
      refine xl (fun _ => lv_iload_n hx hb dX1_hasGoodTerms_4 rfl (lv_at hl 0 rfl)) ?_
      refine xl (fun _ => lv_iconst (v := 4) hx hb dX1_hasGoodTerms_5 (by decide)) ?_
      refine xb (fun _ => lv_icmp_ge (tgt := 80) hx hb dX1_hasGoodTerms_6 (by decide)) (fun c_6 => ?_) (fun c_6 => ?_)
      · have e4 : k = 4 := by have := nI_le4 (n := 4) (by omega) (by decide) c_6; omega
        refine xl (fun _ => lv_iconst (v := 1) hx hb dX1_hasGoodTerms_80 (by decide)) ?_
        exact x_zret hx hb hr hlocks hs0 hbs (by decide) (by decide) (by decide) dX1_hasGoodTerms_81 (pu1 (hB.mpr (fun q hq => hall q (by omega))))
      · have hi4 : k < 4 := nI_nle4 (n := 4) (by omega) (by decide) c_6
        have h28 := sp_lt28 hkk hi4
        refine xl (fun _ => lv_aload_n hx hb dX1_hasGoodTerms_9 rfl (lv_at hl 2 rfl)) ?_
        refine x_get (ci := 0) hx hb hts hown hK wiX0 ((hT i hi).2.2.2.1) rfl 1 (by decide) wFX1_102 rfl rfl dX1_hasGoodTerms_10 ?_
        refine xg (g2 := F0 m 13 ls [.int (nI (kk + 1))]) (by rw [hla]) ?_
        refine xl (fun _ => lv_iload_n hx hb dX1_hasGoodTerms_13 rfl (lv_at hl 0 rfl)) ?_
        refine x_callS E hl (c_X1_placeInTable l G H kk k) xm_yX1_placeInTable wMX1_153 wS_yX1_placeInTable (rest := []) rfl (by decide) (by decide) ⟨by decide, by decide⟩ dX1_hasGoodTerms_14 (x_pure (r := .int (nI (kk * 4 + k))) (st1 := []) ?_)
        refine xs (fun _ => lv_istore_n (i := 3) (lv' := [(3, .int (nI (kk * 4 + k))), (2, .int (nI k)), (1, .int (bI gp)), (0, .ref (ta i))]) hx hb dX1_hasGoodTerms_17 rfl hl (by decide) (rfl)) (fun ls hl => ?_)
        refine xl (fun _ => lv_iload_n hx hb dX1_hasGoodTerms_18 rfl (lv_at hl 0 rfl)) ?_
        refine xb (fun _ => lv_if_lt (tgt := 30) hx hb dX1_hasGoodTerms_19 (by decide)) (fun c_19 => ?_) (fun c_19 => ?_)
        · exact absurd c_19 (nI_pos (by omega))
        · refine xl (fun _ => lv_iload_n hx hb dX1_hasGoodTerms_22 rfl (lv_at hl 0 rfl)) ?_
          refine x_gets hx hb hts hown hK 4 (by decide) wFX1_162 dX1_hasGoodTerms_23 ?_
          refine x_tlen hx hb hK 4 (by decide) dX1_hasGoodTerms_26 ?_
          refine xb (fun _ => lv_icmp_lt (tgt := 32) hx hb dX1_hasGoodTerms_27 (by decide)) (fun c_27 => ?_) (fun c_27 => ?_)
          · refine xl (fun _ => lv_aload_n hx hb dX1_hasGoodTerms_32 rfl (lv_at hl 3 rfl)) ?_
            refine xl (fun _ => lv_iload_n hx hb dX1_hasGoodTerms_33 rfl (lv_at hl 1 rfl)) ?_
            rcases hs_34 : sp_pa (t i) k with _ | j
            · have hpk := hs_34
              refine x_callV E hl (show xC l G yX0_partAt cX0_partAt 2 (some (.object "TermSpread$Term")) 0 0 0 [.ref (ta i), .int (nI k)] H (xPu .null H) from by have q := c_X0_partAt l G H (ta i) (na i) (pa i) _ _ _ _ _ _ (hT i hi).2.2.2.1 (hT i hi).2.2.2.2.2 k hi4; rw [hs_34] at q; exact q) xm_yX0_partAt wMX1_45 wI_yX0_partAt wT_yX0_partAt (ci := 0) rfl rfl ((hT i hi).2.2.2.1) (rest := []) rfl (by decide) (by decide) ⟨by decide, by decide⟩ dX1_hasGoodTerms_34 (x_pure (r := .null) (st1 := []) ?_)
              refine xs (fun _ => lv_astoreN (i := 4) (lv' := [(4, .null), (3, .int (nI (kk * 4 + k))), (2, .int (nI k)), (1, .int (bI gp)), (0, .ref (ta i))]) hx hb dX1_hasGoodTerms_37 hl (by decide) (rfl)) (fun ls hl => ?_)
              refine xl (fun _ => lv_aloadN hx hb dX1_hasGoodTerms_39 (lv_at hl 0 rfl)) ?_
              refine x_gets hx hb hts hown hK 4 (by decide) wFX1_162 dX1_hasGoodTerms_41 ?_
              refine xl (fun _ => lv_iload_n hx hb dX1_hasGoodTerms_44 rfl (lv_at hl 1 rfl)) ?_
              refine x_tald hx hb hK 4 (by decide) (kk * 4 + k) (rfl) (sp_lt28 hkk hi4) (by decide) dX1_hasGoodTerms_45 ?_
              refine x_callS E hl (c_X1_fits l G H b lo n dc t dv fc rg ta na pa hC (sg_tab 4 (kk * 4 + k)) none (no_b)) xm_yX1_fits wMX1_165 wS_yX1_fits (rest := []) rfl (by decide) (by decide) ⟨by decide, by decide⟩ dX1_hasGoodTerms_46 (x_pure (r := .int (bI (sp_fit t none (sg_tab 4 (kk * 4 + k))))) (st1 := []) ?_)
              refine xb (fun _ => lv_if_eq (tgt := 61) hx hb dX1_hasGoodTerms_49 (by decide)) (fun c_49 => ?_) (fun c_49 => ?_)
              · have c_49 := bI_f c_49
                refine xl (fun _ => lv_iconst (v := 0) hx hb dX1_hasGoodTerms_61 (by decide)) ?_
                exact x_zret hx hb hr hlocks hs0 hbs (by decide) (by decide) (by decide) dX1_hasGoodTerms_62 (pu0 (bF hB (fun z => by have := (z k hi4).1; rw [hpk, c_49] at this; cases this)))
              · have c_49 := bI_t c_49
                refine xl (fun _ => lv_iload_n hx hb dX1_hasGoodTerms_52 rfl (lv_at hl 3 rfl)) ?_
                refine xb (fun _ => lv_if_eq (tgt := 63) hx hb dX1_hasGoodTerms_53 (by decide)) (fun c_53 => ?_) (fun c_53 => ?_)
                · have c_53 := bI_f c_53
                  have hok : sp_fit t (sp_pa (t i) k) (sg_tab 4 (kk * 4 + k)) = true ∧ ¬ (sp_gap (t i) k = true ∧ ¬ sp_pa (t i) k = none) := ⟨by rw [hpk]; exact c_49, fun z => z.2 hpk⟩
                  refine xl (fun _ => lv_aloadN hx hb dX1_hasGoodTerms_63 (lv_at hl 0 rfl)) ?_
                  refine xl (fun _ => lv_ifnonnullN hx hb dX1_hasGoodTerms_65) ?_
                  refine xl (fun _ => lv_iconst (v := 1) hx hb dX1_hasGoodTerms_68 (by decide)) ?_
                  refine xl (fun _ => lv_goto (tgt := 73) hx hb dX1_hasGoodTerms_69 (by decide)) ?_
                  refine xg (g2 := F0 m 73 ls [.int (bI true)]) rfl ?_
                  refine xs (fun _ => lv_istore_n (i := 1) (lv' := [(1, .int (bI true)), (4, .null), (3, .int (nI (kk * 4 + k))), (2, .int (nI k)), (0, .ref (ta i))]) hx hb dX1_hasGoodTerms_73 rfl hl (by decide) (rfl)) (fun ls hl => ?_)
                  refine xs (fun _ => lv_iinc (v := (nI (k + 1))) (lv' := [(2, .int (nI (k + 1))), (1, .int (bI true)), (4, .null), (3, .int (nI (kk * 4 + k))), (0, .ref (ta i))]) hx hb dX1_hasGoodTerms_74 hl (k := 3) rfl (nI_1 k) (by decide) (rfl)) (fun ls hl => ?_)
                  refine xl (fun _ => lv_goto (tgt := 4) hx hb dX1_hasGoodTerms_77 (by decide)) ?_
                  exact ih (k + 1) true (by omega) (by omega) (by show _ = (sp_pa (t i) k).isNone; rw [hpk]; rfl) (fun q hq => by by_cases e : q = k; (rw [e]; exact hok); exact hall q (by omega)) ls (lv_sub hl [0, 1, 4] rfl)
                · have c_53 := bI_t c_53
                  refine xl (fun _ => lv_aloadN hx hb dX1_hasGoodTerms_56 (lv_at hl 0 rfl)) ?_
                  refine xl (fun _ => lv_ifnullN (tgt := 63) hx hb dX1_hasGoodTerms_58 (by decide)) ?_
                  have hok : sp_fit t (sp_pa (t i) k) (sg_tab 4 (kk * 4 + k)) = true ∧ ¬ (sp_gap (t i) k = true ∧ ¬ sp_pa (t i) k = none) := ⟨by rw [hpk]; exact c_49, fun z => z.2 hpk⟩
                  refine xl (fun _ => lv_aloadN hx hb dX1_hasGoodTerms_63 (lv_at hl 0 rfl)) ?_
                  refine xl (fun _ => lv_ifnonnullN hx hb dX1_hasGoodTerms_65) ?_
                  refine xl (fun _ => lv_iconst (v := 1) hx hb dX1_hasGoodTerms_68 (by decide)) ?_
                  refine xl (fun _ => lv_goto (tgt := 73) hx hb dX1_hasGoodTerms_69 (by decide)) ?_
                  refine xg (g2 := F0 m 73 ls [.int (bI true)]) rfl ?_
                  refine xs (fun _ => lv_istore_n (i := 1) (lv' := [(1, .int (bI true)), (4, .null), (3, .int (nI (kk * 4 + k))), (2, .int (nI k)), (0, .ref (ta i))]) hx hb dX1_hasGoodTerms_73 rfl hl (by decide) (rfl)) (fun ls hl => ?_)
                  refine xs (fun _ => lv_iinc (v := (nI (k + 1))) (lv' := [(2, .int (nI (k + 1))), (1, .int (bI true)), (4, .null), (3, .int (nI (kk * 4 + k))), (0, .ref (ta i))]) hx hb dX1_hasGoodTerms_74 hl (k := 3) rfl (nI_1 k) (by decide) (rfl)) (fun ls hl => ?_)
                  refine xl (fun _ => lv_goto (tgt := 4) hx hb dX1_hasGoodTerms_77 (by decide)) ?_
                  exact ih (k + 1) true (by omega) (by omega) (by show _ = (sp_pa (t i) k).isNone; rw [hpk]; rfl) (fun q hq => by by_cases e : q = k; (rw [e]; exact hok); exact hall q (by omega)) ls (lv_sub hl [0, 1, 4] rfl)
            · have hpk := hs_34
              have hj := sc_bd hC i hi k hi4 j hs_34
              refine x_callV E hl (show xC l G yX0_partAt cX0_partAt 2 (some (.object "TermSpread$Term")) 0 0 0 [.ref (ta i), .int (nI k)] H (xPu (.ref (ta j)) H) from by have q := c_X0_partAt l G H (ta i) (na i) (pa i) _ _ _ _ _ _ (hT i hi).2.2.2.1 (hT i hi).2.2.2.2.2 k hi4; rw [hs_34] at q; exact q) xm_yX0_partAt wMX1_45 wI_yX0_partAt wT_yX0_partAt (ci := 0) rfl rfl ((hT i hi).2.2.2.1) (rest := []) rfl (by decide) (by decide) ⟨by decide, by decide⟩ dX1_hasGoodTerms_34 (x_pure (r := .ref (ta j)) (st1 := []) ?_)
              refine xs (fun _ => lv_astore (i := 4) (lv' := [(4, .ref (ta j)), (3, .int (nI (kk * 4 + k))), (2, .int (nI k)), (1, .int (bI gp)), (0, .ref (ta i))]) hx hb dX1_hasGoodTerms_37 hl (by decide) (rfl)) (fun ls hl => ?_)
              refine xl (fun _ => lv_aload hx hb dX1_hasGoodTerms_39 (lv_at hl 0 rfl)) ?_
              refine x_gets hx hb hts hown hK 4 (by decide) wFX1_162 dX1_hasGoodTerms_41 ?_
              refine xl (fun _ => lv_iload_n hx hb dX1_hasGoodTerms_44 rfl (lv_at hl 1 rfl)) ?_
              refine x_tald hx hb hK 4 (by decide) (kk * 4 + k) (rfl) (sp_lt28 hkk hi4) (by decide) dX1_hasGoodTerms_45 ?_
              refine x_callS E hl (c_X1_fits l G H b lo n dc t dv fc rg ta na pa hC (sg_tab 4 (kk * 4 + k)) (some j) (so_b hj)) xm_yX1_fits wMX1_165 wS_yX1_fits (rest := []) rfl (by decide) (by decide) ⟨by decide, by decide⟩ dX1_hasGoodTerms_46 (x_pure (r := .int (bI (sp_fit t (some j) (sg_tab 4 (kk * 4 + k))))) (st1 := []) ?_)
              refine xb (fun _ => lv_if_eq (tgt := 61) hx hb dX1_hasGoodTerms_49 (by decide)) (fun c_49 => ?_) (fun c_49 => ?_)
              · have c_49 := bI_f c_49
                refine xl (fun _ => lv_iconst (v := 0) hx hb dX1_hasGoodTerms_61 (by decide)) ?_
                exact x_zret hx hb hr hlocks hs0 hbs (by decide) (by decide) (by decide) dX1_hasGoodTerms_62 (pu0 (bF hB (fun z => by have := (z k hi4).1; rw [hpk, c_49] at this; cases this)))
              · have c_49 := bI_t c_49
                refine xl (fun _ => lv_iload_n hx hb dX1_hasGoodTerms_52 rfl (lv_at hl 3 rfl)) ?_
                refine xb (fun _ => lv_if_eq (tgt := 63) hx hb dX1_hasGoodTerms_53 (by decide)) (fun c_53 => ?_) (fun c_53 => ?_)
                · have c_53 := bI_f c_53
                  have hok : sp_fit t (sp_pa (t i) k) (sg_tab 4 (kk * 4 + k)) = true ∧ ¬ (sp_gap (t i) k = true ∧ ¬ sp_pa (t i) k = none) := ⟨by rw [hpk]; exact c_49, fun z => by rw [← hgp, c_53] at z; cases z.1⟩
                  refine xl (fun _ => lv_aload hx hb dX1_hasGoodTerms_63 (lv_at hl 0 rfl)) ?_
                  refine xl (fun _ => lv_ifnonnull (tgt := 72) hx hb dX1_hasGoodTerms_65 (by decide)) ?_
                  refine xl (fun _ => lv_iconst (v := 0) hx hb dX1_hasGoodTerms_72 (by decide)) ?_
                  refine xg (g2 := F0 m 73 ls [.int (bI false)]) rfl ?_
                  refine xs (fun _ => lv_istore_n (i := 1) (lv' := [(1, .int (bI false)), (4, .ref (ta j)), (3, .int (nI (kk * 4 + k))), (2, .int (nI k)), (0, .ref (ta i))]) hx hb dX1_hasGoodTerms_73 rfl hl (by decide) (rfl)) (fun ls hl => ?_)
                  refine xs (fun _ => lv_iinc (v := (nI (k + 1))) (lv' := [(2, .int (nI (k + 1))), (1, .int (bI false)), (4, .ref (ta j)), (3, .int (nI (kk * 4 + k))), (0, .ref (ta i))]) hx hb dX1_hasGoodTerms_74 hl (k := 3) rfl (nI_1 k) (by decide) (rfl)) (fun ls hl => ?_)
                  refine xl (fun _ => lv_goto (tgt := 4) hx hb dX1_hasGoodTerms_77 (by decide)) ?_
                  exact ih (k + 1) false (by omega) (by omega) (by show _ = (sp_pa (t i) k).isNone; rw [hpk]; rfl) (fun q hq => by by_cases e : q = k; (rw [e]; exact hok); exact hall q (by omega)) ls (lv_sub hl [0, 1, 4] rfl)
                · have c_53 := bI_t c_53
                  refine xl (fun _ => lv_aload hx hb dX1_hasGoodTerms_56 (lv_at hl 0 rfl)) ?_
                  refine xl (fun _ => lv_ifnull hx hb dX1_hasGoodTerms_58) ?_
                  refine xl (fun _ => lv_iconst (v := 0) hx hb dX1_hasGoodTerms_61 (by decide)) ?_
                  exact x_zret hx hb hr hlocks hs0 hbs (by decide) (by decide) (by decide) dX1_hasGoodTerms_62 (pu0 (bF hB (fun z => (z k hi4).2 ⟨by rw [← hgp]; exact c_53, by rw [hpk]; exact fun e => by cases e⟩)))
          · exact absurd ((nI_ltI (b := 28) (by omega) (by decide)).mpr h28) c_27
  exact hloop 5 0 false (by decide) (by decide) rfl (fun k hk => absurd hk (Nat.not_lt_zero k)) ls (lv_sub hl [0, 1, 2] rfl)

set_option maxHeartbeats 4000000 in
set_option maxRecDepth 100000 in
theorem c_X1_good (l : Launch) (G : sg_G) (H : Heap) (b lo n : Nat) (t : Nat → sp_T) (rg : Nat → Option Nat) (g : Nat → Prop) (hH : sc_H G b lo n t rg g H) (x : Int32) : xC l G yX1_good cX1_good 3 (some FieldType.int) 3 0 0 [.ref b, .int x] H (xPu (.int (op_good (n, t, rg, g) x)) H) := by
  refine xC.start (by decide) (Nat.le_of_ble_eq_true rfl) ?_
  intro p e s m args below meth c ls E hnm hs0 hl
  obtain ⟨hx, hb, hml, hown, hts, hr, hlocks, hK, hbs⟩ := id E
  have hl : lv_has ls 3 [(0, .ref b), (1, .int x)] := hl
  obtain ⟨ta, na, pa, dv, hV, hD, hg⟩ := id hH
  obtain ⟨fc, hC, hfI⟩ := id hV
  obtain ⟨hw, hb0, hb4, hlo, hn5, hX, hRG, hMD, hZR, hT, hrg, hwf⟩ := id hC
  have hFF : sc_F b lo H H := sc_F.rf
  have hSS : H.size = H.size := rfl
  refine xl (fun _ => lv_aload_n hx hb dX1_good_0 rfl (lv_at hl 0 rfl)) ?_
  refine xl (fun _ => lv_iload_n hx hb dX1_good_1 rfl (lv_at hl 1 rfl)) ?_
  refine xl (fun _ => lv_bipush (v := 7) hx hb dX1_good_2 (by decide)) ?_
  rcases hs_4 : sp_rs t rg x 7 with _ | i
  · refine x_callV E hl (c_X1_termOfSort_n l G H b lo n _ t dv fc rg ta na pa hC x 7 hs_4) xm_yX1_termOfSort wMX1_37 wI_yX1_termOfSort wT_yX1_termOfSort (ci := 1) rfl rfl hX (rest := []) rfl (by decide) (by decide) ⟨by decide, by decide⟩ dX1_good_4 (x_pure (r := .null) (st1 := []) ?_)
    refine xs (fun _ => lv_astore_nN (i := 2) (lv' := [(2, .null), (0, .ref b), (1, .int x)]) hx hb dX1_good_7 rfl hl (by decide) (rfl)) (fun ls hl => ?_)
    refine xl (fun _ => lv_aload_nN hx hb dX1_good_8 rfl (lv_at hl 0 rfl)) ?_
    refine xl (fun _ => lv_ifnonnullN hx hb dX1_good_9) ?_
    refine xl (fun _ => lv_iconst (v := (-1)) hx hb dX1_good_12 (by decide)) ?_
    exact x_iret hx hb hr hlocks hs0 hbs (by decide) (by decide) dX1_good_13 (⟨by simp only [op_good, hs_4], rfl⟩)
  · have hi := sp_rg_lt hrg (sp_rs_of hs_4).1
    refine x_callV E hl (c_X1_termOfSort_s l G H b lo n _ t dv fc rg ta na pa hC x 7 hs_4) xm_yX1_termOfSort wMX1_37 wI_yX1_termOfSort wT_yX1_termOfSort (ci := 1) rfl rfl hX (rest := []) rfl (by decide) (by decide) ⟨by decide, by decide⟩ dX1_good_4 (x_pure (r := .ref (ta i)) (st1 := []) ?_)
    refine xs (fun _ => lv_astore_n (i := 2) (lv' := [(2, .ref (ta i)), (0, .ref b), (1, .int x)]) hx hb dX1_good_7 rfl hl (by decide) (rfl)) (fun ls hl => ?_)
    refine xl (fun _ => lv_aload_n hx hb dX1_good_8 rfl (lv_at hl 0 rfl)) ?_
    refine xl (fun _ => lv_ifnonnull (tgt := 14) hx hb dX1_good_9 (by decide)) ?_
    refine xl (fun _ => lv_aload_n hx hb dX1_good_14 rfl (lv_at hl 0 rfl)) ?_
    obtain ⟨kk, hkk, hla⟩ := sp_wf7 (hwf i hi) (sp_rs_of hs_4).2
    have hcl : (sp_la (t i)).toNatClampNeg - 1 = kk := by rw [hla, nI_clamp (by omega)]; omega
    refine x_callS E hl (c_X1_hasGoodNumbers l G H b lo n _ t dv fc rg ta na pa hC i hi kk hkk hla (cB (sp_gn (t i) kk)) cB_t) xm_yX1_hasGoodNumbers wMX1_95 wS_yX1_hasGoodNumbers (rest := []) rfl (by decide) (by decide) ⟨by decide, by decide⟩ dX1_good_15 (x_pure (r := .int (bI (cB (sp_gn (t i) kk)))) (st1 := []) ?_)
    refine xb (fun _ => lv_if_eq (tgt := 32) hx hb dX1_good_18 (by decide)) (fun c_18 => ?_) (fun c_18 => ?_)
    · have c_18 := bI_f c_18
      refine xl (fun _ => lv_iconst (v := 0) hx hb dX1_good_32 (by decide)) ?_
      exact x_iret hx hb hr hlocks hs0 hbs (by decide) (by decide) dX1_good_33 (⟨by simp only [op_good, hs_4, hcl]; rw [bF cB_t (fun z => by rw [cB_t.mpr z.1] at c_18; cases c_18)]; rfl, rfl⟩)
    · have c_18 := bI_t c_18
      refine xl (fun _ => lv_aload_n hx hb dX1_good_21 rfl (lv_at hl 0 rfl)) ?_
      refine x_callS E hl (c_X1_hasGoodTerms l G H b lo n _ t dv fc rg ta na pa hC i hi kk hkk hla (cB (sp_gt t (t i) kk)) cB_t) xm_yX1_hasGoodTerms wMX1_99 wS_yX1_hasGoodTerms (rest := []) rfl (by decide) (by decide) ⟨by decide, by decide⟩ dX1_good_22 (x_pure (r := .int (bI (cB (sp_gt t (t i) kk)))) (st1 := []) ?_)
      refine xb (fun _ => lv_if_eq (tgt := 32) hx hb dX1_good_25 (by decide)) (fun c_25 => ?_) (fun c_25 => ?_)
      · have c_25 := bI_f c_25
        refine xl (fun _ => lv_iconst (v := 0) hx hb dX1_good_32 (by decide)) ?_
        exact x_iret hx hb hr hlocks hs0 hbs (by decide) (by decide) dX1_good_33 (⟨by simp only [op_good, hs_4, hcl]; rw [bF cB_t (fun z => by rw [cB_t.mpr z.2] at c_25; cases c_25)]; rfl, rfl⟩)
      · have c_25 := bI_t c_25
        refine xl (fun _ => lv_iconst (v := 1) hx hb dX1_good_28 (by decide)) ?_
        refine xl (fun _ => lv_goto (tgt := 33) hx hb dX1_good_29 (by decide)) ?_
        exact x_iret hx hb hr hlocks hs0 hbs (by decide) (by decide) dX1_good_33 (⟨by simp only [op_good, hs_4, hcl]; rw [cB_t.mpr ⟨cB_t.mp c_18, cB_t.mp c_25⟩]; rfl, rfl⟩)

set_option maxHeartbeats 4000000 in
set_option maxRecDepth 100000 in
theorem c_X1_init (l : Launch) (G : sg_G) (H : Heap) (b : Nat) (hX : ob_ G H b 1 [.null, .null, .int 0, .int 0, .null]) (hsz : H.size = b + 1) (hba : sg_B G ≤ b) : xC l G yX1_init cX1_init 1 none 1 3 580 [.ref b] H (fun v H' => v = none ∧ H'.size = b + 4 ∧ ob_ G H' b 1 [.ref (b + 1), .ref (b + 2), .int 0, .int 0, .ref (b + 3)] ∧ ra_ G H' (b + 1) 64 (fun _ => none) ∧ ra_ G H' (b + 2) 512 (fun _ => none) ∧ ia_ G H' (b + 3) 4 (fun _ => 0) ∧ ∀ q, q < b → H'[q]? = H[q]?) := by
  refine xC.start (by decide) (Nat.le_of_ble_eq_true rfl) ?_
  intro p e s m args below meth c ls E hnm hs0 hl
  obtain ⟨hx, hb, hml, hown, hts, hr, hlocks, hK, hbs⟩ := id E
  have hl : lv_has ls 1 [(0, .ref b)] := hl
  have hszp := hsz
  have hF : ∀ q, q < b → H[q]? = H[q]? := fun _ _ => rfl
  refine xl (fun _ => lv_aload_n hx hb dX1_init_0 rfl (lv_at hl 0 rfl)) ?_
  refine xl (fun _ => W.objInit hx hb hown (hts _ wMX1_1) (hts _ wI_yO) (hts _ wC_yO) rfl (by rw [hml]; exact hl.1) rfl dX1_init_1 (Nat.le_of_ble_eq_true rfl) (Nat.le_of_ble_eq_true rfl)) ?_
  refine xg (g2 := F0 m 4 ls []) rfl ?_
  refine xl (fun _ => lv_aload_n hx hb dX1_init_4 rfl (lv_at hl 0 rfl)) ?_
  refine xl (fun _ => lv_bipush (v := 64) hx hb dX1_init_5 (by decide)) ?_
  refine x_newr (N := 64) hx hb hts hown hK wKX1_9 (by decide) (by decide) (by decide) (by decide) (by decide) dX1_init_7 (fun H_1 ho_2 hz_3 hq_4 => ?_)
  have k_5 := va_at.kept (H1 := H_1) (hX) (hq_4 _ (va_at.lt (hX)))
  have hA1 : ra_ G H_1 (b + 1) 64 (fun _ => none) := by rw [← hsz]; exact ho_2
  have hsz : H_1.size = b + 2 := by omega
  have hF : ∀ q, q < b → H_1[q]? = H[q]? := fun q h => (hq_4 q (by omega)).trans (hF q h)
  refine xg (g2 := F0 m 10 ls [.ref (b + 1), .ref b]) (by rw [hszp]) ?_
  refine x_putF (ci := 1) hx hb hts hown hK wiX1 tyX1 tyX1_ok nmX1 k_5 rfl 0 (by decide) wFX1_11 rfl rfl hnm rfl (rfl) (rfl) (by simp) (hba) dX1_init_10 (fun H_6 ho_7 hz_8 hq_9 => ?_)
  have ho_7 : ob_ G H_6 b 1 [.ref (b + 1), .null, .int 0, .int 0, .null] := ho_7
  have k_10 := va_at.kept (H1 := H_6) (hA1) (hq_9 _ (by omega))
  have hszp : H_6.size = b + 2 := hz_8.trans hsz
  have hsz := hszp
  have hF : ∀ q, q < b → H_6[q]? = H[q]? := fun q h => (hq_9 q (by omega)).trans (hF q h)
  refine xl (fun _ => lv_aload_n hx hb dX1_init_13 rfl (lv_at hl 0 rfl)) ?_
  refine xl (fun _ => lv_sipush (v := 512) hx hb dX1_init_14 (by decide)) ?_
  refine x_newr (N := 512) hx hb hts hown hK wKX1_9 (by decide) (by decide) (by decide) (by decide) (by decide) dX1_init_17 (fun H_11 ho_12 hz_13 hq_14 => ?_)
  have k_15 := va_at.kept (H1 := H_11) (ho_7) (hq_14 _ (va_at.lt (ho_7)))
  have k_16 := va_at.kept (H1 := H_11) (k_10) (hq_14 _ (va_at.lt (k_10)))
  have hA2 : ra_ G H_11 (b + 2) 512 (fun _ => none) := by rw [← hsz]; exact ho_12
  have hsz : H_11.size = b + 3 := by omega
  have hF : ∀ q, q < b → H_11[q]? = H[q]? := fun q h => (hq_14 q (by omega)).trans (hF q h)
  refine xg (g2 := F0 m 20 ls [.ref (b + 2), .ref b]) (by rw [hszp]) ?_
  refine x_putF (ci := 1) hx hb hts hown hK wiX1 tyX1 tyX1_ok nmX1 k_15 rfl 1 (by decide) wFX1_15 rfl rfl hnm rfl (rfl) (rfl) (by simp) (hba) dX1_init_20 (fun H_17 ho_18 hz_19 hq_20 => ?_)
  have ho_18 : ob_ G H_17 b 1 [.ref (b + 1), .ref (b + 2), .int 0, .int 0, .null] := ho_18
  have k_21 := va_at.kept (H1 := H_17) (k_16) (hq_20 _ (by omega))
  have k_22 := va_at.kept (H1 := H_17) (hA2) (hq_20 _ (by omega))
  have hszp : H_17.size = b + 3 := hz_19.trans hsz
  have hsz := hszp
  have hF : ∀ q, q < b → H_17[q]? = H[q]? := fun q h => (hq_20 q (by omega)).trans (hF q h)
  refine xl (fun _ => lv_aload_n hx hb dX1_init_23 rfl (lv_at hl 0 rfl)) ?_
  refine xl (fun _ => lv_iconst (v := 0) hx hb dX1_init_24 (by decide)) ?_
  refine x_put (ci := 1) hx hb hts hown hK wiX1 tyX1 tyX1_ok nmX1 ho_18 rfl 2 (by decide) wFX1_18 rfl rfl (rfl) (rfl) (by simp) (hba) dX1_init_25 (fun H_23 ho_24 hz_25 hq_26 => ?_)
  have ho_24 : ob_ G H_23 b 1 [.ref (b + 1), .ref (b + 2), .int 0, .int 0, .null] := ho_24
  have k_27 := va_at.kept (H1 := H_23) (k_21) (hq_26 _ (by omega))
  have k_28 := va_at.kept (H1 := H_23) (k_22) (hq_26 _ (by omega))
  have hszp : H_23.size = b + 3 := hz_25.trans hsz
  have hsz := hszp
  have hF : ∀ q, q < b → H_23[q]? = H[q]? := fun q h => (hq_26 q (by omega)).trans (hF q h)
  refine xl (fun _ => lv_aload_n hx hb dX1_init_28 rfl (lv_at hl 0 rfl)) ?_
  refine xl (fun _ => lv_iconst (v := 0) hx hb dX1_init_29 (by decide)) ?_
  refine x_put (ci := 1) hx hb hts hown hK wiX1 tyX1 tyX1_ok nmX1 ho_24 rfl 3 (by decide) wFX1_22 rfl rfl (rfl) (rfl) (by simp) (hba) dX1_init_30 (fun H_29 ho_30 hz_31 hq_32 => ?_)
  have ho_30 : ob_ G H_29 b 1 [.ref (b + 1), .ref (b + 2), .int 0, .int 0, .null] := ho_30
  have k_33 := va_at.kept (H1 := H_29) (k_27) (hq_32 _ (by omega))
  have k_34 := va_at.kept (H1 := H_29) (k_28) (hq_32 _ (by omega))
  have hszp : H_29.size = b + 3 := hz_31.trans hsz
  have hsz := hszp
  have hF : ∀ q, q < b → H_29[q]? = H[q]? := fun q h => (hq_32 q (by omega)).trans (hF q h)
  refine xl (fun _ => lv_aload_n hx hb dX1_init_33 rfl (lv_at hl 0 rfl)) ?_
  refine xl (fun _ => lv_iconst (v := 4) hx hb dX1_init_34 (by decide)) ?_
  refine x_newi (N := 4) hx hb hts hK wA_int (by decide) (by decide) (by decide) (by decide) (by decide) dX1_init_35 (fun H_35 ho_36 hz_37 hq_38 => ?_)
  have k_39 := va_at.kept (H1 := H_35) (ho_30) (hq_38 _ (va_at.lt (ho_30)))
  have k_40 := va_at.kept (H1 := H_35) (k_33) (hq_38 _ (va_at.lt (k_33)))
  have k_41 := va_at.kept (H1 := H_35) (k_34) (hq_38 _ (va_at.lt (k_34)))
  have hA3 : ia_ G H_35 (b + 3) 4 (fun _ => 0) := by rw [← hsz]; exact ho_36
  have hsz : H_35.size = b + 4 := by omega
  have hF : ∀ q, q < b → H_35[q]? = H[q]? := fun q h => (hq_38 q (by omega)).trans (hF q h)
  refine xg (g2 := F0 m 37 ls [.ref (b + 3), .ref b]) (by rw [hszp]) ?_
  refine x_putF (ci := 1) hx hb hts hown hK wiX1 tyX1 tyX1_ok nmX1 k_39 rfl 4 (by decide) wFX1_25 rfl rfl hnm rfl (rfl) (rfl) (by simp) (hba) dX1_init_37 (fun H_42 ho_43 hz_44 hq_45 => ?_)
  have ho_43 : ob_ G H_42 b 1 [.ref (b + 1), .ref (b + 2), .int 0, .int 0, .ref (b + 3)] := ho_43
  have k_46 := va_at.kept (H1 := H_42) (k_40) (hq_45 _ (by omega))
  have k_47 := va_at.kept (H1 := H_42) (k_41) (hq_45 _ (by omega))
  have k_48 := va_at.kept (H1 := H_42) (hA3) (hq_45 _ (by omega))
  have hszp : H_42.size = b + 4 := hz_44.trans hsz
  have hsz := hszp
  have hF : ∀ q, q < b → H_42[q]? = H[q]? := fun q h => (hq_45 q (by omega)).trans (hF q h)
  exact x_vret hx hb hr hlocks hs0 hbs (by decide) (by decide) dX1_init_40 (⟨rfl, hsz, ho_43, k_46, k_47, k_48, hF⟩)
end
section
/-! THE REFERENCE'S WORLD: its object at mb, its nine arrays behind it -/
def sm_X (G : sg_G) (mb n : Nat) (so on tw th ce gi kn li re : Nat → Int32) (sec : Int32) (H : Heap) : Prop :=
  sg_B G ≤ mb ∧ n ≤ 512 ∧ ob_ G H mb 2 [.int (nI n), .ref (mb + 1), .ref (mb + 2), .ref (mb + 3), .ref (mb + 4), .ref (mb + 5), .ref (mb + 6), .ref (mb + 7), .ref (mb + 8), .ref (mb + 9), .int sec] ∧
  ia_ G H (mb + 1) 640 so ∧ ia_ G H (mb + 2) 640 on ∧ ia_ G H (mb + 3) 640 tw ∧ ia_ G H (mb + 4) 640 th ∧ ia_ G H (mb + 5) 5120 ce ∧ za_ G H (mb + 6) 640 gi ∧ za_ G H (mb + 7) 640 kn ∧ ia_ G H (mb + 8) 8 li ∧ ia_ G H (mb + 9) 64 re
theorem sm_X.kept {G : sg_G} {mb n : Nat} {so on tw th ce gi kn li re : Nat → Int32} {sec : Int32} {H H1 : Heap} (h : sm_X G mb n so on tw th ce gi kn li re sec H) (hq : ∀ q, mb ≤ q → q < mb + 10 → H1[q]? = H[q]?) : sm_X G mb n so on tw th ce gi kn li re sec H1 := by
  obtain ⟨a, b, c, d1, d2, d3, d4, d5, d6, d7, d8, d9⟩ := h
  exact ⟨a, b, c.kept (hq _ (by omega) (by omega)), d1.kept (hq _ (by omega) (by omega)), d2.kept (hq _ (by omega) (by omega)), d3.kept (hq _ (by omega) (by omega)), d4.kept (hq _ (by omega) (by omega)), d5.kept (hq _ (by omega) (by omega)), d6.kept (hq _ (by omega) (by omega)), d7.kept (hq _ (by omega) (by omega)), d8.kept (hq _ (by omega) (by omega)), d9.kept (hq _ (by omega) (by omega))⟩
def sm_F (mb : Nat) (H H' : Heap) : Prop := H'.size = H.size ∧ ∀ q, (q < mb ∨ mb + 10 ≤ q) → H'[q]? = H[q]?
theorem sm_F.rf {mb : Nat} {H : Heap} : sm_F mb H H := ⟨rfl, fun _ _ => rfl⟩
theorem sm_F.tr {mb : Nat} {H H1 H2 : Heap} (h1 : sm_F mb H H1) (h2 : sm_F mb H1 H2) : sm_F mb H H2 := ⟨h2.1.trans h1.1, fun q a => (h2.2 q a).trans (h1.2 q a)⟩
theorem sm_F.put {mb a : Nat} {H H1 H2 : Heap} (h1 : sm_F mb H H1) (hz : H2.size = H1.size) (hq : ∀ q, q ≠ a → H2[q]? = H1[q]?) (ha : mb ≤ a ∧ a < mb + 10) : sm_F mb H H2 := ⟨hz.trans h1.1, fun q h => (hq q (by omega)).trans (h1.2 q h)⟩
def px (o : Option Nat) : Int32 := match o with
  | none => 0
  | some j => nI (j + 1)
theorem px_inj {o o' : Option Nat} (h : ∀ j, o = some j → j < 1000) (h' : ∀ j, o' = some j → j < 1000) (e : px o = px o') : o = o' := by
  cases o with
  | none => cases o' with
    | none => rfl
    | some y =>
      have := (nI_eq (a := 0) (b := y + 1) (by omega) (by have := h' y rfl; omega)).mp e
      omega
  | some x => cases o' with
    | none =>
      have := (nI_eq (a := x + 1) (b := 0) (by have := h x rfl; omega) (by omega)).mp e
      omega
    | some y =>
      have := (nI_eq (a := x + 1) (b := y + 1) (by have := h x rfl; omega) (by have := h' y rfl; omega)).mp e
      rw [show x = y by omega]
def e1 (d : sp_T) : Int32 := if sp_so d = 4 ∨ sp_so d = 7 then sp_la d else px (sp_pa d 0)
def e2 (d : sp_T) : Int32 := if sp_so d = 4 then px (sp_pa d 0) else if sp_so d = 3 ∨ sp_so d = 5 ∨ sp_so d = 6 then px (sp_pa d 1) else 0
def e3 (d : sp_T) : Int32 := if sp_so d = 4 then px (sp_pa d 1) else if sp_so d = 5 then px (sp_pa d 2) else 0
def e8 (d : sp_T) (k : Nat) : Int32 := if sp_so d = 7 then (if k < 4 then sp_nu d k else px (sp_pa d (k - 4))) else 0
def sm_R (n : Nat) (t : Nat → sp_T) (rg : Nat → Option Nat) (so on tw th ce re : Nat → Int32) : Prop :=
  (∀ i, i < n → so i = sp_so (t i) ∧ (¬ sp_so (t i) = 1 → on i = e1 (t i)) ∧ tw i = e2 (t i) ∧ th i = e3 (t i) ∧ ∀ k, k < 8 → ce (8 * i + k) = e8 (t i) k) ∧ (∀ k, k < 64 → re k = px (rg k)) ∧ (∀ k, k < 64 → ∀ i, rg k = some i → i < n) ∧ ∀ i, i < n → sp_wf t i (t i)
def sm_Q (n : Nat) (t : Nat → sp_T) (ns : Nat) (on : Nat → Int32) : Prop := ∀ i, i < n → sp_so (t i) = 1 → ∃ k, 1 ≤ k ∧ k ≤ ns ∧ on i = nI k
def sm_H (G : sg_G) (mb n : Nat) (t : Nat → sp_T) (rg : Nat → Option Nat) (g : Nat → Prop) (H : Heap) : Prop :=
  ∃ (so on tw th ce : Nat → Int32) (kb : Nat → Bool) (li re : Nat → Int32) (ns : Nat), sm_X G mb n so on tw th ce (fun i => bI (cB (g i))) (fun i => bI (kb i)) li re (nI ns) H ∧ sm_R n t rg so on tw th ce re ∧ sm_Q n t ns on ∧ ns ≤ n ∧ ∀ i, g i → i < n
def sm_HS (G : sg_G) (mb : Nat) (a : sp_S) (H : Heap) : Prop := sm_H G mb a.1 a.2.1 a.2.2.1 a.2.2.2 H
/-! how a term of each sort is made -/
theorem wf_sort {t : Nat → sp_T} {n : Nat} {d : sp_T} (h : sp_wf t n d) : sp_so d = 1 ∨ sp_so d = 2 ∨ sp_so d = 3 ∨ sp_so d = 4 ∨ sp_so d = 5 ∨ sp_so d = 6 ∨ sp_so d = 7 := by
  obtain ⟨-, h⟩ := h
  rcases h with h | h | h | h | h | h | h
  · exact Or.inl h.1
  · exact Or.inr (Or.inl h.1)
  · exact Or.inr (Or.inr (Or.inl h.1))
  · exact Or.inr (Or.inr (Or.inr (Or.inl h.1)))
  · exact Or.inr (Or.inr (Or.inr (Or.inr (Or.inl h.1))))
  · exact Or.inr (Or.inr (Or.inr (Or.inr (Or.inr (Or.inl h.1)))))
  · exact Or.inr (Or.inr (Or.inr (Or.inr (Or.inr (Or.inr h.1)))))
theorem wf_la {t : Nat → sp_T} {n : Nat} {d : sp_T} (h : sp_wf t n d) (n4 : ¬ sp_so d = 4) (n7 : ¬ sp_so d = 7) : sp_la d = 0 := by
  obtain ⟨-, h⟩ := h
  rcases h with h | h | h | h | h | h | h
  · exact h.2.1
  · exact h.2.1
  · exact h.2.1
  · exact absurd h.1 n4
  · exact h.2.1
  · exact h.2.1
  · exact absurd h.1 n7
theorem wf_nu {t : Nat → sp_T} {n : Nat} {d : sp_T} (h : sp_wf t n d) (n7 : ¬ sp_so d = 7) : ∀ k, k < 4 → sp_nu d k = 0 := by
  obtain ⟨-, h⟩ := h
  rcases h with h | h | h | h | h | h | h
  · exact h.2.2.1
  · exact h.2.2.1
  · exact h.2.2.1
  · exact h.2.1
  · exact h.2.2.1
  · exact h.2.2.1
  · exact absurd h.1 n7
/-- beyond a term's own places there is NOTHING -/
theorem wf_no {t : Nat → sp_T} {n : Nat} {d : sp_T} (h : sp_wf t n d) : (sp_so d = 1 → ∀ k, k < 4 → sp_pa d k = none) ∧ (sp_so d = 2 → sp_pa d 1 = none ∧ sp_pa d 2 = none ∧ sp_pa d 3 = none) ∧ (sp_so d = 3 → sp_pa d 2 = none ∧ sp_pa d 3 = none) ∧ (sp_so d = 4 → sp_pa d 2 = none ∧ sp_pa d 3 = none) ∧ (sp_so d = 5 → sp_pa d 3 = none) ∧ (sp_so d = 6 → sp_pa d 2 = none ∧ sp_pa d 3 = none) := by
  obtain ⟨-, h⟩ := h
  rcases h with h | h | h | h | h | h | h <;> rw [h.1]
  · exact ⟨fun _ => h.2.2.2, fun e => absurd e (by decide), fun e => absurd e (by decide), fun e => absurd e (by decide), fun e => absurd e (by decide), fun e => absurd e (by decide)⟩
  · exact ⟨fun e => absurd e (by decide), fun _ => h.2.2.2.2, fun e => absurd e (by decide), fun e => absurd e (by decide), fun e => absurd e (by decide), fun e => absurd e (by decide)⟩
  · exact ⟨fun e => absurd e (by decide), fun e => absurd e (by decide), fun _ => h.2.2.2.2, fun e => absurd e (by decide), fun e => absurd e (by decide), fun e => absurd e (by decide)⟩
  · exact ⟨fun e => absurd e (by decide), fun e => absurd e (by decide), fun e => absurd e (by decide), fun _ => h.2.2.2, fun e => absurd e (by decide), fun e => absurd e (by decide)⟩
  · exact ⟨fun e => absurd e (by decide), fun e => absurd e (by decide), fun e => absurd e (by decide), fun e => absurd e (by decide), fun _ => h.2.2.2.2, fun e => absurd e (by decide)⟩
  · exact ⟨fun e => absurd e (by decide), fun e => absurd e (by decide), fun e => absurd e (by decide), fun e => absurd e (by decide), fun e => absurd e (by decide), fun _ => h.2.2.2.2⟩
  · exact ⟨fun e => absurd e (by decide), fun e => absurd e (by decide), fun e => absurd e (by decide), fun e => absurd e (by decide), fun e => absurd e (by decide), fun e => absurd e (by decide)⟩
/-! the numbers of a term, sort by sort -/
theorem e_2 {d : sp_T} (h : sp_so d = 2) : e1 d = px (sp_pa d 0) ∧ e2 d = 0 ∧ e3 d = 0 := by simp [e1, e2, e3, h]
theorem e_3 {d : sp_T} (h : sp_so d = 3) : e1 d = px (sp_pa d 0) ∧ e2 d = px (sp_pa d 1) ∧ e3 d = 0 := by simp [e1, e2, e3, h]
theorem e_4 {d : sp_T} (h : sp_so d = 4) : e1 d = sp_la d ∧ e2 d = px (sp_pa d 0) ∧ e3 d = px (sp_pa d 1) := by simp [e1, e2, e3, h]
theorem e_5 {d : sp_T} (h : sp_so d = 5) : e1 d = px (sp_pa d 0) ∧ e2 d = px (sp_pa d 1) ∧ e3 d = px (sp_pa d 2) := by simp [e1, e2, e3, h]
theorem e_6 {d : sp_T} (h : sp_so d = 6) : e1 d = px (sp_pa d 0) ∧ e2 d = px (sp_pa d 1) ∧ e3 d = 0 := by simp [e1, e2, e3, h]
theorem e_7 {d : sp_T} (h : sp_so d = 7) : e1 d = sp_la d ∧ e2 d = 0 ∧ e3 d = 0 := by simp [e1, e2, e3, h]
theorem e8_7n {d : sp_T} (h : sp_so d = 7) {k : Nat} (hk : k < 4) : e8 d k = sp_nu d k := by simp [e8, h, hk]
theorem e8_7p {d : sp_T} (h : sp_so d = 7) (k : Nat) : e8 d (4 + k) = px (sp_pa d k) := by
  unfold e8
  rw [if_pos h, if_neg (by omega), Nat.add_sub_cancel_left]
theorem e8_0 {d : sp_T} (h : ¬ sp_so d = 7) (k : Nat) : e8 d k = 0 := by simp [e8, h]
theorem all4 {P : Nat → Prop} (h0 : P 0) (h1 : P 1) (h2 : P 2) (h3 : P 3) : ∀ k, k < 4 → P k := by
  intro k hk
  rcases (show k = 0 ∨ k = 1 ∨ k = 2 ∨ k = 3 by omega) with rfl | rfl | rfl | rfl
  · exact h0
  · exact h1
  · exact h2
  · exact h3
/-- two terms are made alike just if their numbers are -/
theorem enc_lk {t : Nat → sp_T} {n m : Nat} {x d : sp_T} (hn : n ≤ 512) (hm : m ≤ 512) (hx : sp_wf t n x) (hd : sp_wf t m d) (n1 : ¬ sp_so d = 1) : sp_lk x d ↔ (sp_so x = sp_so d ∧ e1 x = e1 d ∧ e2 x = e2 d ∧ e3 x = e3 d ∧ (sp_so d = 7 → ∀ k, k < 8 → e8 x k = e8 d k)) := by
  constructor
  · rintro ⟨-, h1, h2, h3⟩
    refine ⟨h1, ?_, ?_, ?_, fun h7 k hk => ?_⟩
    · unfold e1; rw [h1, h2, (h3 0 (by omega)).1]
    · unfold e2; rw [h1, (h3 0 (by omega)).1, (h3 1 (by omega)).1]
    · unfold e3; rw [h1, (h3 1 (by omega)).1, (h3 2 (by omega)).1]
    · unfold e8
      rw [h1]
      by_cases h4 : k < 4
      · rw [if_pos h4, if_pos h4, (h3 k h4).2]
      · rw [if_neg h4, if_neg h4, (h3 (k - 4) (by omega)).1]
  · rintro ⟨h1, q1, q2, q3, q8⟩
    have px_i : ∀ k, k < 4 → px (sp_pa x k) = px (sp_pa d k) → sp_pa x k = sp_pa d k := fun k hk e => px_inj (fun j h => by have := hx.1 k hk j h; omega) (fun j h => by have := hd.1 k hk j h; omega) e
    have zx := wf_no hx
    have zd := wf_no hd
    rcases wf_sort hd with h | h | h | h | h | h | h
    · exact absurd h n1
    · have hx' := h1.trans h
      have a := e_2 h
      have b := e_2 hx'
      refine ⟨by rw [hx']; decide, h1, (wf_la hx (by rw [hx']; decide) (by rw [hx']; decide)).trans (wf_la hd (by rw [h]; decide) (by rw [h]; decide)).symm, fun k hk => ⟨?_, (wf_nu hx (by rw [hx']; decide) k hk).trans (wf_nu hd (by rw [h]; decide) k hk).symm⟩⟩
      revert k
      refine all4 (px_i 0 (by omega) ?_) ?_ ?_ ?_
      · rw [← a.1, ← b.1]; exact q1
      · rw [(zx.2.1 hx').1, (zd.2.1 h).1]
      · rw [(zx.2.1 hx').2.1, (zd.2.1 h).2.1]
      · rw [(zx.2.1 hx').2.2, (zd.2.1 h).2.2]
    · have hx' := h1.trans h
      have a := e_3 h
      have b := e_3 hx'
      refine ⟨by rw [hx']; decide, h1, (wf_la hx (by rw [hx']; decide) (by rw [hx']; decide)).trans (wf_la hd (by rw [h]; decide) (by rw [h]; decide)).symm, fun k hk => ⟨?_, (wf_nu hx (by rw [hx']; decide) k hk).trans (wf_nu hd (by rw [h]; decide) k hk).symm⟩⟩
      revert k
      refine all4 (px_i 0 (by omega) ?_) (px_i 1 (by omega) ?_) ?_ ?_
      · rw [← a.1, ← b.1]; exact q1
      · rw [← a.2.1, ← b.2.1]; exact q2
      · rw [(zx.2.2.1 hx').1, (zd.2.2.1 h).1]
      · rw [(zx.2.2.1 hx').2, (zd.2.2.1 h).2]
    · have hx' := h1.trans h
      have a := e_4 h
      have b := e_4 hx'
      refine ⟨by rw [hx']; decide, h1, by rw [← a.1, ← b.1]; exact q1, fun k hk => ⟨?_, (wf_nu hx (by rw [hx']; decide) k hk).trans (wf_nu hd (by rw [h]; decide) k hk).symm⟩⟩
      revert k
      refine all4 (px_i 0 (by omega) ?_) (px_i 1 (by omega) ?_) ?_ ?_
      · rw [← a.2.1, ← b.2.1]; exact q2
      · rw [← a.2.2, ← b.2.2]; exact q3
      · rw [(zx.2.2.2.1 hx').1, (zd.2.2.2.1 h).1]
      · rw [(zx.2.2.2.1 hx').2, (zd.2.2.2.1 h).2]
    · have hx' := h1.trans h
      have a := e_5 h
      have b := e_5 hx'
      refine ⟨by rw [hx']; decide, h1, (wf_la hx (by rw [hx']; decide) (by rw [hx']; decide)).trans (wf_la hd (by rw [h]; decide) (by rw [h]; decide)).symm, fun k hk => ⟨?_, (wf_nu hx (by rw [hx']; decide) k hk).trans (wf_nu hd (by rw [h]; decide) k hk).symm⟩⟩
      revert k
      refine all4 (px_i 0 (by omega) ?_) (px_i 1 (by omega) ?_) (px_i 2 (by omega) ?_) ?_
      · rw [← a.1, ← b.1]; exact q1
      · rw [← a.2.1, ← b.2.1]; exact q2
      · rw [← a.2.2, ← b.2.2]; exact q3
      · rw [zx.2.2.2.2.1 hx', zd.2.2.2.2.1 h]
    · have hx' := h1.trans h
      have a := e_6 h
      have b := e_6 hx'
      refine ⟨by rw [hx']; decide, h1, (wf_la hx (by rw [hx']; decide) (by rw [hx']; decide)).trans (wf_la hd (by rw [h]; decide) (by rw [h]; decide)).symm, fun k hk => ⟨?_, (wf_nu hx (by rw [hx']; decide) k hk).trans (wf_nu hd (by rw [h]; decide) k hk).symm⟩⟩
      revert k
      refine all4 (px_i 0 (by omega) ?_) (px_i 1 (by omega) ?_) ?_ ?_
      · rw [← a.1, ← b.1]; exact q1
      · rw [← a.2.1, ← b.2.1]; exact q2
      · rw [(zx.2.2.2.2.2 hx').1, (zd.2.2.2.2.2 h).1]
      · rw [(zx.2.2.2.2.2 hx').2, (zd.2.2.2.2.2 h).2]
    · have hx' := h1.trans h
      have a := e_7 h
      have b := e_7 hx'
      have q8 := q8 h
      refine ⟨by rw [hx']; decide, h1, by rw [← a.1, ← b.1]; exact q1, fun k hk => ⟨px_i k hk ?_, ?_⟩⟩
      · rw [← e8_7p h, ← e8_7p hx']; exact q8 (4 + k) (by omega)
      · rw [← e8_7n h hk, ← e8_7n hx' hk]; exact q8 k (by omega)
theorem sp_rg_s {rg : Nat → Option Nat} {x : Int32} {i : Nat} (h : sp_rg rg x = some i) : ∃ j, j < 64 ∧ x = nI j ∧ rg j = some i := by
  cases hx : sp_ir x with
  | false => rw [sp_rg_no hx] at h; cases h
  | true =>
    obtain ⟨j, hj, rfl⟩ := sp_ir_of hx
    rw [sp_rg_nI hj] at h
    exact ⟨j, hj, rfl, h⟩
theorem isS {α : Type} {o : Option α} (h : o.isSome = true) : ∃ i, o = some i := Option.isSome_iff_exists.mp h
theorem isN {α : Type} {o : Option α} (h : o.isSome = false) : o = none := by cases o with
  | none => rfl
  | some x => cases h
end
section
set_option maxHeartbeats 4000000 in
set_option maxRecDepth 100000 in
theorem c_X2_isRegister (l : Launch) (G : sg_G) (H : Heap) (x : Int32) : xC l G yX2_isRegister cX2_isRegister 1 (some FieldType.boolean) 0 0 0 [.int x] H (xPu (.int (bI (sp_ir x))) H) := by
  refine xC.start (by decide) (Nat.le_of_ble_eq_true rfl) ?_
  intro p e s m args below meth c ls E hnm hs0 hl
  obtain ⟨hx, hb, hml, hown, hts, hr, hlocks, hK, hbs⟩ := id E
  have hl : lv_has ls 1 [(0, .int x)] := hl
  refine xl (fun _ => lv_iload_n hx hb dX2_isRegister_0 rfl (lv_at hl 0 rfl)) ?_
  refine xb (fun _ => lv_if_lt (tgt := 14) hx hb dX2_isRegister_1 (by decide)) (fun c_1 => ?_) (fun c_1 => ?_)
  · refine xl (fun _ => lv_iconst (v := 0) hx hb dX2_isRegister_14 (by decide)) ?_
    exact x_zret hx hb hr hlocks hs0 hbs (by decide) (by decide) (by decide) dX2_isRegister_15 (pu0 (decide_eq_false (fun z => z.1 c_1)))
  · refine xl (fun _ => lv_iload_n hx hb dX2_isRegister_4 rfl (lv_at hl 0 rfl)) ?_
    refine xl (fun _ => lv_bipush (v := 64) hx hb dX2_isRegister_5 (by decide)) ?_
    refine xb (fun _ => lv_icmp_ge (tgt := 14) hx hb dX2_isRegister_7 (by decide)) (fun c_7 => ?_) (fun c_7 => ?_)
    · refine xl (fun _ => lv_iconst (v := 0) hx hb dX2_isRegister_14 (by decide)) ?_
      exact x_zret hx hb hr hlocks hs0 hbs (by decide) (by decide) (by decide) dX2_isRegister_15 (pu0 (decide_eq_false (fun z => absurd z.2 (Int32.not_lt.mpr c_7))))
    · refine xl (fun _ => lv_iconst (v := 1) hx hb dX2_isRegister_10 (by decide)) ?_
      refine xl (fun _ => lv_goto (tgt := 15) hx hb dX2_isRegister_11 (by decide)) ?_
      exact x_zret hx hb hr hlocks hs0 hbs (by decide) (by decide) (by decide) dX2_isRegister_15 (pu1 (decide_eq_true ⟨c_1, Int32.not_le.mp c_7⟩))

set_option maxHeartbeats 4000000 in
set_option maxRecDepth 100000 in
theorem c_X2_holds (l : Launch) (G : sg_G) (H : Heap) (mb n : Nat) (so on tw th ce gi kn li re : Nat → Int32) (sec : Int32) (hM : sm_X G mb n so on tw th ce gi kn li re sec H) (t : Nat → sp_T) (rg : Nat → Option Nat) (hR : sm_R n t rg so on tw th ce re) (x : Int32) : xC l G yX2_holds cX2_holds 2 (some FieldType.boolean) 1 0 0 [.ref mb, .int x] H (xPu (.int (bI (sp_rg rg x).isSome)) H) := by
  refine xC.start (by decide) (Nat.le_of_ble_eq_true rfl) ?_
  intro p e s m args below meth c ls E hnm hs0 hl
  obtain ⟨hx, hb, hml, hown, hts, hr, hlocks, hK, hbs⟩ := id E
  have hl : lv_has ls 2 [(0, .ref mb), (1, .int x)] := hl
  obtain ⟨hm0, hmn, hX, h1, h2, h3, h4, h5, h6, h7, h8, h9⟩ := id hM
  obtain ⟨hRt, hRr, hRg, hRw⟩ := id hR
  refine xl (fun _ => lv_iload_n hx hb dX2_holds_0 rfl (lv_at hl 1 rfl)) ?_
  refine x_callS E hl (c_X2_isRegister l G H x) xm_yX2_isRegister wMX2_46 wS_yX2_isRegister (rest := []) rfl (by decide) (by decide) ⟨by decide, by decide⟩ dX2_holds_1 (x_pure (r := .int (bI (sp_ir x))) (st1 := []) ?_)
  refine xb (fun _ => lv_if_eq (tgt := 20) hx hb dX2_holds_4 (by decide)) (fun c_4 => ?_) (fun c_4 => ?_)
  · have c_4 := bI_f c_4
    refine xl (fun _ => lv_iconst (v := 0) hx hb dX2_holds_20 (by decide)) ?_
    exact x_zret hx hb hr hlocks hs0 hbs (by decide) (by decide) (by decide) dX2_holds_21 (pu0 (by rw [sp_rg_no c_4]; rfl))
  · have c_4 := bI_t c_4
    obtain ⟨j, hj, rfl⟩ := sp_ir_of c_4
    have hrj := hRr j hj
    refine xl (fun _ => lv_aload_n hx hb dX2_holds_7 rfl (lv_at hl 0 rfl)) ?_
    refine x_get (ci := 2) hx hb hts hown hK wiX2 hX rfl 9 (by decide) wFX2_35 rfl rfl dX2_holds_8 ?_
    refine xl (fun _ => lv_iload_n hx hb dX2_holds_11 rfl (lv_at hl 1 rfl)) ?_
    refine x_iald hx hb hK h9 j (rfl) (by omega) (by decide) dX2_holds_12 ?_
    refine xb (fun _ => lv_if_le (tgt := 20) hx hb dX2_holds_13 (by decide)) (fun c_13 => ?_) (fun c_13 => ?_)
    · refine xl (fun _ => lv_iconst (v := 0) hx hb dX2_holds_20 (by decide)) ?_
      exact x_zret hx hb hr hlocks hs0 hbs (by decide) (by decide) (by decide) dX2_holds_21 (pu0 (by rw [sp_rg_nI hj]; cases hg : rg j with | none => rfl | some i => (rw [hrj, hg] at c_13; exact absurd c_13 (nI_nle (n := i + 1) (by omega) (by have := hRg j hj i hg; omega)))))
    · refine xl (fun _ => lv_iconst (v := 1) hx hb dX2_holds_16 (by decide)) ?_
      refine xl (fun _ => lv_goto (tgt := 21) hx hb dX2_holds_17 (by decide)) ?_
      exact x_zret hx hb hr hlocks hs0 hbs (by decide) (by decide) (by decide) dX2_holds_21 (pu1 (by rw [sp_rg_nI hj]; cases hg : rg j with | none => (rw [hrj, hg] at c_13; exact absurd (show (0 : Int32) ≤ 0 by decide) c_13) | some i => rfl))

set_option maxHeartbeats 4000000 in
set_option maxRecDepth 100000 in
theorem c_X2_has (l : Launch) (G : sg_G) (H : Heap) (mb n : Nat) (so on tw th ce gi kn li re : Nat → Int32) (sec : Int32) (hM : sm_X G mb n so on tw th ce gi kn li re sec H) (t : Nat → sp_T) (rg : Nat → Option Nat) (hR : sm_R n t rg so on tw th ce re) (x v : Int32) : xC l G yX2_has cX2_has 3 (some FieldType.boolean) 2 0 0 [.ref mb, .int x, .int v] H (xPu (.int (bI (sp_rs t rg x v).isSome)) H) := by
  refine xC.start (by decide) (Nat.le_of_ble_eq_true rfl) ?_
  intro p e s m args below meth c ls E hnm hs0 hl
  obtain ⟨hx, hb, hml, hown, hts, hr, hlocks, hK, hbs⟩ := id E
  have hl : lv_has ls 3 [(0, .ref mb), (1, .int x), (2, .int v)] := hl
  obtain ⟨hm0, hmn, hX, h1, h2, h3, h4, h5, h6, h7, h8, h9⟩ := id hM
  obtain ⟨hRt, hRr, hRg, hRw⟩ := id hR
  refine xl (fun _ => lv_aload_n hx hb dX2_has_0 rfl (lv_at hl 0 rfl)) ?_
  refine xl (fun _ => lv_iload_n hx hb dX2_has_1 rfl (lv_at hl 1 rfl)) ?_
  refine x_callV E hl (c_X2_holds l G H mb n so on tw th ce gi kn li re sec hM t rg hR x) xm_yX2_holds wMX2_50 wI_yX2_holds wT_yX2_holds (ci := 2) rfl rfl hX (rest := []) rfl (by decide) (by decide) ⟨by decide, by decide⟩ dX2_has_2 (x_pure (r := .int (bI (sp_rg rg x).isSome)) (st1 := []) ?_)
  refine xb (fun _ => lv_if_eq (tgt := 29) hx hb dX2_has_5 (by decide)) (fun c_5 => ?_) (fun c_5 => ?_)
  · have c_5 := bI_f c_5
    refine xl (fun _ => lv_iconst (v := 0) hx hb dX2_has_29 (by decide)) ?_
    exact x_zret hx hb hr hlocks hs0 hbs (by decide) (by decide) (by decide) dX2_has_30 (pu0 (by rw [sp_rs_n (isN c_5)]; rfl))
  · have c_5 := bI_t c_5
    obtain ⟨i, hxi⟩ := isS c_5
    obtain ⟨j_x, hj_x, he_x, hg_x⟩ := sp_rg_s hxi
    have hi_i : i < n := hRg j_x hj_x i hg_x
    have hr_x : re j_x = nI (i + 1) := by rw [hRr j_x hj_x, hg_x]; rfl
    refine xl (fun _ => lv_aload_n hx hb dX2_has_8 rfl (lv_at hl 0 rfl)) ?_
    refine x_get (ci := 2) hx hb hts hown hK wiX2 hX rfl 1 (by decide) wFX2_9 rfl rfl dX2_has_9 ?_
    refine xl (fun _ => lv_aload_n hx hb dX2_has_12 rfl (lv_at hl 0 rfl)) ?_
    refine x_get (ci := 2) hx hb hts hown hK wiX2 hX rfl 9 (by decide) wFX2_35 rfl rfl dX2_has_13 ?_
    refine xl (fun _ => lv_iload_n hx hb dX2_has_16 rfl (lv_at hl 1 rfl)) ?_
    refine x_iald hx hb hK h9 j_x (he_x) (by have := hj_x; omega) (by decide) dX2_has_17 ?_
    rw [show (re j_x) = (nI (i + 1)) from hr_x]
    refine xl (fun _ => lv_iconst (v := 1) hx hb dX2_has_18 (by decide)) ?_
    refine xl (fun _ => lv_isub hx hb dX2_has_19) ?_
    rw [show ((nI (i + 1)) - 1) = (nI i) from nI_pred i]
    refine x_iald hx hb hK h1 i (rfl) (by omega) (by decide) dX2_has_20 ?_
    rw [show (so i) = (sp_so (t i)) from (hRt i hi_i).1]
    refine xl (fun _ => lv_iload_n hx hb dX2_has_21 rfl (lv_at hl 2 rfl)) ?_
    refine xb (fun _ => lv_icmp_ne (tgt := 29) hx hb dX2_has_22 (by decide)) (fun c_22 => ?_) (fun c_22 => ?_)
    · refine xl (fun _ => lv_iconst (v := 0) hx hb dX2_has_29 (by decide)) ?_
      exact x_zret hx hb hr hlocks hs0 hbs (by decide) (by decide) (by decide) dX2_has_30 (pu0 (by rw [sp_rs_x hxi c_22]; rfl))
    · refine xl (fun _ => lv_iconst (v := 1) hx hb dX2_has_25 (by decide)) ?_
      refine xl (fun _ => lv_goto (tgt := 30) hx hb dX2_has_26 (by decide)) ?_
      exact x_zret hx hb hr hlocks hs0 hbs (by decide) (by decide) (by decide) dX2_has_30 (pu1 (by rw [sp_rs_s hxi c_22]; rfl))

theorem and_assoc5 {A B C D E : Prop} : (A ∧ B ∧ C ∧ D ∧ E) ↔ (A ∧ B ∧ C ∧ D) ∧ E := ⟨fun h => ⟨⟨h.1, h.2.1, h.2.2.1, h.2.2.2.1⟩, h.2.2.2.2⟩, fun h => ⟨h.1.1, h.1.2.1, h.1.2.2.1, h.1.2.2.2, h.2⟩⟩

set_option maxHeartbeats 4000000 in
set_option maxRecDepth 100000 in
theorem c_X2_isLike (l : Launch) (G : sg_G) (H : Heap) (mb n : Nat) (so on tw th ce gi kn li re : Nat → Int32) (sec : Int32) (hM : sm_X G mb n so on tw th ce gi kn li re sec H) (i : Nat) (hi : i < 512) (s1 a1 b1 c1 : Int32) (B : Bool) (hB : B = true ↔ (so i = s1 ∧ on i = a1 ∧ tw i = b1 ∧ th i = c1 ∧ (s1 = 7 → ∀ k, k < 8 → ce (8 * i + k) = li k))) : xC l G yX2_isLike cX2_isLike 8 (some FieldType.boolean) 0 0 0 [.ref mb, .int (nI i), .int s1, .int a1, .int b1, .int c1] H (xPu (.int (bI B)) H) := by
  refine xC.start (by decide) (Nat.le_of_ble_eq_true rfl) ?_
  intro p e s m args below meth c ls E hnm hs0 hl
  obtain ⟨hx, hb, hml, hown, hts, hr, hlocks, hK, hbs⟩ := id E
  have hl : lv_has ls 8 [(0, .ref mb), (1, .int (nI i)), (2, .int s1), (3, .int a1), (4, .int b1), (5, .int c1)] := hl
  obtain ⟨hm0, hmn, hX, h1, h2, h3, h4, h5, h6, h7, h8, h9⟩ := id hM
  refine xl (fun _ => lv_aload_n hx hb dX2_isLike_0 rfl (lv_at hl 0 rfl)) ?_
  refine x_get (ci := 2) hx hb hts hown hK wiX2 hX rfl 1 (by decide) wFX2_9 rfl rfl dX2_isLike_1 ?_
  refine xl (fun _ => lv_iload_n hx hb dX2_isLike_4 rfl (lv_at hl 1 rfl)) ?_
  refine x_iald hx hb hK h1 i (rfl) (by omega) (by decide) dX2_isLike_5 ?_
  refine xl (fun _ => lv_iload_n hx hb dX2_isLike_6 rfl (lv_at hl 2 rfl)) ?_
  refine xb (fun _ => lv_icmp_ne (tgt := 46) hx hb dX2_isLike_7 (by decide)) (fun c_7 => ?_) (fun c_7 => ?_)
  · refine xl (fun _ => lv_iconst (v := 0) hx hb dX2_isLike_46 (by decide)) ?_
    refine xg (g2 := F0 m 47 ls [.int (bI false)]) rfl ?_
    refine xs (fun _ => lv_istore (i := 6) (lv' := [(6, .int (bI false)), (0, .ref mb), (1, .int (nI i)), (2, .int s1), (3, .int a1), (4, .int b1), (5, .int c1)]) hx hb dX2_isLike_47 hl (by decide) (rfl)) (fun ls hl => ?_)
    refine xl (fun _ => lv_iconst (v := 0) hx hb dX2_isLike_49 (by decide)) ?_
    refine xs (fun _ => lv_istore (i := 7) (lv' := [(7, .int 0), (6, .int (bI false)), (0, .ref mb), (1, .int (nI i)), (2, .int s1), (3, .int a1), (4, .int b1), (5, .int c1)]) hx hb dX2_isLike_50 hl (by decide) (rfl)) (fun ls hl => ?_)
    have hloop : ∀ (d : Nat) (k : Nat) (sm : Bool), k ≤ 8 → 8 < k + d → (sm = true ↔ (so i = s1 ∧ on i = a1 ∧ tw i = b1 ∧ th i = c1) ∧ (s1 = 7 → ∀ q, q < k → ce (8 * i + q) = li q)) → ∀ (ls : Array Slot), lv_has ls 8 [(7, .int (nI k)), (6, .int (bI sm)), (0, .ref mb), (1, .int (nI i)), (2, .int s1), (3, .int a1), (4, .int b1), (5, .int c1)] → xV p l e (xR 0 0 0) s m args below meth c G H 0 0 (MQ below (xQ G H (xPu (.int (bI B)) H)) args s 0 0 (sg_fr G)) (F0 m 52 ls []) := by
      intro d
      induction d with
      | zero =>
        intro k sm h1 h2
        exact absurd h2 (by omega)
      | succ d ih =>
        intro k sm hk hd hsm ls hl
        refine xl (fun _ => lv_iload hx hb dX2_isLike_52 (lv_at hl 0 rfl)) ?_
        refine xl (fun _ => lv_bipush (v := 8) hx hb dX2_isLike_54 (by decide)) ?_
        refine xb (fun _ => lv_icmp_ge (tgt := 105) hx hb dX2_isLike_56 (by decide)) (fun c_56 => ?_) (fun c_56 => ?_)
        · have e8k : k = 8 := by have := nI_le4 (n := 8) (by omega) (by decide) c_56; omega
          refine xl (fun _ => lv_iload hx hb dX2_isLike_105 (lv_at hl 1 rfl)) ?_
          exact x_zret hx hb hr hlocks hs0 hbs (bI_and _) (by decide) (by decide) dX2_isLike_107 (⟨by rw [show sm = B from bool_eq (hsm.trans (by rw [hB, e8k]; exact and_assoc5.symm))], rfl⟩)
        · have hk8 : k < 8 := nI_nle4 (n := 8) (by omega) (by decide) c_56
          refine xl (fun _ => lv_iload hx hb dX2_isLike_59 (lv_at hl 1 rfl)) ?_
          refine xb (fun _ => lv_if_eq (tgt := 105) hx hb dX2_isLike_61 (by decide)) (fun c_61 => ?_) (fun c_61 => ?_)
          · have c_61 := bI_f c_61
            refine xl (fun _ => lv_iload hx hb dX2_isLike_105 (lv_at hl 1 rfl)) ?_
            exact x_zret hx hb hr hlocks hs0 hbs (bI_and _) (by decide) (by decide) dX2_isLike_107 (⟨by rw [show sm = B from bool_eq ⟨(fun z => by rw [c_61] at z; cases z), fun z => by have q := hB.mp z; exact absurd (hsm.mpr ⟨⟨q.1, q.2.1, q.2.2.1, q.2.2.2.1⟩, fun e7 x hx => q.2.2.2.2 e7 x (by omega)⟩) (by rw [c_61]; decide)⟩], rfl⟩)
          · have c_61 := bI_t c_61
            refine xl (fun _ => lv_iload_n hx hb dX2_isLike_64 rfl (lv_at hl 4 rfl)) ?_
            refine xl (fun _ => lv_bipush (v := 7) hx hb dX2_isLike_65 (by decide)) ?_
            refine xb (fun _ => lv_icmp_ne (tgt := 92) hx hb dX2_isLike_67 (by decide)) (fun c_67 => ?_) (fun c_67 => ?_)
            · refine xl (fun _ => lv_iconst (v := 1) hx hb dX2_isLike_92 (by decide)) ?_
              refine xl (fun _ => lv_goto (tgt := 97) hx hb dX2_isLike_93 (by decide)) ?_
              refine xg (g2 := F0 m 97 ls [.int (bI true)]) rfl ?_
              refine xs (fun _ => lv_istore (i := 6) (lv' := [(6, .int (bI true)), (7, .int (nI k)), (0, .ref mb), (1, .int (nI i)), (2, .int s1), (3, .int a1), (4, .int b1), (5, .int c1)]) hx hb dX2_isLike_97 hl (by decide) (rfl)) (fun ls hl => ?_)
              refine xs (fun _ => lv_iinc (v := (nI (k + 1))) (lv' := [(7, .int (nI (k + 1))), (6, .int (bI true)), (0, .ref mb), (1, .int (nI i)), (2, .int s1), (3, .int a1), (4, .int b1), (5, .int c1)]) hx hb dX2_isLike_99 hl (k := 1) rfl (nI_1 k) (by decide) (rfl)) (fun ls hl => ?_)
              refine xl (fun _ => lv_goto (tgt := 52) hx hb dX2_isLike_102 (by decide)) ?_
              exact ih (k + 1) true (by omega) (by omega) (⟨fun _ => ⟨(hsm.mp c_61).1, fun e7 => absurd e7 c_67⟩, fun _ => rfl⟩) ls (lv_sub hl [0, 1, 2, 3, 4, 5, 6, 7] rfl)
            · refine xl (fun _ => lv_aload_n hx hb dX2_isLike_70 rfl (lv_at hl 2 rfl)) ?_
              refine x_get (ci := 2) hx hb hts hown hK wiX2 hX rfl 5 (by decide) wFX2_22 rfl rfl dX2_isLike_71 ?_
              refine xl (fun _ => lv_bipush (v := 8) hx hb dX2_isLike_74 (by decide)) ?_
              refine xl (fun _ => lv_iload_n hx hb dX2_isLike_76 rfl (lv_at hl 3 rfl)) ?_
              refine xl (fun _ => lv_imul hx hb dX2_isLike_77) ?_
              rw [show (8 * (nI i)) = (nI (8 * i)) from pk_mul 8 i]
              refine xl (fun _ => lv_iload hx hb dX2_isLike_78 (lv_at hl 0 rfl)) ?_
              refine xl (fun _ => lv_iadd hx hb dX2_isLike_80) ?_
              rw [show ((nI (8 * i)) + (nI k)) = (nI (8 * i + k)) from nI_add _ _]
              refine x_iald hx hb hK h5 (8 * i + k) (rfl) (by omega) (by decide) dX2_isLike_81 ?_
              refine xl (fun _ => lv_aload_n hx hb dX2_isLike_82 rfl (lv_at hl 2 rfl)) ?_
              refine x_get (ci := 2) hx hb hts hown hK wiX2 hX rfl 8 (by decide) wFX2_32 rfl rfl dX2_isLike_83 ?_
              refine xl (fun _ => lv_iload hx hb dX2_isLike_86 (lv_at hl 0 rfl)) ?_
              refine x_iald hx hb hK h8 k (rfl) (by omega) (by decide) dX2_isLike_88 ?_
              refine xb (fun _ => lv_icmp_ne (tgt := 96) hx hb dX2_isLike_89 (by decide)) (fun c_89 => ?_) (fun c_89 => ?_)
              · refine xl (fun _ => lv_iconst (v := 0) hx hb dX2_isLike_96 (by decide)) ?_
                refine xg (g2 := F0 m 97 ls [.int (bI false)]) rfl ?_
                refine xs (fun _ => lv_istore (i := 6) (lv' := [(6, .int (bI false)), (7, .int (nI k)), (0, .ref mb), (1, .int (nI i)), (2, .int s1), (3, .int a1), (4, .int b1), (5, .int c1)]) hx hb dX2_isLike_97 hl (by decide) (rfl)) (fun ls hl => ?_)
                refine xs (fun _ => lv_iinc (v := (nI (k + 1))) (lv' := [(7, .int (nI (k + 1))), (6, .int (bI false)), (0, .ref mb), (1, .int (nI i)), (2, .int s1), (3, .int a1), (4, .int b1), (5, .int c1)]) hx hb dX2_isLike_99 hl (k := 1) rfl (nI_1 k) (by decide) (rfl)) (fun ls hl => ?_)
                refine xl (fun _ => lv_goto (tgt := 52) hx hb dX2_isLike_102 (by decide)) ?_
                exact ih (k + 1) false (by omega) (by omega) (⟨(fun z => by cases z), fun z => absurd (z.2 c_67 k (by omega)) c_89⟩) ls (lv_sub hl [0, 1, 2, 3, 4, 5, 6, 7] rfl)
              · refine xl (fun _ => lv_iconst (v := 1) hx hb dX2_isLike_92 (by decide)) ?_
                refine xl (fun _ => lv_goto (tgt := 97) hx hb dX2_isLike_93 (by decide)) ?_
                refine xg (g2 := F0 m 97 ls [.int (bI true)]) rfl ?_
                refine xs (fun _ => lv_istore (i := 6) (lv' := [(6, .int (bI true)), (7, .int (nI k)), (0, .ref mb), (1, .int (nI i)), (2, .int s1), (3, .int a1), (4, .int b1), (5, .int c1)]) hx hb dX2_isLike_97 hl (by decide) (rfl)) (fun ls hl => ?_)
                refine xs (fun _ => lv_iinc (v := (nI (k + 1))) (lv' := [(7, .int (nI (k + 1))), (6, .int (bI true)), (0, .ref mb), (1, .int (nI i)), (2, .int s1), (3, .int a1), (4, .int b1), (5, .int c1)]) hx hb dX2_isLike_99 hl (k := 1) rfl (nI_1 k) (by decide) (rfl)) (fun ls hl => ?_)
                refine xl (fun _ => lv_goto (tgt := 52) hx hb dX2_isLike_102 (by decide)) ?_
                exact ih (k + 1) true (by omega) (by omega) (⟨fun _ => ⟨(hsm.mp c_61).1, fun e7 q hq => by by_cases e : q = k; (rw [e]; exact c_89); exact (hsm.mp c_61).2 e7 q (by omega)⟩, fun _ => rfl⟩) ls (lv_sub hl [0, 1, 2, 3, 4, 5, 6, 7] rfl)
    exact hloop 9 0 false (by decide) (by decide) (⟨(fun z => by cases z), fun z => absurd z.1.1 c_7⟩) ls (lv_sub hl [0, 1, 2, 3, 4, 5, 6, 7] rfl)
  · refine xl (fun _ => lv_aload_n hx hb dX2_isLike_10 rfl (lv_at hl 0 rfl)) ?_
    refine x_get (ci := 2) hx hb hts hown hK wiX2 hX rfl 2 (by decide) wFX2_13 rfl rfl dX2_isLike_11 ?_
    refine xl (fun _ => lv_iload_n hx hb dX2_isLike_14 rfl (lv_at hl 1 rfl)) ?_
    refine x_iald hx hb hK h2 i (rfl) (by omega) (by decide) dX2_isLike_15 ?_
    refine xl (fun _ => lv_iload_n hx hb dX2_isLike_16 rfl (lv_at hl 3 rfl)) ?_
    refine xb (fun _ => lv_icmp_ne (tgt := 46) hx hb dX2_isLike_17 (by decide)) (fun c_17 => ?_) (fun c_17 => ?_)
    · refine xl (fun _ => lv_iconst (v := 0) hx hb dX2_isLike_46 (by decide)) ?_
      refine xg (g2 := F0 m 47 ls [.int (bI false)]) rfl ?_
      refine xs (fun _ => lv_istore (i := 6) (lv' := [(6, .int (bI false)), (0, .ref mb), (1, .int (nI i)), (2, .int s1), (3, .int a1), (4, .int b1), (5, .int c1)]) hx hb dX2_isLike_47 hl (by decide) (rfl)) (fun ls hl => ?_)
      refine xl (fun _ => lv_iconst (v := 0) hx hb dX2_isLike_49 (by decide)) ?_
      refine xs (fun _ => lv_istore (i := 7) (lv' := [(7, .int 0), (6, .int (bI false)), (0, .ref mb), (1, .int (nI i)), (2, .int s1), (3, .int a1), (4, .int b1), (5, .int c1)]) hx hb dX2_isLike_50 hl (by decide) (rfl)) (fun ls hl => ?_)
      have hloop : ∀ (d : Nat) (k : Nat) (sm : Bool), k ≤ 8 → 8 < k + d → (sm = true ↔ (so i = s1 ∧ on i = a1 ∧ tw i = b1 ∧ th i = c1) ∧ (s1 = 7 → ∀ q, q < k → ce (8 * i + q) = li q)) → ∀ (ls : Array Slot), lv_has ls 8 [(7, .int (nI k)), (6, .int (bI sm)), (0, .ref mb), (1, .int (nI i)), (2, .int s1), (3, .int a1), (4, .int b1), (5, .int c1)] → xV p l e (xR 0 0 0) s m args below meth c G H 0 0 (MQ below (xQ G H (xPu (.int (bI B)) H)) args s 0 0 (sg_fr G)) (F0 m 52 ls []) := by
        intro d
        induction d with
        | zero =>
          intro k sm h1 h2
          exact absurd h2 (by omega)
        | succ d ih =>
          intro k sm hk hd hsm ls hl
          refine xl (fun _ => lv_iload hx hb dX2_isLike_52 (lv_at hl 0 rfl)) ?_
          refine xl (fun _ => lv_bipush (v := 8) hx hb dX2_isLike_54 (by decide)) ?_
          refine xb (fun _ => lv_icmp_ge (tgt := 105) hx hb dX2_isLike_56 (by decide)) (fun c_56 => ?_) (fun c_56 => ?_)
          · have e8k : k = 8 := by have := nI_le4 (n := 8) (by omega) (by decide) c_56; omega
            refine xl (fun _ => lv_iload hx hb dX2_isLike_105 (lv_at hl 1 rfl)) ?_
            exact x_zret hx hb hr hlocks hs0 hbs (bI_and _) (by decide) (by decide) dX2_isLike_107 (⟨by rw [show sm = B from bool_eq (hsm.trans (by rw [hB, e8k]; exact and_assoc5.symm))], rfl⟩)
          · have hk8 : k < 8 := nI_nle4 (n := 8) (by omega) (by decide) c_56
            refine xl (fun _ => lv_iload hx hb dX2_isLike_59 (lv_at hl 1 rfl)) ?_
            refine xb (fun _ => lv_if_eq (tgt := 105) hx hb dX2_isLike_61 (by decide)) (fun c_61 => ?_) (fun c_61 => ?_)
            · have c_61 := bI_f c_61
              refine xl (fun _ => lv_iload hx hb dX2_isLike_105 (lv_at hl 1 rfl)) ?_
              exact x_zret hx hb hr hlocks hs0 hbs (bI_and _) (by decide) (by decide) dX2_isLike_107 (⟨by rw [show sm = B from bool_eq ⟨(fun z => by rw [c_61] at z; cases z), fun z => by have q := hB.mp z; exact absurd (hsm.mpr ⟨⟨q.1, q.2.1, q.2.2.1, q.2.2.2.1⟩, fun e7 x hx => q.2.2.2.2 e7 x (by omega)⟩) (by rw [c_61]; decide)⟩], rfl⟩)
            · have c_61 := bI_t c_61
              refine xl (fun _ => lv_iload_n hx hb dX2_isLike_64 rfl (lv_at hl 4 rfl)) ?_
              refine xl (fun _ => lv_bipush (v := 7) hx hb dX2_isLike_65 (by decide)) ?_
              refine xb (fun _ => lv_icmp_ne (tgt := 92) hx hb dX2_isLike_67 (by decide)) (fun c_67 => ?_) (fun c_67 => ?_)
              · refine xl (fun _ => lv_iconst (v := 1) hx hb dX2_isLike_92 (by decide)) ?_
                refine xl (fun _ => lv_goto (tgt := 97) hx hb dX2_isLike_93 (by decide)) ?_
                refine xg (g2 := F0 m 97 ls [.int (bI true)]) rfl ?_
                refine xs (fun _ => lv_istore (i := 6) (lv' := [(6, .int (bI true)), (7, .int (nI k)), (0, .ref mb), (1, .int (nI i)), (2, .int s1), (3, .int a1), (4, .int b1), (5, .int c1)]) hx hb dX2_isLike_97 hl (by decide) (rfl)) (fun ls hl => ?_)
                refine xs (fun _ => lv_iinc (v := (nI (k + 1))) (lv' := [(7, .int (nI (k + 1))), (6, .int (bI true)), (0, .ref mb), (1, .int (nI i)), (2, .int s1), (3, .int a1), (4, .int b1), (5, .int c1)]) hx hb dX2_isLike_99 hl (k := 1) rfl (nI_1 k) (by decide) (rfl)) (fun ls hl => ?_)
                refine xl (fun _ => lv_goto (tgt := 52) hx hb dX2_isLike_102 (by decide)) ?_
                exact ih (k + 1) true (by omega) (by omega) (⟨fun _ => ⟨(hsm.mp c_61).1, fun e7 => absurd e7 c_67⟩, fun _ => rfl⟩) ls (lv_sub hl [0, 1, 2, 3, 4, 5, 6, 7] rfl)
              · refine xl (fun _ => lv_aload_n hx hb dX2_isLike_70 rfl (lv_at hl 2 rfl)) ?_
                refine x_get (ci := 2) hx hb hts hown hK wiX2 hX rfl 5 (by decide) wFX2_22 rfl rfl dX2_isLike_71 ?_
                refine xl (fun _ => lv_bipush (v := 8) hx hb dX2_isLike_74 (by decide)) ?_
                refine xl (fun _ => lv_iload_n hx hb dX2_isLike_76 rfl (lv_at hl 3 rfl)) ?_
                refine xl (fun _ => lv_imul hx hb dX2_isLike_77) ?_
                rw [show (8 * (nI i)) = (nI (8 * i)) from pk_mul 8 i]
                refine xl (fun _ => lv_iload hx hb dX2_isLike_78 (lv_at hl 0 rfl)) ?_
                refine xl (fun _ => lv_iadd hx hb dX2_isLike_80) ?_
                rw [show ((nI (8 * i)) + (nI k)) = (nI (8 * i + k)) from nI_add _ _]
                refine x_iald hx hb hK h5 (8 * i + k) (rfl) (by omega) (by decide) dX2_isLike_81 ?_
                refine xl (fun _ => lv_aload_n hx hb dX2_isLike_82 rfl (lv_at hl 2 rfl)) ?_
                refine x_get (ci := 2) hx hb hts hown hK wiX2 hX rfl 8 (by decide) wFX2_32 rfl rfl dX2_isLike_83 ?_
                refine xl (fun _ => lv_iload hx hb dX2_isLike_86 (lv_at hl 0 rfl)) ?_
                refine x_iald hx hb hK h8 k (rfl) (by omega) (by decide) dX2_isLike_88 ?_
                refine xb (fun _ => lv_icmp_ne (tgt := 96) hx hb dX2_isLike_89 (by decide)) (fun c_89 => ?_) (fun c_89 => ?_)
                · refine xl (fun _ => lv_iconst (v := 0) hx hb dX2_isLike_96 (by decide)) ?_
                  refine xg (g2 := F0 m 97 ls [.int (bI false)]) rfl ?_
                  refine xs (fun _ => lv_istore (i := 6) (lv' := [(6, .int (bI false)), (7, .int (nI k)), (0, .ref mb), (1, .int (nI i)), (2, .int s1), (3, .int a1), (4, .int b1), (5, .int c1)]) hx hb dX2_isLike_97 hl (by decide) (rfl)) (fun ls hl => ?_)
                  refine xs (fun _ => lv_iinc (v := (nI (k + 1))) (lv' := [(7, .int (nI (k + 1))), (6, .int (bI false)), (0, .ref mb), (1, .int (nI i)), (2, .int s1), (3, .int a1), (4, .int b1), (5, .int c1)]) hx hb dX2_isLike_99 hl (k := 1) rfl (nI_1 k) (by decide) (rfl)) (fun ls hl => ?_)
                  refine xl (fun _ => lv_goto (tgt := 52) hx hb dX2_isLike_102 (by decide)) ?_
                  exact ih (k + 1) false (by omega) (by omega) (⟨(fun z => by cases z), fun z => absurd (z.2 c_67 k (by omega)) c_89⟩) ls (lv_sub hl [0, 1, 2, 3, 4, 5, 6, 7] rfl)
                · refine xl (fun _ => lv_iconst (v := 1) hx hb dX2_isLike_92 (by decide)) ?_
                  refine xl (fun _ => lv_goto (tgt := 97) hx hb dX2_isLike_93 (by decide)) ?_
                  refine xg (g2 := F0 m 97 ls [.int (bI true)]) rfl ?_
                  refine xs (fun _ => lv_istore (i := 6) (lv' := [(6, .int (bI true)), (7, .int (nI k)), (0, .ref mb), (1, .int (nI i)), (2, .int s1), (3, .int a1), (4, .int b1), (5, .int c1)]) hx hb dX2_isLike_97 hl (by decide) (rfl)) (fun ls hl => ?_)
                  refine xs (fun _ => lv_iinc (v := (nI (k + 1))) (lv' := [(7, .int (nI (k + 1))), (6, .int (bI true)), (0, .ref mb), (1, .int (nI i)), (2, .int s1), (3, .int a1), (4, .int b1), (5, .int c1)]) hx hb dX2_isLike_99 hl (k := 1) rfl (nI_1 k) (by decide) (rfl)) (fun ls hl => ?_)
                  refine xl (fun _ => lv_goto (tgt := 52) hx hb dX2_isLike_102 (by decide)) ?_
                  exact ih (k + 1) true (by omega) (by omega) (⟨fun _ => ⟨(hsm.mp c_61).1, fun e7 q hq => by by_cases e : q = k; (rw [e]; exact c_89); exact (hsm.mp c_61).2 e7 q (by omega)⟩, fun _ => rfl⟩) ls (lv_sub hl [0, 1, 2, 3, 4, 5, 6, 7] rfl)
      exact hloop 9 0 false (by decide) (by decide) (⟨(fun z => by cases z), fun z => absurd z.1.2.1 c_17⟩) ls (lv_sub hl [0, 1, 2, 3, 4, 5, 6, 7] rfl)
    · refine xl (fun _ => lv_aload_n hx hb dX2_isLike_20 rfl (lv_at hl 0 rfl)) ?_
      refine x_get (ci := 2) hx hb hts hown hK wiX2 hX rfl 3 (by decide) wFX2_16 rfl rfl dX2_isLike_21 ?_
      refine xl (fun _ => lv_iload_n hx hb dX2_isLike_24 rfl (lv_at hl 1 rfl)) ?_
      refine x_iald hx hb hK h3 i (rfl) (by omega) (by decide) dX2_isLike_25 ?_
      refine xl (fun _ => lv_iload hx hb dX2_isLike_26 (lv_at hl 4 rfl)) ?_
      refine xb (fun _ => lv_icmp_ne (tgt := 46) hx hb dX2_isLike_28 (by decide)) (fun c_28 => ?_) (fun c_28 => ?_)
      · refine xl (fun _ => lv_iconst (v := 0) hx hb dX2_isLike_46 (by decide)) ?_
        refine xg (g2 := F0 m 47 ls [.int (bI false)]) rfl ?_
        refine xs (fun _ => lv_istore (i := 6) (lv' := [(6, .int (bI false)), (0, .ref mb), (1, .int (nI i)), (2, .int s1), (3, .int a1), (4, .int b1), (5, .int c1)]) hx hb dX2_isLike_47 hl (by decide) (rfl)) (fun ls hl => ?_)
        refine xl (fun _ => lv_iconst (v := 0) hx hb dX2_isLike_49 (by decide)) ?_
        refine xs (fun _ => lv_istore (i := 7) (lv' := [(7, .int 0), (6, .int (bI false)), (0, .ref mb), (1, .int (nI i)), (2, .int s1), (3, .int a1), (4, .int b1), (5, .int c1)]) hx hb dX2_isLike_50 hl (by decide) (rfl)) (fun ls hl => ?_)
        have hloop : ∀ (d : Nat) (k : Nat) (sm : Bool), k ≤ 8 → 8 < k + d → (sm = true ↔ (so i = s1 ∧ on i = a1 ∧ tw i = b1 ∧ th i = c1) ∧ (s1 = 7 → ∀ q, q < k → ce (8 * i + q) = li q)) → ∀ (ls : Array Slot), lv_has ls 8 [(7, .int (nI k)), (6, .int (bI sm)), (0, .ref mb), (1, .int (nI i)), (2, .int s1), (3, .int a1), (4, .int b1), (5, .int c1)] → xV p l e (xR 0 0 0) s m args below meth c G H 0 0 (MQ below (xQ G H (xPu (.int (bI B)) H)) args s 0 0 (sg_fr G)) (F0 m 52 ls []) := by
          intro d
          induction d with
          | zero =>
            intro k sm h1 h2
            exact absurd h2 (by omega)
          | succ d ih =>
            intro k sm hk hd hsm ls hl
            refine xl (fun _ => lv_iload hx hb dX2_isLike_52 (lv_at hl 0 rfl)) ?_
            refine xl (fun _ => lv_bipush (v := 8) hx hb dX2_isLike_54 (by decide)) ?_
            refine xb (fun _ => lv_icmp_ge (tgt := 105) hx hb dX2_isLike_56 (by decide)) (fun c_56 => ?_) (fun c_56 => ?_)
            · have e8k : k = 8 := by have := nI_le4 (n := 8) (by omega) (by decide) c_56; omega
              refine xl (fun _ => lv_iload hx hb dX2_isLike_105 (lv_at hl 1 rfl)) ?_
              exact x_zret hx hb hr hlocks hs0 hbs (bI_and _) (by decide) (by decide) dX2_isLike_107 (⟨by rw [show sm = B from bool_eq (hsm.trans (by rw [hB, e8k]; exact and_assoc5.symm))], rfl⟩)
            · have hk8 : k < 8 := nI_nle4 (n := 8) (by omega) (by decide) c_56
              refine xl (fun _ => lv_iload hx hb dX2_isLike_59 (lv_at hl 1 rfl)) ?_
              refine xb (fun _ => lv_if_eq (tgt := 105) hx hb dX2_isLike_61 (by decide)) (fun c_61 => ?_) (fun c_61 => ?_)
              · have c_61 := bI_f c_61
                refine xl (fun _ => lv_iload hx hb dX2_isLike_105 (lv_at hl 1 rfl)) ?_
                exact x_zret hx hb hr hlocks hs0 hbs (bI_and _) (by decide) (by decide) dX2_isLike_107 (⟨by rw [show sm = B from bool_eq ⟨(fun z => by rw [c_61] at z; cases z), fun z => by have q := hB.mp z; exact absurd (hsm.mpr ⟨⟨q.1, q.2.1, q.2.2.1, q.2.2.2.1⟩, fun e7 x hx => q.2.2.2.2 e7 x (by omega)⟩) (by rw [c_61]; decide)⟩], rfl⟩)
              · have c_61 := bI_t c_61
                refine xl (fun _ => lv_iload_n hx hb dX2_isLike_64 rfl (lv_at hl 4 rfl)) ?_
                refine xl (fun _ => lv_bipush (v := 7) hx hb dX2_isLike_65 (by decide)) ?_
                refine xb (fun _ => lv_icmp_ne (tgt := 92) hx hb dX2_isLike_67 (by decide)) (fun c_67 => ?_) (fun c_67 => ?_)
                · refine xl (fun _ => lv_iconst (v := 1) hx hb dX2_isLike_92 (by decide)) ?_
                  refine xl (fun _ => lv_goto (tgt := 97) hx hb dX2_isLike_93 (by decide)) ?_
                  refine xg (g2 := F0 m 97 ls [.int (bI true)]) rfl ?_
                  refine xs (fun _ => lv_istore (i := 6) (lv' := [(6, .int (bI true)), (7, .int (nI k)), (0, .ref mb), (1, .int (nI i)), (2, .int s1), (3, .int a1), (4, .int b1), (5, .int c1)]) hx hb dX2_isLike_97 hl (by decide) (rfl)) (fun ls hl => ?_)
                  refine xs (fun _ => lv_iinc (v := (nI (k + 1))) (lv' := [(7, .int (nI (k + 1))), (6, .int (bI true)), (0, .ref mb), (1, .int (nI i)), (2, .int s1), (3, .int a1), (4, .int b1), (5, .int c1)]) hx hb dX2_isLike_99 hl (k := 1) rfl (nI_1 k) (by decide) (rfl)) (fun ls hl => ?_)
                  refine xl (fun _ => lv_goto (tgt := 52) hx hb dX2_isLike_102 (by decide)) ?_
                  exact ih (k + 1) true (by omega) (by omega) (⟨fun _ => ⟨(hsm.mp c_61).1, fun e7 => absurd e7 c_67⟩, fun _ => rfl⟩) ls (lv_sub hl [0, 1, 2, 3, 4, 5, 6, 7] rfl)
                · refine xl (fun _ => lv_aload_n hx hb dX2_isLike_70 rfl (lv_at hl 2 rfl)) ?_
                  refine x_get (ci := 2) hx hb hts hown hK wiX2 hX rfl 5 (by decide) wFX2_22 rfl rfl dX2_isLike_71 ?_
                  refine xl (fun _ => lv_bipush (v := 8) hx hb dX2_isLike_74 (by decide)) ?_
                  refine xl (fun _ => lv_iload_n hx hb dX2_isLike_76 rfl (lv_at hl 3 rfl)) ?_
                  refine xl (fun _ => lv_imul hx hb dX2_isLike_77) ?_
                  rw [show (8 * (nI i)) = (nI (8 * i)) from pk_mul 8 i]
                  refine xl (fun _ => lv_iload hx hb dX2_isLike_78 (lv_at hl 0 rfl)) ?_
                  refine xl (fun _ => lv_iadd hx hb dX2_isLike_80) ?_
                  rw [show ((nI (8 * i)) + (nI k)) = (nI (8 * i + k)) from nI_add _ _]
                  refine x_iald hx hb hK h5 (8 * i + k) (rfl) (by omega) (by decide) dX2_isLike_81 ?_
                  refine xl (fun _ => lv_aload_n hx hb dX2_isLike_82 rfl (lv_at hl 2 rfl)) ?_
                  refine x_get (ci := 2) hx hb hts hown hK wiX2 hX rfl 8 (by decide) wFX2_32 rfl rfl dX2_isLike_83 ?_
                  refine xl (fun _ => lv_iload hx hb dX2_isLike_86 (lv_at hl 0 rfl)) ?_
                  refine x_iald hx hb hK h8 k (rfl) (by omega) (by decide) dX2_isLike_88 ?_
                  refine xb (fun _ => lv_icmp_ne (tgt := 96) hx hb dX2_isLike_89 (by decide)) (fun c_89 => ?_) (fun c_89 => ?_)
                  · refine xl (fun _ => lv_iconst (v := 0) hx hb dX2_isLike_96 (by decide)) ?_
                    refine xg (g2 := F0 m 97 ls [.int (bI false)]) rfl ?_
                    refine xs (fun _ => lv_istore (i := 6) (lv' := [(6, .int (bI false)), (7, .int (nI k)), (0, .ref mb), (1, .int (nI i)), (2, .int s1), (3, .int a1), (4, .int b1), (5, .int c1)]) hx hb dX2_isLike_97 hl (by decide) (rfl)) (fun ls hl => ?_)
                    refine xs (fun _ => lv_iinc (v := (nI (k + 1))) (lv' := [(7, .int (nI (k + 1))), (6, .int (bI false)), (0, .ref mb), (1, .int (nI i)), (2, .int s1), (3, .int a1), (4, .int b1), (5, .int c1)]) hx hb dX2_isLike_99 hl (k := 1) rfl (nI_1 k) (by decide) (rfl)) (fun ls hl => ?_)
                    refine xl (fun _ => lv_goto (tgt := 52) hx hb dX2_isLike_102 (by decide)) ?_
                    exact ih (k + 1) false (by omega) (by omega) (⟨(fun z => by cases z), fun z => absurd (z.2 c_67 k (by omega)) c_89⟩) ls (lv_sub hl [0, 1, 2, 3, 4, 5, 6, 7] rfl)
                  · refine xl (fun _ => lv_iconst (v := 1) hx hb dX2_isLike_92 (by decide)) ?_
                    refine xl (fun _ => lv_goto (tgt := 97) hx hb dX2_isLike_93 (by decide)) ?_
                    refine xg (g2 := F0 m 97 ls [.int (bI true)]) rfl ?_
                    refine xs (fun _ => lv_istore (i := 6) (lv' := [(6, .int (bI true)), (7, .int (nI k)), (0, .ref mb), (1, .int (nI i)), (2, .int s1), (3, .int a1), (4, .int b1), (5, .int c1)]) hx hb dX2_isLike_97 hl (by decide) (rfl)) (fun ls hl => ?_)
                    refine xs (fun _ => lv_iinc (v := (nI (k + 1))) (lv' := [(7, .int (nI (k + 1))), (6, .int (bI true)), (0, .ref mb), (1, .int (nI i)), (2, .int s1), (3, .int a1), (4, .int b1), (5, .int c1)]) hx hb dX2_isLike_99 hl (k := 1) rfl (nI_1 k) (by decide) (rfl)) (fun ls hl => ?_)
                    refine xl (fun _ => lv_goto (tgt := 52) hx hb dX2_isLike_102 (by decide)) ?_
                    exact ih (k + 1) true (by omega) (by omega) (⟨fun _ => ⟨(hsm.mp c_61).1, fun e7 q hq => by by_cases e : q = k; (rw [e]; exact c_89); exact (hsm.mp c_61).2 e7 q (by omega)⟩, fun _ => rfl⟩) ls (lv_sub hl [0, 1, 2, 3, 4, 5, 6, 7] rfl)
        exact hloop 9 0 false (by decide) (by decide) (⟨(fun z => by cases z), fun z => absurd z.1.2.2.1 c_28⟩) ls (lv_sub hl [0, 1, 2, 3, 4, 5, 6, 7] rfl)
      · refine xl (fun _ => lv_aload_n hx hb dX2_isLike_31 rfl (lv_at hl 0 rfl)) ?_
        refine x_get (ci := 2) hx hb hts hown hK wiX2 hX rfl 4 (by decide) wFX2_19 rfl rfl dX2_isLike_32 ?_
        refine xl (fun _ => lv_iload_n hx hb dX2_isLike_35 rfl (lv_at hl 1 rfl)) ?_
        refine x_iald hx hb hK h4 i (rfl) (by omega) (by decide) dX2_isLike_36 ?_
        refine xl (fun _ => lv_iload hx hb dX2_isLike_37 (lv_at hl 5 rfl)) ?_
        refine xb (fun _ => lv_icmp_ne (tgt := 46) hx hb dX2_isLike_39 (by decide)) (fun c_39 => ?_) (fun c_39 => ?_)
        · refine xl (fun _ => lv_iconst (v := 0) hx hb dX2_isLike_46 (by decide)) ?_
          refine xg (g2 := F0 m 47 ls [.int (bI false)]) rfl ?_
          refine xs (fun _ => lv_istore (i := 6) (lv' := [(6, .int (bI false)), (0, .ref mb), (1, .int (nI i)), (2, .int s1), (3, .int a1), (4, .int b1), (5, .int c1)]) hx hb dX2_isLike_47 hl (by decide) (rfl)) (fun ls hl => ?_)
          refine xl (fun _ => lv_iconst (v := 0) hx hb dX2_isLike_49 (by decide)) ?_
          refine xs (fun _ => lv_istore (i := 7) (lv' := [(7, .int 0), (6, .int (bI false)), (0, .ref mb), (1, .int (nI i)), (2, .int s1), (3, .int a1), (4, .int b1), (5, .int c1)]) hx hb dX2_isLike_50 hl (by decide) (rfl)) (fun ls hl => ?_)
          have hloop : ∀ (d : Nat) (k : Nat) (sm : Bool), k ≤ 8 → 8 < k + d → (sm = true ↔ (so i = s1 ∧ on i = a1 ∧ tw i = b1 ∧ th i = c1) ∧ (s1 = 7 → ∀ q, q < k → ce (8 * i + q) = li q)) → ∀ (ls : Array Slot), lv_has ls 8 [(7, .int (nI k)), (6, .int (bI sm)), (0, .ref mb), (1, .int (nI i)), (2, .int s1), (3, .int a1), (4, .int b1), (5, .int c1)] → xV p l e (xR 0 0 0) s m args below meth c G H 0 0 (MQ below (xQ G H (xPu (.int (bI B)) H)) args s 0 0 (sg_fr G)) (F0 m 52 ls []) := by
            intro d
            induction d with
            | zero =>
              intro k sm h1 h2
              exact absurd h2 (by omega)
            | succ d ih =>
              intro k sm hk hd hsm ls hl
              refine xl (fun _ => lv_iload hx hb dX2_isLike_52 (lv_at hl 0 rfl)) ?_
              refine xl (fun _ => lv_bipush (v := 8) hx hb dX2_isLike_54 (by decide)) ?_
              refine xb (fun _ => lv_icmp_ge (tgt := 105) hx hb dX2_isLike_56 (by decide)) (fun c_56 => ?_) (fun c_56 => ?_)
              · have e8k : k = 8 := by have := nI_le4 (n := 8) (by omega) (by decide) c_56; omega
                refine xl (fun _ => lv_iload hx hb dX2_isLike_105 (lv_at hl 1 rfl)) ?_
                exact x_zret hx hb hr hlocks hs0 hbs (bI_and _) (by decide) (by decide) dX2_isLike_107 (⟨by rw [show sm = B from bool_eq (hsm.trans (by rw [hB, e8k]; exact and_assoc5.symm))], rfl⟩)
              · have hk8 : k < 8 := nI_nle4 (n := 8) (by omega) (by decide) c_56
                refine xl (fun _ => lv_iload hx hb dX2_isLike_59 (lv_at hl 1 rfl)) ?_
                refine xb (fun _ => lv_if_eq (tgt := 105) hx hb dX2_isLike_61 (by decide)) (fun c_61 => ?_) (fun c_61 => ?_)
                · have c_61 := bI_f c_61
                  refine xl (fun _ => lv_iload hx hb dX2_isLike_105 (lv_at hl 1 rfl)) ?_
                  exact x_zret hx hb hr hlocks hs0 hbs (bI_and _) (by decide) (by decide) dX2_isLike_107 (⟨by rw [show sm = B from bool_eq ⟨(fun z => by rw [c_61] at z; cases z), fun z => by have q := hB.mp z; exact absurd (hsm.mpr ⟨⟨q.1, q.2.1, q.2.2.1, q.2.2.2.1⟩, fun e7 x hx => q.2.2.2.2 e7 x (by omega)⟩) (by rw [c_61]; decide)⟩], rfl⟩)
                · have c_61 := bI_t c_61
                  refine xl (fun _ => lv_iload_n hx hb dX2_isLike_64 rfl (lv_at hl 4 rfl)) ?_
                  refine xl (fun _ => lv_bipush (v := 7) hx hb dX2_isLike_65 (by decide)) ?_
                  refine xb (fun _ => lv_icmp_ne (tgt := 92) hx hb dX2_isLike_67 (by decide)) (fun c_67 => ?_) (fun c_67 => ?_)
                  · refine xl (fun _ => lv_iconst (v := 1) hx hb dX2_isLike_92 (by decide)) ?_
                    refine xl (fun _ => lv_goto (tgt := 97) hx hb dX2_isLike_93 (by decide)) ?_
                    refine xg (g2 := F0 m 97 ls [.int (bI true)]) rfl ?_
                    refine xs (fun _ => lv_istore (i := 6) (lv' := [(6, .int (bI true)), (7, .int (nI k)), (0, .ref mb), (1, .int (nI i)), (2, .int s1), (3, .int a1), (4, .int b1), (5, .int c1)]) hx hb dX2_isLike_97 hl (by decide) (rfl)) (fun ls hl => ?_)
                    refine xs (fun _ => lv_iinc (v := (nI (k + 1))) (lv' := [(7, .int (nI (k + 1))), (6, .int (bI true)), (0, .ref mb), (1, .int (nI i)), (2, .int s1), (3, .int a1), (4, .int b1), (5, .int c1)]) hx hb dX2_isLike_99 hl (k := 1) rfl (nI_1 k) (by decide) (rfl)) (fun ls hl => ?_)
                    refine xl (fun _ => lv_goto (tgt := 52) hx hb dX2_isLike_102 (by decide)) ?_
                    exact ih (k + 1) true (by omega) (by omega) (⟨fun _ => ⟨(hsm.mp c_61).1, fun e7 => absurd e7 c_67⟩, fun _ => rfl⟩) ls (lv_sub hl [0, 1, 2, 3, 4, 5, 6, 7] rfl)
                  · refine xl (fun _ => lv_aload_n hx hb dX2_isLike_70 rfl (lv_at hl 2 rfl)) ?_
                    refine x_get (ci := 2) hx hb hts hown hK wiX2 hX rfl 5 (by decide) wFX2_22 rfl rfl dX2_isLike_71 ?_
                    refine xl (fun _ => lv_bipush (v := 8) hx hb dX2_isLike_74 (by decide)) ?_
                    refine xl (fun _ => lv_iload_n hx hb dX2_isLike_76 rfl (lv_at hl 3 rfl)) ?_
                    refine xl (fun _ => lv_imul hx hb dX2_isLike_77) ?_
                    rw [show (8 * (nI i)) = (nI (8 * i)) from pk_mul 8 i]
                    refine xl (fun _ => lv_iload hx hb dX2_isLike_78 (lv_at hl 0 rfl)) ?_
                    refine xl (fun _ => lv_iadd hx hb dX2_isLike_80) ?_
                    rw [show ((nI (8 * i)) + (nI k)) = (nI (8 * i + k)) from nI_add _ _]
                    refine x_iald hx hb hK h5 (8 * i + k) (rfl) (by omega) (by decide) dX2_isLike_81 ?_
                    refine xl (fun _ => lv_aload_n hx hb dX2_isLike_82 rfl (lv_at hl 2 rfl)) ?_
                    refine x_get (ci := 2) hx hb hts hown hK wiX2 hX rfl 8 (by decide) wFX2_32 rfl rfl dX2_isLike_83 ?_
                    refine xl (fun _ => lv_iload hx hb dX2_isLike_86 (lv_at hl 0 rfl)) ?_
                    refine x_iald hx hb hK h8 k (rfl) (by omega) (by decide) dX2_isLike_88 ?_
                    refine xb (fun _ => lv_icmp_ne (tgt := 96) hx hb dX2_isLike_89 (by decide)) (fun c_89 => ?_) (fun c_89 => ?_)
                    · refine xl (fun _ => lv_iconst (v := 0) hx hb dX2_isLike_96 (by decide)) ?_
                      refine xg (g2 := F0 m 97 ls [.int (bI false)]) rfl ?_
                      refine xs (fun _ => lv_istore (i := 6) (lv' := [(6, .int (bI false)), (7, .int (nI k)), (0, .ref mb), (1, .int (nI i)), (2, .int s1), (3, .int a1), (4, .int b1), (5, .int c1)]) hx hb dX2_isLike_97 hl (by decide) (rfl)) (fun ls hl => ?_)
                      refine xs (fun _ => lv_iinc (v := (nI (k + 1))) (lv' := [(7, .int (nI (k + 1))), (6, .int (bI false)), (0, .ref mb), (1, .int (nI i)), (2, .int s1), (3, .int a1), (4, .int b1), (5, .int c1)]) hx hb dX2_isLike_99 hl (k := 1) rfl (nI_1 k) (by decide) (rfl)) (fun ls hl => ?_)
                      refine xl (fun _ => lv_goto (tgt := 52) hx hb dX2_isLike_102 (by decide)) ?_
                      exact ih (k + 1) false (by omega) (by omega) (⟨(fun z => by cases z), fun z => absurd (z.2 c_67 k (by omega)) c_89⟩) ls (lv_sub hl [0, 1, 2, 3, 4, 5, 6, 7] rfl)
                    · refine xl (fun _ => lv_iconst (v := 1) hx hb dX2_isLike_92 (by decide)) ?_
                      refine xl (fun _ => lv_goto (tgt := 97) hx hb dX2_isLike_93 (by decide)) ?_
                      refine xg (g2 := F0 m 97 ls [.int (bI true)]) rfl ?_
                      refine xs (fun _ => lv_istore (i := 6) (lv' := [(6, .int (bI true)), (7, .int (nI k)), (0, .ref mb), (1, .int (nI i)), (2, .int s1), (3, .int a1), (4, .int b1), (5, .int c1)]) hx hb dX2_isLike_97 hl (by decide) (rfl)) (fun ls hl => ?_)
                      refine xs (fun _ => lv_iinc (v := (nI (k + 1))) (lv' := [(7, .int (nI (k + 1))), (6, .int (bI true)), (0, .ref mb), (1, .int (nI i)), (2, .int s1), (3, .int a1), (4, .int b1), (5, .int c1)]) hx hb dX2_isLike_99 hl (k := 1) rfl (nI_1 k) (by decide) (rfl)) (fun ls hl => ?_)
                      refine xl (fun _ => lv_goto (tgt := 52) hx hb dX2_isLike_102 (by decide)) ?_
                      exact ih (k + 1) true (by omega) (by omega) (⟨fun _ => ⟨(hsm.mp c_61).1, fun e7 q hq => by by_cases e : q = k; (rw [e]; exact c_89); exact (hsm.mp c_61).2 e7 q (by omega)⟩, fun _ => rfl⟩) ls (lv_sub hl [0, 1, 2, 3, 4, 5, 6, 7] rfl)
          exact hloop 9 0 false (by decide) (by decide) (⟨(fun z => by cases z), fun z => absurd z.1.2.2.2 c_39⟩) ls (lv_sub hl [0, 1, 2, 3, 4, 5, 6, 7] rfl)
        · refine xl (fun _ => lv_iconst (v := 1) hx hb dX2_isLike_42 (by decide)) ?_
          refine xl (fun _ => lv_goto (tgt := 47) hx hb dX2_isLike_43 (by decide)) ?_
          refine xg (g2 := F0 m 47 ls [.int (bI true)]) rfl ?_
          refine xs (fun _ => lv_istore (i := 6) (lv' := [(6, .int (bI true)), (0, .ref mb), (1, .int (nI i)), (2, .int s1), (3, .int a1), (4, .int b1), (5, .int c1)]) hx hb dX2_isLike_47 hl (by decide) (rfl)) (fun ls hl => ?_)
          refine xl (fun _ => lv_iconst (v := 0) hx hb dX2_isLike_49 (by decide)) ?_
          refine xs (fun _ => lv_istore (i := 7) (lv' := [(7, .int 0), (6, .int (bI true)), (0, .ref mb), (1, .int (nI i)), (2, .int s1), (3, .int a1), (4, .int b1), (5, .int c1)]) hx hb dX2_isLike_50 hl (by decide) (rfl)) (fun ls hl => ?_)
          have hloop : ∀ (d : Nat) (k : Nat) (sm : Bool), k ≤ 8 → 8 < k + d → (sm = true ↔ (so i = s1 ∧ on i = a1 ∧ tw i = b1 ∧ th i = c1) ∧ (s1 = 7 → ∀ q, q < k → ce (8 * i + q) = li q)) → ∀ (ls : Array Slot), lv_has ls 8 [(7, .int (nI k)), (6, .int (bI sm)), (0, .ref mb), (1, .int (nI i)), (2, .int s1), (3, .int a1), (4, .int b1), (5, .int c1)] → xV p l e (xR 0 0 0) s m args below meth c G H 0 0 (MQ below (xQ G H (xPu (.int (bI B)) H)) args s 0 0 (sg_fr G)) (F0 m 52 ls []) := by
            intro d
            induction d with
            | zero =>
              intro k sm h1 h2
              exact absurd h2 (by omega)
            | succ d ih =>
              intro k sm hk hd hsm ls hl
              refine xl (fun _ => lv_iload hx hb dX2_isLike_52 (lv_at hl 0 rfl)) ?_
              refine xl (fun _ => lv_bipush (v := 8) hx hb dX2_isLike_54 (by decide)) ?_
              refine xb (fun _ => lv_icmp_ge (tgt := 105) hx hb dX2_isLike_56 (by decide)) (fun c_56 => ?_) (fun c_56 => ?_)
              · have e8k : k = 8 := by have := nI_le4 (n := 8) (by omega) (by decide) c_56; omega
                refine xl (fun _ => lv_iload hx hb dX2_isLike_105 (lv_at hl 1 rfl)) ?_
                exact x_zret hx hb hr hlocks hs0 hbs (bI_and _) (by decide) (by decide) dX2_isLike_107 (⟨by rw [show sm = B from bool_eq (hsm.trans (by rw [hB, e8k]; exact and_assoc5.symm))], rfl⟩)
              · have hk8 : k < 8 := nI_nle4 (n := 8) (by omega) (by decide) c_56
                refine xl (fun _ => lv_iload hx hb dX2_isLike_59 (lv_at hl 1 rfl)) ?_
                refine xb (fun _ => lv_if_eq (tgt := 105) hx hb dX2_isLike_61 (by decide)) (fun c_61 => ?_) (fun c_61 => ?_)
                · have c_61 := bI_f c_61
                  refine xl (fun _ => lv_iload hx hb dX2_isLike_105 (lv_at hl 1 rfl)) ?_
                  exact x_zret hx hb hr hlocks hs0 hbs (bI_and _) (by decide) (by decide) dX2_isLike_107 (⟨by rw [show sm = B from bool_eq ⟨(fun z => by rw [c_61] at z; cases z), fun z => by have q := hB.mp z; exact absurd (hsm.mpr ⟨⟨q.1, q.2.1, q.2.2.1, q.2.2.2.1⟩, fun e7 x hx => q.2.2.2.2 e7 x (by omega)⟩) (by rw [c_61]; decide)⟩], rfl⟩)
                · have c_61 := bI_t c_61
                  refine xl (fun _ => lv_iload_n hx hb dX2_isLike_64 rfl (lv_at hl 4 rfl)) ?_
                  refine xl (fun _ => lv_bipush (v := 7) hx hb dX2_isLike_65 (by decide)) ?_
                  refine xb (fun _ => lv_icmp_ne (tgt := 92) hx hb dX2_isLike_67 (by decide)) (fun c_67 => ?_) (fun c_67 => ?_)
                  · refine xl (fun _ => lv_iconst (v := 1) hx hb dX2_isLike_92 (by decide)) ?_
                    refine xl (fun _ => lv_goto (tgt := 97) hx hb dX2_isLike_93 (by decide)) ?_
                    refine xg (g2 := F0 m 97 ls [.int (bI true)]) rfl ?_
                    refine xs (fun _ => lv_istore (i := 6) (lv' := [(6, .int (bI true)), (7, .int (nI k)), (0, .ref mb), (1, .int (nI i)), (2, .int s1), (3, .int a1), (4, .int b1), (5, .int c1)]) hx hb dX2_isLike_97 hl (by decide) (rfl)) (fun ls hl => ?_)
                    refine xs (fun _ => lv_iinc (v := (nI (k + 1))) (lv' := [(7, .int (nI (k + 1))), (6, .int (bI true)), (0, .ref mb), (1, .int (nI i)), (2, .int s1), (3, .int a1), (4, .int b1), (5, .int c1)]) hx hb dX2_isLike_99 hl (k := 1) rfl (nI_1 k) (by decide) (rfl)) (fun ls hl => ?_)
                    refine xl (fun _ => lv_goto (tgt := 52) hx hb dX2_isLike_102 (by decide)) ?_
                    exact ih (k + 1) true (by omega) (by omega) (⟨fun _ => ⟨(hsm.mp c_61).1, fun e7 => absurd e7 c_67⟩, fun _ => rfl⟩) ls (lv_sub hl [0, 1, 2, 3, 4, 5, 6, 7] rfl)
                  · refine xl (fun _ => lv_aload_n hx hb dX2_isLike_70 rfl (lv_at hl 2 rfl)) ?_
                    refine x_get (ci := 2) hx hb hts hown hK wiX2 hX rfl 5 (by decide) wFX2_22 rfl rfl dX2_isLike_71 ?_
                    refine xl (fun _ => lv_bipush (v := 8) hx hb dX2_isLike_74 (by decide)) ?_
                    refine xl (fun _ => lv_iload_n hx hb dX2_isLike_76 rfl (lv_at hl 3 rfl)) ?_
                    refine xl (fun _ => lv_imul hx hb dX2_isLike_77) ?_
                    rw [show (8 * (nI i)) = (nI (8 * i)) from pk_mul 8 i]
                    refine xl (fun _ => lv_iload hx hb dX2_isLike_78 (lv_at hl 0 rfl)) ?_
                    refine xl (fun _ => lv_iadd hx hb dX2_isLike_80) ?_
                    rw [show ((nI (8 * i)) + (nI k)) = (nI (8 * i + k)) from nI_add _ _]
                    refine x_iald hx hb hK h5 (8 * i + k) (rfl) (by omega) (by decide) dX2_isLike_81 ?_
                    refine xl (fun _ => lv_aload_n hx hb dX2_isLike_82 rfl (lv_at hl 2 rfl)) ?_
                    refine x_get (ci := 2) hx hb hts hown hK wiX2 hX rfl 8 (by decide) wFX2_32 rfl rfl dX2_isLike_83 ?_
                    refine xl (fun _ => lv_iload hx hb dX2_isLike_86 (lv_at hl 0 rfl)) ?_
                    refine x_iald hx hb hK h8 k (rfl) (by omega) (by decide) dX2_isLike_88 ?_
                    refine xb (fun _ => lv_icmp_ne (tgt := 96) hx hb dX2_isLike_89 (by decide)) (fun c_89 => ?_) (fun c_89 => ?_)
                    · refine xl (fun _ => lv_iconst (v := 0) hx hb dX2_isLike_96 (by decide)) ?_
                      refine xg (g2 := F0 m 97 ls [.int (bI false)]) rfl ?_
                      refine xs (fun _ => lv_istore (i := 6) (lv' := [(6, .int (bI false)), (7, .int (nI k)), (0, .ref mb), (1, .int (nI i)), (2, .int s1), (3, .int a1), (4, .int b1), (5, .int c1)]) hx hb dX2_isLike_97 hl (by decide) (rfl)) (fun ls hl => ?_)
                      refine xs (fun _ => lv_iinc (v := (nI (k + 1))) (lv' := [(7, .int (nI (k + 1))), (6, .int (bI false)), (0, .ref mb), (1, .int (nI i)), (2, .int s1), (3, .int a1), (4, .int b1), (5, .int c1)]) hx hb dX2_isLike_99 hl (k := 1) rfl (nI_1 k) (by decide) (rfl)) (fun ls hl => ?_)
                      refine xl (fun _ => lv_goto (tgt := 52) hx hb dX2_isLike_102 (by decide)) ?_
                      exact ih (k + 1) false (by omega) (by omega) (⟨(fun z => by cases z), fun z => absurd (z.2 c_67 k (by omega)) c_89⟩) ls (lv_sub hl [0, 1, 2, 3, 4, 5, 6, 7] rfl)
                    · refine xl (fun _ => lv_iconst (v := 1) hx hb dX2_isLike_92 (by decide)) ?_
                      refine xl (fun _ => lv_goto (tgt := 97) hx hb dX2_isLike_93 (by decide)) ?_
                      refine xg (g2 := F0 m 97 ls [.int (bI true)]) rfl ?_
                      refine xs (fun _ => lv_istore (i := 6) (lv' := [(6, .int (bI true)), (7, .int (nI k)), (0, .ref mb), (1, .int (nI i)), (2, .int s1), (3, .int a1), (4, .int b1), (5, .int c1)]) hx hb dX2_isLike_97 hl (by decide) (rfl)) (fun ls hl => ?_)
                      refine xs (fun _ => lv_iinc (v := (nI (k + 1))) (lv' := [(7, .int (nI (k + 1))), (6, .int (bI true)), (0, .ref mb), (1, .int (nI i)), (2, .int s1), (3, .int a1), (4, .int b1), (5, .int c1)]) hx hb dX2_isLike_99 hl (k := 1) rfl (nI_1 k) (by decide) (rfl)) (fun ls hl => ?_)
                      refine xl (fun _ => lv_goto (tgt := 52) hx hb dX2_isLike_102 (by decide)) ?_
                      exact ih (k + 1) true (by omega) (by omega) (⟨fun _ => ⟨(hsm.mp c_61).1, fun e7 q hq => by by_cases e : q = k; (rw [e]; exact c_89); exact (hsm.mp c_61).2 e7 q (by omega)⟩, fun _ => rfl⟩) ls (lv_sub hl [0, 1, 2, 3, 4, 5, 6, 7] rfl)
          exact hloop 9 0 true (by decide) (by decide) (⟨fun _ => ⟨⟨c_7, c_17, c_28, c_39⟩, fun _ q hq => absurd hq (Nat.not_lt_zero q)⟩, fun _ => rfl⟩) ls (lv_sub hl [0, 1, 2, 3, 4, 5, 6, 7] rfl)
end
section
/-! the reference: putting a term -/
theorem put_lk {n : Nat} {t : Nat → sp_T} {rg : Nat → Option Nat} {so on tw th ce re li : Nat → Int32} (hn : n ≤ 512) (hR : sm_R n t rg so on tw th ce re) {dd : sp_T} (hwd : sp_wf t n dd) {s1 a1 b1 c1 : Int32} (hs : s1 = sp_so dd) (ha : ¬ sp_so dd = 1 → a1 = e1 dd) (hb : b1 = e2 dd) (hc : c1 = e3 dd) (hli : sp_so dd = 7 → ∀ k, k < 8 → li k = e8 dd k) (h1s : sp_so dd = 1 → ∀ i, i < n → sp_so (t i) = 1 → ¬ on i = a1) {i : Nat} (hi : i < n) :
    sp_al (t i) dd = true ↔ (so i = s1 ∧ on i = a1 ∧ tw i = b1 ∧ th i = c1 ∧ (s1 = 7 → ∀ k, k < 8 → ce (8 * i + k) = li k)) := by
  obtain ⟨q1, q2, q3, q4, q5⟩ := hR.1 i hi
  rw [sp_al_t]
  by_cases h1 : sp_so dd = 1
  · constructor
    · intro z
      exact absurd (z.2.1.trans h1) z.1
    · intro z
      rw [q1, hs] at z
      exact absurd z.2.1 (h1s h1 i hi (z.1.trans h1))
  · rw [enc_lk (by omega) hn (hR.2.2.2 i hi) hwd h1, q1, q3, q4, hs, hb, hc]
    constructor
    · rintro ⟨z1, z2, z3, z4, z5⟩
      refine ⟨z1, ?_, z3, z4, fun h7 k hk => ?_⟩
      · rw [q2 (by rw [z1]; exact h1), z2, ha h1]
      · rw [q5 k hk, z5 h7 k hk, hli h7 k hk]
    · rintro ⟨z1, z2, z3, z4, z5⟩
      refine ⟨z1, ?_, z3, z4, fun h7 k hk => ?_⟩
      · rw [← q2 (by rw [z1]; exact h1), z2, ha h1]
      · rw [← q5 k hk, z5 h7 k hk, hli h7 k hk]
theorem sm_R_new {n : Nat} {t : Nat → sp_T} {rg : Nat → Option Nat} {so on tw th ce re ck : Nat → Int32} (hR : sm_R n t rg so on tw th ce re) {dd : sp_T} (hwd : sp_wf t n dd) {s1 a1 b1 c1 : Int32} {rr : Nat} (hs : s1 = sp_so dd) (ha : ¬ sp_so dd = 1 → a1 = e1 dd) (hb : b1 = e2 dd) (hc : c1 = e3 dd) (hlow : ∀ x, x < 8 * n → ck x = ce x) (hcs : ∀ q, q < 8 → ck (8 * n + q) = e8 dd q) :
    sm_R (n + 1) (va_up t n dd) (va_up rg rr (some n)) (upd so n s1) (upd on n a1) (upd tw n b1) (upd th n c1) ck (upd re rr (nI (n + 1))) := by
  refine ⟨fun i hi => ?_, fun k hk => ?_, fun k hk i hi => ?_, fun i hi => ?_⟩
  · by_cases e : i = n
    · subst e
      rw [va_up_self, pk_us, pk_us, pk_us, pk_us]
      exact ⟨hs, ha, hb, hc, hcs⟩
    · have hin : i < n := by omega
      obtain ⟨q1, q2, q3, q4, q5⟩ := hR.1 i hin
      rw [va_up_ne _ _ e, pk_un e, pk_un e, pk_un e, pk_un e]
      exact ⟨q1, q2, q3, q4, fun k hk => by rw [hlow _ (by omega)]; exact q5 k hk⟩
  · by_cases e : k = rr
    · subst e
      rw [va_up_self, pk_us]
      rfl
    · rw [va_up_ne _ _ e, pk_un e]
      exact hR.2.1 k hk
  · by_cases e : k = rr
    · subst e
      rw [va_up_self] at hi
      cases hi
      omega
    · rw [va_up_ne _ _ e] at hi
      have := hR.2.2.1 k hk i hi
      omega
  · by_cases e : i = n
    · subst e
      rw [va_up_self]
      exact sp_wf_to hwd (fun j hj => va_up_ne _ _ (Nat.ne_of_lt hj))
    · rw [va_up_ne _ _ e]
      exact sp_wf_to (hR.2.2.2 i (by omega)) (fun j hj => va_up_ne _ _ (by omega))
theorem sm_R_old {n : Nat} {t : Nat → sp_T} {rg : Nat → Option Nat} {so on tw th ce re : Nat → Int32} (hR : sm_R n t rg so on tw th ce re) {rr i : Nat} (hi : i < n) : sm_R n t (va_up rg rr (some i)) so on tw th ce (upd re rr (nI (i + 1))) := by
  refine ⟨hR.1, fun k hk => ?_, fun k hk j hj => ?_, hR.2.2.2⟩
  · by_cases e : k = rr
    · subst e
      rw [va_up_self, pk_us]
      rfl
    · rw [va_up_ne _ _ e, pk_un e]
      exact hR.2.1 k hk
  · by_cases e : k = rr
    · subst e
      rw [va_up_self] at hj
      cases hj
      exact hi
    · rw [va_up_ne _ _ e] at hj
      exact hR.2.2.1 k hk j hj
theorem sm_Q_new {n ns : Nat} {t : Nat → sp_T} {on : Nat → Int32} (h : sm_Q n t ns on) {dd : sp_T} {a1 : Int32} (h1 : sp_so dd = 1 → a1 = nI ns ∧ 1 ≤ ns) : sm_Q (n + 1) (va_up t n dd) ns (upd on n a1) := by
  intro i hi hs
  by_cases e : i = n
  · subst e
    rw [va_up_self] at hs
    exact ⟨ns, (h1 hs).2, Nat.le_refl ns, by rw [pk_us]; exact (h1 hs).1⟩
  · rw [va_up_ne _ _ e] at hs
    obtain ⟨k, q1, q2, q3⟩ := h i (by omega) hs
    exact ⟨k, q1, q2, by rw [pk_un e]; exact q3⟩
theorem mkS_old {n : Nat} {t : Nat → sp_T} {rg : Nat → Option Nat} {g : Nat → Prop} {d : sp_T} {rr i : Nat} (h : sp_fd (fun i => sp_al (t i) d) n = some i) : sp_mkS (n, t, rg, g) rr d = (n, t, va_up rg rr (some i), g) := by
  unfold sp_mkS
  dsimp only
  rw [h]
theorem mkS_new {n : Nat} {t : Nat → sp_T} {rg : Nat → Option Nat} {g : Nat → Prop} {d : sp_T} {rr : Nat} (h : sp_fd (fun i => sp_al (t i) d) n = none) : sp_mkS (n, t, rg, g) rr d = (n + 1, va_up t n d, va_up rg rr (some n), g) := by
  unfold sp_mkS
  dsimp only
  rw [h]
theorem mkS_le {n : Nat} {t : Nat → sp_T} {rg : Nat → Option Nat} {g : Nat → Prop} {d : sp_T} {rr : Nat} : n ≤ (sp_mkS (n, t, rg, g) rr d).1 ∧ (sp_mkS (n, t, rg, g) rr d).2.2.2 = g := by
  cases h : sp_fd (fun i => sp_al (t i) d) n with
  | none => rw [mkS_new h]; exact ⟨Nat.le_succ n, rfl⟩
  | some i => rw [mkS_old h]; exact ⟨Nat.le_refl n, rfl⟩
theorem fd_none {P : Nat → Bool} {n : Nat} (h : ∀ i, i < n → P i = false) : sp_fd P n = none := by
  induction n with
  | zero => rfl
  | succ k ih => exact sp_fd_s (ih (fun i hi => h i (by omega))) (h k (by omega))
theorem fd_secret {n : Nat} {t : Nat → sp_T} {d : sp_T} (h : sp_so d = 1) : sp_fd (fun i => sp_al (t i) d) n = none := fd_none (fun i _ => bF sp_al_t (fun z => z.1 (z.2.1.trans h)))
theorem sp_mi_nI {a : sp_S} {rr : Nat} {d : sp_T} (h : rr < 64) : sp_mi a (nI rr) d = (1, sp_mkS a rr d) := by
  unfold sp_mi
  rw [if_pos (sp_ir_nI h), nI_clamp (by omega)]
theorem sp_rg_m1 {rg : Nat → Option Nat} : sp_rg rg (-1) = none := sp_rg_no (by decide)
theorem sp_sd_so (x y : Nat) : sp_so (sp_sd x y) = 3 := rfl
/-- a register gets a part -/
def sp_po (d : sp_T) (w : Int32) : Option Nat := if ¬ w < 0 ∧ ¬ 10 ≤ w then (if sp_so d = sg_tab 0 w.toNatClampNeg then sp_pa d (sp_sl w.toNatClampNeg) else none) else none
theorem sp_po_nI {d : sp_T} {j : Nat} (h : j < 10) : sp_po d (nI j) = if sp_so d = sg_tab 0 j then sp_pa d (sp_sl j) else none := by
  unfold sp_po
  rw [if_pos ⟨nI_pos (by omega), nI_ge (b := 10) h (by decide)⟩, nI_clamp (by omega)]
theorem op_part_eq {a : sp_S} {r x w : Int32} {i : Nat} (h : sp_rg a.2.2.1 x = some i) : op_part a r x w = match sp_po (a.2.1 i) w with
    | some k => (sp_r1 r, (a.1, a.2.1, sp_pt a.2.2.1 r k, a.2.2.2))
    | none => (-1, a) := by
  unfold op_part sp_po
  rw [h]
  dsimp only
  by_cases h1 : ¬ w < 0 ∧ ¬ 10 ≤ w
  · rw [if_pos h1, if_pos h1]
    by_cases h2 : sp_so (a.2.1 i) = sg_tab 0 w.toNatClampNeg
    · rw [if_pos h2, if_pos h2]
      cases sp_pa (a.2.1 i) (sp_sl w.toNatClampNeg) <;> rfl
    · rw [if_neg h2, if_neg h2]
  · rw [if_neg h1, if_neg h1]
theorem sm_R_part {n : Nat} {t : Nat → sp_T} {rg : Nat → Option Nat} {so on tw th ce re : Nat → Int32} (hR : sm_R n t rg so on tw th ce re) {rr k : Nat} (hk : k < n) : sm_R n t (va_up rg rr (some k)) so on tw th ce (upd re rr (nI (k + 1))) := sm_R_old hR hk
theorem so_ne {d : sp_T} {a b : Int32} (h : sp_so d = a) (n : ¬ a = b) : ¬ sp_so d = b := fun e => n (h.symm.trans e)
end
section
set_option maxHeartbeats 4000000 in
set_option maxRecDepth 100000 in
theorem c_X2_put (l : Launch) (G : sg_G) (H : Heap) (mb n : Nat) (so on tw th ce gi kn li re : Nat → Int32) (sec : Int32) (hM : sm_X G mb n so on tw th ce gi kn li re sec H) (t : Nat → sp_T) (rg : Nat → Option Nat) (hR : sm_R n t rg so on tw th ce re) (g : Nat → Prop) (dd : sp_T) (hwd : sp_wf t n dd) (rr : Nat) (hrr : rr < 64) (s1 a1 b1 c1 : Int32) (hs : s1 = sp_so dd) (ha : ¬ sp_so dd = 1 → a1 = e1 dd) (hb1 : b1 = e2 dd) (hc1 : c1 = e3 dd) (hli : sp_so dd = 7 → ∀ k, k < 8 → li k = e8 dd k) (ns : Nat) (hQ : sm_Q n t ns on) (h1s : sp_so dd = 1 → (a1 = nI ns ∧ 1 ≤ ns) ∧ ∀ i, i < n → sp_so (t i) = 1 → ¬ on i = a1) (hn1 : n < 512) : xC l G yX2_put cX2_put 8 (some FieldType.int) 1 0 0 [.ref mb, .int (nI rr), .int s1, .int a1, .int b1, .int c1] H (fun ans H' => ans = some (.int 1) ∧ (∃ so' on' tw' th' ce' re', sm_X G mb (sp_mkS (n, t, rg, g) rr dd).1 so' on' tw' th' ce' gi kn li re' sec H' ∧ sm_R (sp_mkS (n, t, rg, g) rr dd).1 (sp_mkS (n, t, rg, g) rr dd).2.1 (sp_mkS (n, t, rg, g) rr dd).2.2.1 so' on' tw' th' ce' re' ∧ sm_Q (sp_mkS (n, t, rg, g) rr dd).1 (sp_mkS (n, t, rg, g) rr dd).2.1 ns on') ∧ sm_F mb H H') := by
  refine xC.start (by decide) (Nat.le_of_ble_eq_true rfl) ?_
  intro p e s m args below meth c ls E hnm hs0 hl
  obtain ⟨hx, hb, hml, hown, hts, hr, hlocks, hK, hbs⟩ := id E
  have hl : lv_has ls 8 [(0, .ref mb), (1, .int (nI rr)), (2, .int s1), (3, .int a1), (4, .int b1), (5, .int c1)] := hl
  obtain ⟨hm0, hmn, hX, h1, h2, h3, h4, h5, h6, h7, h8, h9⟩ := id hM
  obtain ⟨hRt, hRr, hRg, hRw⟩ := id hR
  have hF : sm_F mb H H := sm_F.rf
  refine xl (fun _ => lv_iconst (v := 0) hx hb dX2_put_0 (by decide)) ?_
  refine xs (fun _ => lv_istore (i := 6) (lv' := [(6, .int 0), (0, .ref mb), (1, .int (nI rr)), (2, .int s1), (3, .int a1), (4, .int b1), (5, .int c1)]) hx hb dX2_put_1 hl (by decide) (rfl)) (fun ls hl => ?_)
  have hlook : ∀ (d : Nat) (i : Nat), i ≤ n → n < i + d → sp_fd (fun i => sp_al (t i) dd) i = none → ∀ (ls : Array Slot), lv_has ls 8 [(6, .int (nI i)), (0, .ref mb), (1, .int (nI rr)), (2, .int s1), (3, .int a1), (4, .int b1), (5, .int c1)] → xV p l e (xR 1 0 0) s m args below meth c G H 0 0 (MQ below (xQ G H (fun ans H' => ans = some (.int 1) ∧ (∃ so' on' tw' th' ce' re', sm_X G mb (sp_mkS (n, t, rg, g) rr dd).1 so' on' tw' th' ce' gi kn li re' sec H' ∧ sm_R (sp_mkS (n, t, rg, g) rr dd).1 (sp_mkS (n, t, rg, g) rr dd).2.1 (sp_mkS (n, t, rg, g) rr dd).2.2.1 so' on' tw' th' ce' re' ∧ sm_Q (sp_mkS (n, t, rg, g) rr dd).1 (sp_mkS (n, t, rg, g) rr dd).2.1 ns on') ∧ sm_F mb H H')) args s 0 0 (sg_fr G)) (F0 m 3 ls []) := by
    intro d
    induction d with
    | zero =>
      intro i h1 h2
      exact absurd h2 (by omega)
    | succ d ih =>
      intro i hi hd hf ls hl
      refine xl (fun _ => lv_iload hx hb dX2_put_3 (lv_at hl 0 rfl)) ?_
      refine xl (fun _ => lv_aload_n hx hb dX2_put_5 rfl (lv_at hl 1 rfl)) ?_
      refine x_get (ci := 2) hx hb hts hown hK wiX2 hX rfl 0 (by decide) wFX2_38 rfl rfl dX2_put_6 ?_
      refine xb (fun _ => lv_icmp_ge (tgt := 33) hx hb dX2_put_9 (by decide)) (fun c_9 => ?_) (fun c_9 => ?_)
      · have ein : i = n := by have := nI_le4 (by omega) (by omega) c_9; omega
        rw [ein] at hf hl
        have hl : lv_has ls 8 [(6, .int (nI n)), (0, .ref mb), (1, .int (nI rr)), (2, .int s1), (3, .int a1), (4, .int b1), (5, .int c1)] := hl
        refine xl (fun _ => lv_iload hx hb dX2_put_33 (lv_at hl 0 rfl)) ?_
        refine xl (fun _ => lv_aload_n hx hb dX2_put_35 rfl (lv_at hl 1 rfl)) ?_
        refine x_get (ci := 2) hx hb hts hown hK wiX2 hX rfl 0 (by decide) wFX2_38 rfl rfl dX2_put_36 ?_
        refine xb (fun _ => lv_icmp_ne (tgt := 132) hx hb dX2_put_39 (by decide)) (fun c_39 => ?_) (fun c_39 => ?_)
        · exact absurd rfl c_39
        · refine xl (fun _ => lv_aload_n hx hb dX2_put_42 rfl (lv_at hl 1 rfl)) ?_
          refine x_get (ci := 2) hx hb hts hown hK wiX2 hX rfl 1 (by decide) wFX2_9 rfl rfl dX2_put_43 ?_
          refine xl (fun _ => lv_iload hx hb dX2_put_46 (lv_at hl 0 rfl)) ?_
          refine xl (fun _ => lv_iload_n hx hb dX2_put_48 rfl (lv_at hl 3 rfl)) ?_
          refine x_iast hx hb hK h1 n (rfl) (by omega) (by decide) (by omega) dX2_put_49 (fun H_1 ho_2 hz_3 hq_4 => ?_)
          have ho_2 : ia_ G H_1 (mb + 1) 640 (upd so n s1) := ho_2
          have k_5 := va_at.kept (H1 := H_1) (hX) (hq_4 _ (by omega))
          have k_6 := va_at.kept (H1 := H_1) (h2) (hq_4 _ (by omega))
          have k_7 := va_at.kept (H1 := H_1) (h3) (hq_4 _ (by omega))
          have k_8 := va_at.kept (H1 := H_1) (h4) (hq_4 _ (by omega))
          have k_9 := va_at.kept (H1 := H_1) (h5) (hq_4 _ (by omega))
          have k_10 := va_at.kept (H1 := H_1) (h6) (hq_4 _ (by omega))
          have k_11 := va_at.kept (H1 := H_1) (h7) (hq_4 _ (by omega))
          have k_12 := va_at.kept (H1 := H_1) (h8) (hq_4 _ (by omega))
          have k_13 := va_at.kept (H1 := H_1) (h9) (hq_4 _ (by omega))
          have hF : sm_F mb H H_1 := hF.put (a := (mb + 1)) hz_3 hq_4 ⟨by omega, by omega⟩
          refine xl (fun _ => lv_aload_n hx hb dX2_put_50 rfl (lv_at hl 1 rfl)) ?_
          refine x_get (ci := 2) hx hb hts hown hK wiX2 k_5 rfl 2 (by decide) wFX2_13 rfl rfl dX2_put_51 ?_
          refine xl (fun _ => lv_iload hx hb dX2_put_54 (lv_at hl 0 rfl)) ?_
          refine xl (fun _ => lv_iload_n hx hb dX2_put_56 rfl (lv_at hl 4 rfl)) ?_
          refine x_iast hx hb hK k_6 n (rfl) (by omega) (by decide) (by omega) dX2_put_57 (fun H_14 ho_15 hz_16 hq_17 => ?_)
          have ho_15 : ia_ G H_14 (mb + 2) 640 (upd on n a1) := ho_15
          have k_18 := va_at.kept (H1 := H_14) (k_5) (hq_17 _ (by omega))
          have k_19 := va_at.kept (H1 := H_14) (ho_2) (hq_17 _ (by omega))
          have k_20 := va_at.kept (H1 := H_14) (k_7) (hq_17 _ (by omega))
          have k_21 := va_at.kept (H1 := H_14) (k_8) (hq_17 _ (by omega))
          have k_22 := va_at.kept (H1 := H_14) (k_9) (hq_17 _ (by omega))
          have k_23 := va_at.kept (H1 := H_14) (k_10) (hq_17 _ (by omega))
          have k_24 := va_at.kept (H1 := H_14) (k_11) (hq_17 _ (by omega))
          have k_25 := va_at.kept (H1 := H_14) (k_12) (hq_17 _ (by omega))
          have k_26 := va_at.kept (H1 := H_14) (k_13) (hq_17 _ (by omega))
          have hF : sm_F mb H H_14 := hF.put (a := (mb + 2)) hz_16 hq_17 ⟨by omega, by omega⟩
          refine xl (fun _ => lv_aload_n hx hb dX2_put_58 rfl (lv_at hl 1 rfl)) ?_
          refine x_get (ci := 2) hx hb hts hown hK wiX2 k_18 rfl 3 (by decide) wFX2_16 rfl rfl dX2_put_59 ?_
          refine xl (fun _ => lv_iload hx hb dX2_put_62 (lv_at hl 0 rfl)) ?_
          refine xl (fun _ => lv_iload hx hb dX2_put_64 (lv_at hl 5 rfl)) ?_
          refine x_iast hx hb hK k_20 n (rfl) (by omega) (by decide) (by omega) dX2_put_66 (fun H_27 ho_28 hz_29 hq_30 => ?_)
          have ho_28 : ia_ G H_27 (mb + 3) 640 (upd tw n b1) := ho_28
          have k_31 := va_at.kept (H1 := H_27) (k_18) (hq_30 _ (by omega))
          have k_32 := va_at.kept (H1 := H_27) (k_19) (hq_30 _ (by omega))
          have k_33 := va_at.kept (H1 := H_27) (ho_15) (hq_30 _ (by omega))
          have k_34 := va_at.kept (H1 := H_27) (k_21) (hq_30 _ (by omega))
          have k_35 := va_at.kept (H1 := H_27) (k_22) (hq_30 _ (by omega))
          have k_36 := va_at.kept (H1 := H_27) (k_23) (hq_30 _ (by omega))
          have k_37 := va_at.kept (H1 := H_27) (k_24) (hq_30 _ (by omega))
          have k_38 := va_at.kept (H1 := H_27) (k_25) (hq_30 _ (by omega))
          have k_39 := va_at.kept (H1 := H_27) (k_26) (hq_30 _ (by omega))
          have hF : sm_F mb H H_27 := hF.put (a := (mb + 3)) hz_29 hq_30 ⟨by omega, by omega⟩
          refine xl (fun _ => lv_aload_n hx hb dX2_put_67 rfl (lv_at hl 1 rfl)) ?_
          refine x_get (ci := 2) hx hb hts hown hK wiX2 k_31 rfl 4 (by decide) wFX2_19 rfl rfl dX2_put_68 ?_
          refine xl (fun _ => lv_iload hx hb dX2_put_71 (lv_at hl 0 rfl)) ?_
          refine xl (fun _ => lv_iload hx hb dX2_put_73 (lv_at hl 6 rfl)) ?_
          refine x_iast hx hb hK k_34 n (rfl) (by omega) (by decide) (by omega) dX2_put_75 (fun H_40 ho_41 hz_42 hq_43 => ?_)
          have ho_41 : ia_ G H_40 (mb + 4) 640 (upd th n c1) := ho_41
          have k_44 := va_at.kept (H1 := H_40) (k_31) (hq_43 _ (by omega))
          have k_45 := va_at.kept (H1 := H_40) (k_32) (hq_43 _ (by omega))
          have k_46 := va_at.kept (H1 := H_40) (k_33) (hq_43 _ (by omega))
          have k_47 := va_at.kept (H1 := H_40) (ho_28) (hq_43 _ (by omega))
          have k_48 := va_at.kept (H1 := H_40) (k_35) (hq_43 _ (by omega))
          have k_49 := va_at.kept (H1 := H_40) (k_36) (hq_43 _ (by omega))
          have k_50 := va_at.kept (H1 := H_40) (k_37) (hq_43 _ (by omega))
          have k_51 := va_at.kept (H1 := H_40) (k_38) (hq_43 _ (by omega))
          have k_52 := va_at.kept (H1 := H_40) (k_39) (hq_43 _ (by omega))
          have hF : sm_F mb H H_40 := hF.put (a := (mb + 4)) hz_42 hq_43 ⟨by omega, by omega⟩
          refine xl (fun _ => lv_iconst (v := 0) hx hb dX2_put_76 (by decide)) ?_
          refine xs (fun _ => lv_istore (i := 7) (lv' := [(7, .int 0), (6, .int (nI n)), (0, .ref mb), (1, .int (nI rr)), (2, .int s1), (3, .int a1), (4, .int b1), (5, .int c1)]) hx hb dX2_put_77 hl (by decide) (rfl)) (fun ls hl => ?_)
          have hfill : ∀ (d : Nat) (k : Nat) (Hk : Heap) (ck : Nat → Int32), k ≤ 8 → 8 < k + d → sm_X G mb n (upd so n s1) (upd on n a1) (upd tw n b1) (upd th n c1) ck gi kn li re sec Hk → (∀ x, x < 8 * n → ck x = ce x) → (∀ q, q < k → ck (8 * n + q) = e8 dd q) → sm_F mb H Hk → ∀ (ls : Array Slot), lv_has ls 8 [(7, .int (nI k)), (6, .int (nI n)), (0, .ref mb), (1, .int (nI rr)), (2, .int s1), (3, .int a1), (4, .int b1), (5, .int c1)] → xV p l e (xR 1 0 0) s m args below meth c G Hk 0 0 (MQ below (xQ G H (fun ans H' => ans = some (.int 1) ∧ (∃ so' on' tw' th' ce' re', sm_X G mb (sp_mkS (n, t, rg, g) rr dd).1 so' on' tw' th' ce' gi kn li re' sec H' ∧ sm_R (sp_mkS (n, t, rg, g) rr dd).1 (sp_mkS (n, t, rg, g) rr dd).2.1 (sp_mkS (n, t, rg, g) rr dd).2.2.1 so' on' tw' th' ce' re' ∧ sm_Q (sp_mkS (n, t, rg, g) rr dd).1 (sp_mkS (n, t, rg, g) rr dd).2.1 ns on') ∧ sm_F mb H H')) args s 0 0 (sg_fr G)) (F0 m 79 ls []) := by
            intro d
            induction d with
            | zero =>
              intro k Hk ck h1 h2
              exact absurd h2 (by omega)
            | succ d ih =>
              intro k Hk ck hk hd hMk hlow hcs hF ls hl
              obtain ⟨hm0, hmn, hX, h1, h2, h3, h4, h5, h6, h7, h8, h9⟩ := id hMk
              refine xl (fun _ => lv_iload hx hb dX2_put_79 (lv_at hl 0 rfl)) ?_
              refine xl (fun _ => lv_bipush (v := 8) hx hb dX2_put_81 (by decide)) ?_
              refine xb (fun _ => lv_icmp_ge (tgt := 122) hx hb dX2_put_83 (by decide)) (fun c_83 => ?_) (fun c_83 => ?_)
              · have e8k : k = 8 := by have := nI_le4 (n := 8) (by omega) (by decide) c_83; omega
                rw [e8k] at hcs
                refine xl (fun _ => lv_aload_n hx hb dX2_put_122 rfl (lv_at hl 2 rfl)) ?_
                refine xl (fun _ => lv_dup hx hb dX2_put_123 rfl) ?_
                refine x_get (ci := 2) hx hb hts hown hK wiX2 hX rfl 0 (by decide) wFX2_38 rfl rfl dX2_put_124 ?_
                refine xl (fun _ => lv_iconst (v := 1) hx hb dX2_put_127 (by decide)) ?_
                refine xl (fun _ => lv_iadd hx hb dX2_put_128) ?_
                rw [show ((nI n) + 1) = (nI (n + 1)) from nI_1 n]
                refine x_put (ci := 2) hx hb hts hown hK wiX2 tyX2 tyX2_ok nmX2 hX rfl 0 (by decide) wFX2_38 rfl rfl (rfl) (rfl) (by simp) (hm0) dX2_put_129 (fun H_53 ho_54 hz_55 hq_56 => ?_)
                have ho_54 : ob_ G H_53 mb 2 [.int (nI (n + 1)), .ref (mb + 1), .ref (mb + 2), .ref (mb + 3), .ref (mb + 4), .ref (mb + 5), .ref (mb + 6), .ref (mb + 7), .ref (mb + 8), .ref (mb + 9), .int sec] := ho_54
                have k_57 := va_at.kept (H1 := H_53) (h1) (hq_56 _ (by omega))
                have k_58 := va_at.kept (H1 := H_53) (h2) (hq_56 _ (by omega))
                have k_59 := va_at.kept (H1 := H_53) (h3) (hq_56 _ (by omega))
                have k_60 := va_at.kept (H1 := H_53) (h4) (hq_56 _ (by omega))
                have k_61 := va_at.kept (H1 := H_53) (h5) (hq_56 _ (by omega))
                have k_62 := va_at.kept (H1 := H_53) (h6) (hq_56 _ (by omega))
                have k_63 := va_at.kept (H1 := H_53) (h7) (hq_56 _ (by omega))
                have k_64 := va_at.kept (H1 := H_53) (h8) (hq_56 _ (by omega))
                have k_65 := va_at.kept (H1 := H_53) (h9) (hq_56 _ (by omega))
                have hF : sm_F mb H H_53 := hF.put (a := mb) hz_55 hq_56 ⟨by omega, by omega⟩
                refine xl (fun _ => lv_aload_n hx hb dX2_put_132 rfl (lv_at hl 2 rfl)) ?_
                refine x_get (ci := 2) hx hb hts hown hK wiX2 ho_54 rfl 9 (by decide) wFX2_35 rfl rfl dX2_put_133 ?_
                refine xl (fun _ => lv_iload_n hx hb dX2_put_136 rfl (lv_at hl 3 rfl)) ?_
                refine xl (fun _ => lv_iload hx hb dX2_put_137 (lv_at hl 1 rfl)) ?_
                refine xl (fun _ => lv_iconst (v := 1) hx hb dX2_put_139 (by decide)) ?_
                refine xl (fun _ => lv_iadd hx hb dX2_put_140) ?_
                rw [show ((nI n) + 1) = (nI (n + 1)) from nI_1 n]
                refine x_iast hx hb hK k_65 rr (rfl) (by omega) (by decide) (by omega) dX2_put_141 (fun H_66 ho_67 hz_68 hq_69 => ?_)
                have ho_67 : ia_ G H_66 (mb + 9) 64 (upd re rr (nI (n + 1))) := ho_67
                have k_70 := va_at.kept (H1 := H_66) (ho_54) (hq_69 _ (by omega))
                have k_71 := va_at.kept (H1 := H_66) (k_57) (hq_69 _ (by omega))
                have k_72 := va_at.kept (H1 := H_66) (k_58) (hq_69 _ (by omega))
                have k_73 := va_at.kept (H1 := H_66) (k_59) (hq_69 _ (by omega))
                have k_74 := va_at.kept (H1 := H_66) (k_60) (hq_69 _ (by omega))
                have k_75 := va_at.kept (H1 := H_66) (k_61) (hq_69 _ (by omega))
                have k_76 := va_at.kept (H1 := H_66) (k_62) (hq_69 _ (by omega))
                have k_77 := va_at.kept (H1 := H_66) (k_63) (hq_69 _ (by omega))
                have k_78 := va_at.kept (H1 := H_66) (k_64) (hq_69 _ (by omega))
                have hF : sm_F mb H H_66 := hF.put (a := (mb + 9)) hz_68 hq_69 ⟨by omega, by omega⟩
                refine xl (fun _ => lv_iconst (v := 1) hx hb dX2_put_142 (by decide)) ?_
                exact x_iret hx hb hr hlocks hs0 hbs (by decide) (by decide) dX2_put_143 (⟨rfl, by rw [mkS_new hf]; exact ⟨_, _, _, _, _, _, ⟨hm0, (by omega), k_70, k_71, k_72, k_73, k_74, k_75, k_76, k_77, k_78, ho_67⟩, sm_R_new hR hwd hs ha hb1 hc1 hlow hcs, sm_Q_new hQ (fun z => (h1s z).1)⟩, hF⟩)
              · have hk8 : k < 8 := nI_nle4 (n := 8) (by omega) (by decide) c_83
                refine xl (fun _ => lv_aload_n hx hb dX2_put_86 rfl (lv_at hl 2 rfl)) ?_
                refine x_get (ci := 2) hx hb hts hown hK wiX2 hX rfl 5 (by decide) wFX2_22 rfl rfl dX2_put_87 ?_
                refine xl (fun _ => lv_bipush (v := 8) hx hb dX2_put_90 (by decide)) ?_
                refine xl (fun _ => lv_iload hx hb dX2_put_92 (lv_at hl 1 rfl)) ?_
                refine xl (fun _ => lv_imul hx hb dX2_put_94) ?_
                rw [show (8 * (nI n)) = (nI (8 * n)) from pk_mul 8 n]
                refine xl (fun _ => lv_iload hx hb dX2_put_95 (lv_at hl 0 rfl)) ?_
                refine xl (fun _ => lv_iadd hx hb dX2_put_97) ?_
                rw [show ((nI (8 * n)) + (nI k)) = (nI (8 * n + k)) from nI_add _ _]
                refine xl (fun _ => lv_iload_n hx hb dX2_put_98 rfl (lv_at hl 4 rfl)) ?_
                refine xl (fun _ => lv_bipush (v := 7) hx hb dX2_put_99 (by decide)) ?_
                refine xb (fun _ => lv_icmp_ne (tgt := 114) hx hb dX2_put_101 (by decide)) (fun c_101 => ?_) (fun c_101 => ?_)
                · refine xl (fun _ => lv_iconst (v := 0) hx hb dX2_put_114 (by decide)) ?_
                  refine x_iast hx hb hK h5 (8 * n + k) (rfl) (by omega) (by decide) (by omega) dX2_put_115 (fun H_79 ho_80 hz_81 hq_82 => ?_)
                  have ho_80 : ia_ G H_79 (mb + 5) 5120 (upd ck (8 * n + k) 0) := ho_80
                  have k_83 := va_at.kept (H1 := H_79) (hX) (hq_82 _ (by omega))
                  have k_84 := va_at.kept (H1 := H_79) (h1) (hq_82 _ (by omega))
                  have k_85 := va_at.kept (H1 := H_79) (h2) (hq_82 _ (by omega))
                  have k_86 := va_at.kept (H1 := H_79) (h3) (hq_82 _ (by omega))
                  have k_87 := va_at.kept (H1 := H_79) (h4) (hq_82 _ (by omega))
                  have k_88 := va_at.kept (H1 := H_79) (h6) (hq_82 _ (by omega))
                  have k_89 := va_at.kept (H1 := H_79) (h7) (hq_82 _ (by omega))
                  have k_90 := va_at.kept (H1 := H_79) (h8) (hq_82 _ (by omega))
                  have k_91 := va_at.kept (H1 := H_79) (h9) (hq_82 _ (by omega))
                  have hF : sm_F mb H H_79 := hF.put (a := (mb + 5)) hz_81 hq_82 ⟨by omega, by omega⟩
                  refine xs (fun _ => lv_iinc (v := (nI (k + 1))) (lv' := [(7, .int (nI (k + 1))), (6, .int (nI n)), (0, .ref mb), (1, .int (nI rr)), (2, .int s1), (3, .int a1), (4, .int b1), (5, .int c1)]) hx hb dX2_put_116 hl (k := 0) rfl (nI_1 k) (by decide) (rfl)) (fun ls hl => ?_)
                  refine xl (fun _ => lv_goto (tgt := 79) hx hb dX2_put_119 (by decide)) ?_
                  exact ih (k + 1) _ _ (by omega) (by omega) ⟨hm0, hmn, k_83, k_84, k_85, k_86, k_87, ho_80, k_88, k_89, k_90, k_91⟩ (fun x hx => by rw [pk_un (by omega)]; exact hlow x hx) (fun q hq => by by_cases e : q = k; (subst e; rw [pk_us]; exact (e8_0 (fun z => c_101 (hs.trans z)) q).symm); (rw [pk_un (by omega)]; exact hcs q (by omega))) hF ls (lv_sub hl [0, 1, 2, 3, 4, 5, 6, 7] rfl)
                · refine xl (fun _ => lv_aload_n hx hb dX2_put_104 rfl (lv_at hl 2 rfl)) ?_
                  refine x_get (ci := 2) hx hb hts hown hK wiX2 hX rfl 8 (by decide) wFX2_32 rfl rfl dX2_put_105 ?_
                  refine xl (fun _ => lv_iload hx hb dX2_put_108 (lv_at hl 0 rfl)) ?_
                  refine x_iald hx hb hK h8 k (rfl) (by omega) (by decide) dX2_put_110 ?_
                  refine xl (fun _ => lv_goto (tgt := 115) hx hb dX2_put_111 (by decide)) ?_
                  refine x_iast hx hb hK h5 (8 * n + k) (rfl) (by omega) (by decide) (by omega) dX2_put_115 (fun H_92 ho_93 hz_94 hq_95 => ?_)
                  have ho_93 : ia_ G H_92 (mb + 5) 5120 (upd ck (8 * n + k) (li k)) := ho_93
                  have k_96 := va_at.kept (H1 := H_92) (hX) (hq_95 _ (by omega))
                  have k_97 := va_at.kept (H1 := H_92) (h1) (hq_95 _ (by omega))
                  have k_98 := va_at.kept (H1 := H_92) (h2) (hq_95 _ (by omega))
                  have k_99 := va_at.kept (H1 := H_92) (h3) (hq_95 _ (by omega))
                  have k_100 := va_at.kept (H1 := H_92) (h4) (hq_95 _ (by omega))
                  have k_101 := va_at.kept (H1 := H_92) (h6) (hq_95 _ (by omega))
                  have k_102 := va_at.kept (H1 := H_92) (h7) (hq_95 _ (by omega))
                  have k_103 := va_at.kept (H1 := H_92) (h8) (hq_95 _ (by omega))
                  have k_104 := va_at.kept (H1 := H_92) (h9) (hq_95 _ (by omega))
                  have hF : sm_F mb H H_92 := hF.put (a := (mb + 5)) hz_94 hq_95 ⟨by omega, by omega⟩
                  refine xs (fun _ => lv_iinc (v := (nI (k + 1))) (lv' := [(7, .int (nI (k + 1))), (6, .int (nI n)), (0, .ref mb), (1, .int (nI rr)), (2, .int s1), (3, .int a1), (4, .int b1), (5, .int c1)]) hx hb dX2_put_116 hl (k := 0) rfl (nI_1 k) (by decide) (rfl)) (fun ls hl => ?_)
                  refine xl (fun _ => lv_goto (tgt := 79) hx hb dX2_put_119 (by decide)) ?_
                  exact ih (k + 1) _ _ (by omega) (by omega) ⟨hm0, hmn, k_96, k_97, k_98, k_99, k_100, ho_93, k_101, k_102, k_103, k_104⟩ (fun x hx => by rw [pk_un (by omega)]; exact hlow x hx) (fun q hq => by by_cases e : q = k; (subst e; rw [pk_us]; exact hli (hs.symm.trans c_101) q hk8); (rw [pk_un (by omega)]; exact hcs q (by omega))) hF ls (lv_sub hl [0, 1, 2, 3, 4, 5, 6, 7] rfl)
          exact hfill 9 0 _ ce (by decide) (by decide) ⟨hm0, hmn, k_44, k_45, k_46, k_47, ho_41, k_48, k_49, k_50, k_51, k_52⟩ (fun _ _ => rfl) (fun q hq => absurd hq (Nat.not_lt_zero q)) hF ls (lv_sub hl [0, 1, 2, 3, 4, 5, 6, 7] rfl)
      · have hin : i < n := nI_nle4 (by omega) (by omega) c_9
        refine xl (fun _ => lv_aload_n hx hb dX2_put_12 rfl (lv_at hl 1 rfl)) ?_
        refine xl (fun _ => lv_iload hx hb dX2_put_13 (lv_at hl 0 rfl)) ?_
        refine xl (fun _ => lv_iload_n hx hb dX2_put_15 rfl (lv_at hl 3 rfl)) ?_
        refine xl (fun _ => lv_iload_n hx hb dX2_put_16 rfl (lv_at hl 4 rfl)) ?_
        refine xl (fun _ => lv_iload hx hb dX2_put_17 (lv_at hl 5 rfl)) ?_
        refine xl (fun _ => lv_iload hx hb dX2_put_19 (lv_at hl 6 rfl)) ?_
        refine x_callV E hl (c_X2_isLike l G H mb n so on tw th ce gi kn li re sec hM i (by omega) s1 a1 b1 c1 (sp_al (t i) dd) (put_lk hmn hR hwd hs ha hb1 hc1 hli (fun z => (h1s z).2) hin)) xm_yX2_isLike wMX2_42 wI_yX2_isLike wT_yX2_isLike (ci := 2) rfl rfl hX (rest := []) rfl (by decide) (by decide) ⟨by decide, by decide⟩ dX2_put_21 (x_pure (r := .int (bI (sp_al (t i) dd))) (st1 := []) ?_)
        refine xb (fun _ => lv_if_ne (tgt := 33) hx hb dX2_put_24 (by decide)) (fun c_24 => ?_) (fun c_24 => ?_)
        · have c_24 := bI_t c_24
          refine xl (fun _ => lv_iload hx hb dX2_put_33 (lv_at hl 0 rfl)) ?_
          refine xl (fun _ => lv_aload_n hx hb dX2_put_35 rfl (lv_at hl 1 rfl)) ?_
          refine x_get (ci := 2) hx hb hts hown hK wiX2 hX rfl 0 (by decide) wFX2_38 rfl rfl dX2_put_36 ?_
          refine xb (fun _ => lv_icmp_ne (tgt := 132) hx hb dX2_put_39 (by decide)) (fun c_39 => ?_) (fun c_39 => ?_)
          · refine xl (fun _ => lv_aload_n hx hb dX2_put_132 rfl (lv_at hl 1 rfl)) ?_
            refine x_get (ci := 2) hx hb hts hown hK wiX2 hX rfl 9 (by decide) wFX2_35 rfl rfl dX2_put_133 ?_
            refine xl (fun _ => lv_iload_n hx hb dX2_put_136 rfl (lv_at hl 2 rfl)) ?_
            refine xl (fun _ => lv_iload hx hb dX2_put_137 (lv_at hl 0 rfl)) ?_
            refine xl (fun _ => lv_iconst (v := 1) hx hb dX2_put_139 (by decide)) ?_
            refine xl (fun _ => lv_iadd hx hb dX2_put_140) ?_
            rw [show ((nI i) + 1) = (nI (i + 1)) from nI_1 i]
            refine x_iast hx hb hK h9 rr (rfl) (by omega) (by decide) (by omega) dX2_put_141 (fun H_105 ho_106 hz_107 hq_108 => ?_)
            have ho_106 : ia_ G H_105 (mb + 9) 64 (upd re rr (nI (i + 1))) := ho_106
            have k_109 := va_at.kept (H1 := H_105) (hX) (hq_108 _ (by omega))
            have k_110 := va_at.kept (H1 := H_105) (h1) (hq_108 _ (by omega))
            have k_111 := va_at.kept (H1 := H_105) (h2) (hq_108 _ (by omega))
            have k_112 := va_at.kept (H1 := H_105) (h3) (hq_108 _ (by omega))
            have k_113 := va_at.kept (H1 := H_105) (h4) (hq_108 _ (by omega))
            have k_114 := va_at.kept (H1 := H_105) (h5) (hq_108 _ (by omega))
            have k_115 := va_at.kept (H1 := H_105) (h6) (hq_108 _ (by omega))
            have k_116 := va_at.kept (H1 := H_105) (h7) (hq_108 _ (by omega))
            have k_117 := va_at.kept (H1 := H_105) (h8) (hq_108 _ (by omega))
            have hF : sm_F mb H H_105 := hF.put (a := (mb + 9)) hz_107 hq_108 ⟨by omega, by omega⟩
            refine xl (fun _ => lv_iconst (v := 1) hx hb dX2_put_142 (by decide)) ?_
            exact x_iret hx hb hr hlocks hs0 hbs (by decide) (by decide) dX2_put_143 (⟨rfl, by rw [mkS_old (sp_fd_hit hf c_24 hin)]; exact ⟨_, _, _, _, _, _, ⟨hm0, hmn, k_109, k_110, k_111, k_112, k_113, k_114, k_115, k_116, k_117, ho_106⟩, sm_R_old hR hin, hQ⟩, hF⟩)
          · exact absurd ((nI_eq (by omega) (by omega)).mp c_39) (by omega)
        · have c_24 := bI_f c_24
          refine xs (fun _ => lv_iinc (v := (nI (i + 1))) (lv' := [(6, .int (nI (i + 1))), (0, .ref mb), (1, .int (nI rr)), (2, .int s1), (3, .int a1), (4, .int b1), (5, .int c1)]) hx hb dX2_put_27 hl (k := 0) rfl (nI_1 i) (by decide) (rfl)) (fun ls hl => ?_)
          refine xl (fun _ => lv_goto (tgt := 3) hx hb dX2_put_30 (by decide)) ?_
          exact ih (i + 1) (by omega) (by omega) (sp_fd_s hf c_24) ls (lv_sub hl [0, 1, 2, 3, 4, 5, 6] rfl)
  exact hlook (n + 1) 0 (by omega) (by omega) rfl ls (lv_sub hl [0, 1, 2, 3, 4, 5, 6] rfl)

set_option maxHeartbeats 4000000 in
set_option maxRecDepth 100000 in
theorem c_X2_share (l : Launch) (G : sg_G) (H : Heap) (mb n : Nat) (so on tw th ce gi kn li re : Nat → Int32) (sec : Int32) (hM : sm_X G mb n so on tw th ce gi kn li re sec H) (t : Nat → sp_T) (rg : Nat → Option Nat) (hR : sm_R n t rg so on tw th ce re) (g : Nat → Prop) (x y : Nat) (hxx : x < n) (hy : y < n) (hx1 : sp_so (t x) = 1) (hy1 : sp_so (t y) = 1) (rr : Nat) (hrr : rr < 64) (ns : Nat) (hQ : sm_Q n t ns on) (hn1 : n < 512) : xC l G yX2_share cX2_share 4 (some FieldType.int) 2 0 0 [.ref mb, .int (nI rr), .int (nI (x + 1)), .int (nI (y + 1))] H (fun ans H' => ans = some (.int 1) ∧ (∃ so' on' tw' th' ce' re', sm_X G mb (sp_mkS (n, t, rg, g) rr (sp_sd x y)).1 so' on' tw' th' ce' gi kn li re' sec H' ∧ sm_R (sp_mkS (n, t, rg, g) rr (sp_sd x y)).1 (sp_mkS (n, t, rg, g) rr (sp_sd x y)).2.1 (sp_mkS (n, t, rg, g) rr (sp_sd x y)).2.2.1 so' on' tw' th' ce' re' ∧ sm_Q (sp_mkS (n, t, rg, g) rr (sp_sd x y)).1 (sp_mkS (n, t, rg, g) rr (sp_sd x y)).2.1 ns on') ∧ sm_F mb H H') := by
  refine xC.start (by decide) (Nat.le_of_ble_eq_true rfl) ?_
  intro p e s m args below meth c ls E hnm hs0 hl
  obtain ⟨hx, hb, hml, hown, hts, hr, hlocks, hK, hbs⟩ := id E
  have hl : lv_has ls 4 [(0, .ref mb), (1, .int (nI rr)), (2, .int (nI (x + 1))), (3, .int (nI (y + 1)))] := hl
  obtain ⟨hm0, hmn, hX, h1, h2, h3, h4, h5, h6, h7, h8, h9⟩ := id hM
  obtain ⟨hRt, hRr, hRg, hRw⟩ := id hR
  refine xl (fun _ => lv_iload_n hx hb dX2_share_0 rfl (lv_at hl 2 rfl)) ?_
  refine xl (fun _ => lv_iload_n hx hb dX2_share_1 rfl (lv_at hl 3 rfl)) ?_
  refine xb (fun _ => lv_icmp_ge (tgt := 17) hx hb dX2_share_2 (by decide)) (fun c_2 => ?_) (fun c_2 => ?_)
  · refine xl (fun _ => lv_aload_n hx hb dX2_share_17 rfl (lv_at hl 0 rfl)) ?_
    refine xl (fun _ => lv_iload_n hx hb dX2_share_18 rfl (lv_at hl 1 rfl)) ?_
    refine xl (fun _ => lv_iconst (v := 3) hx hb dX2_share_19 (by decide)) ?_
    refine xl (fun _ => lv_iload_n hx hb dX2_share_20 rfl (lv_at hl 3 rfl)) ?_
    refine xl (fun _ => lv_iload_n hx hb dX2_share_21 rfl (lv_at hl 2 rfl)) ?_
    refine xl (fun _ => lv_iconst (v := 0) hx hb dX2_share_22 (by decide)) ?_
    have hxy : y ≤ x := by have := (nI_leI (a := y + 1) (b := x + 1) (by omega) (by omega)).mp c_2; omega
    have hsd : sp_sd x y = (3, 0, z4, sp_p4 (some y) (some x) none) := by
      unfold sp_sd
      by_cases e : x ≤ y
      · rw [if_pos e, if_pos e, show x = y by omega]
      · rw [if_neg e, if_neg e]
    have hwd := wf_sd hxx hy hx1 hy1
    rw [hsd] at hwd
    refine x_callV E hl (c_X2_put l G H mb n _ _ _ _ _ _ _ _ _ _ hM t rg hR g (3, 0, z4, sp_p4 (some y) (some x) none) (hwd) rr hrr 3 (nI (y + 1)) (nI (x + 1)) 0 rfl (fun _ => (e_3 (d := (3, 0, z4, sp_p4 (some y) (some x) none)) rfl).1.symm) ((e_3 (d := (3, 0, z4, sp_p4 (some y) (some x) none)) rfl).2.1.symm) ((e_3 (d := (3, 0, z4, sp_p4 (some y) (some x) none)) rfl).2.2.symm) (fun z => absurd z (show ¬ (3 : Int32) = 7 by decide)) ns hQ (fun z => absurd z (show ¬ (3 : Int32) = 1 by decide)) hn1) xm_yX2_put wMX2_56 wI_yX2_put wT_yX2_put (ci := 2) rfl rfl hX (rest := []) rfl (by decide) (by decide) ⟨by decide, by decide⟩ dX2_share_23 (fun v_1 H_2 hp_3 hz_4 hq_5 => ?_)
    rw [← hsd] at hp_3
    obtain ⟨rfl, hE2, hF2⟩ := hp_3
    refine xg (g2 := F0 m 26 ls [.int 1]) rfl ?_
    exact x_iret hx hb hr hlocks hs0 hbs (by decide) (by decide) dX2_share_26 (⟨rfl, hE2, hF2⟩)
  · refine xl (fun _ => lv_aload_n hx hb dX2_share_5 rfl (lv_at hl 0 rfl)) ?_
    refine xl (fun _ => lv_iload_n hx hb dX2_share_6 rfl (lv_at hl 1 rfl)) ?_
    refine xl (fun _ => lv_iconst (v := 3) hx hb dX2_share_7 (by decide)) ?_
    refine xl (fun _ => lv_iload_n hx hb dX2_share_8 rfl (lv_at hl 2 rfl)) ?_
    refine xl (fun _ => lv_iload_n hx hb dX2_share_9 rfl (lv_at hl 3 rfl)) ?_
    refine xl (fun _ => lv_iconst (v := 0) hx hb dX2_share_10 (by decide)) ?_
    have hxy : x < y := by have := Nat.not_le.mp (fun z => c_2 ((nI_leI (a := y + 1) (b := x + 1) (by omega) (by omega)).mpr z)); omega
    have hsd : sp_sd x y = (3, 0, z4, sp_p4 (some x) (some y) none) := by unfold sp_sd; rw [if_pos (by omega), if_pos (by omega)]
    have hwd := wf_sd hxx hy hx1 hy1
    rw [hsd] at hwd
    refine x_callV E hl (c_X2_put l G H mb n _ _ _ _ _ _ _ _ _ _ hM t rg hR g (3, 0, z4, sp_p4 (some x) (some y) none) (hwd) rr hrr 3 (nI (x + 1)) (nI (y + 1)) 0 rfl (fun _ => (e_3 (d := (3, 0, z4, sp_p4 (some x) (some y) none)) rfl).1.symm) ((e_3 (d := (3, 0, z4, sp_p4 (some x) (some y) none)) rfl).2.1.symm) ((e_3 (d := (3, 0, z4, sp_p4 (some x) (some y) none)) rfl).2.2.symm) (fun z => absurd z (show ¬ (3 : Int32) = 7 by decide)) ns hQ (fun z => absurd z (show ¬ (3 : Int32) = 1 by decide)) hn1) xm_yX2_put wMX2_56 wI_yX2_put wT_yX2_put (ci := 2) rfl rfl hX (rest := []) rfl (by decide) (by decide) ⟨by decide, by decide⟩ dX2_share_11 (fun v_6 H_7 hp_8 hz_9 hq_10 => ?_)
    rw [← hsd] at hp_8
    obtain ⟨rfl, hE2, hF2⟩ := hp_8
    refine xg (g2 := F0 m 14 ls [.int 1]) rfl ?_
    refine xl (fun _ => lv_goto (tgt := 26) hx hb dX2_share_14 (by decide)) ?_
    exact x_iret hx hb hr hlocks hs0 hbs (by decide) (by decide) dX2_share_26 (⟨rfl, hE2, hF2⟩)

theorem mi_no {a : sp_S} {r : Int32} (h : sp_ir r = false) : ∀ d, sp_mi a r d = (-1, a) := fun _ => sp_mi_no h

set_option maxHeartbeats 4000000 in
set_option maxRecDepth 100000 in
theorem c_X2_secret (l : Launch) (G : sg_G) (H : Heap) (mb n : Nat) (t : Nat → sp_T) (rg : Nat → Option Nat) (g : Nat → Prop) (hH : sm_H G mb n t rg g H) (hn1 : n < 512) (r : Int32) : xC l G yX2_secret cX2_secret 2 (some FieldType.int) 2 0 0 [.ref mb, .int r] H (fun ans H' => ans = some (.int (op_secret (n, t, rg, g) r).1) ∧ sm_HS G mb (op_secret (n, t, rg, g) r).2 H' ∧ sm_F mb H H') := by
  refine xC.start (by decide) (Nat.le_of_ble_eq_true rfl) ?_
  intro p e s m args below meth c ls E hnm hs0 hl
  obtain ⟨hx, hb, hml, hown, hts, hr, hlocks, hK, hbs⟩ := id E
  have hl : lv_has ls 2 [(0, .ref mb), (1, .int r)] := hl
  obtain ⟨so, on, tw, th, ce, kb, li, re, ns, hM, hR, hQ, hns, hg⟩ := id hH
  obtain ⟨hm0, hmn, hX, h1, h2, h3, h4, h5, h6, h7, h8, h9⟩ := id hM
  obtain ⟨hRt, hRr, hRg, hRw⟩ := id hR
  have hF : sm_F mb H H := sm_F.rf
  refine xl (fun _ => lv_iload_n hx hb dX2_secret_0 rfl (lv_at hl 1 rfl)) ?_
  refine x_callS E hl (c_X2_isRegister l G H r) xm_yX2_isRegister wMX2_46 wS_yX2_isRegister (rest := []) rfl (by decide) (by decide) ⟨by decide, by decide⟩ dX2_secret_1 (x_pure (r := .int (bI (sp_ir r))) (st1 := []) ?_)
  refine xb (fun _ => lv_if_ne (tgt := 9) hx hb dX2_secret_4 (by decide)) (fun c_4 => ?_) (fun c_4 => ?_)
  · have c_4 := bI_t c_4
    obtain ⟨rr, hrr, rfl⟩ := sp_ir_of c_4
    refine xl (fun _ => lv_aload_n hx hb dX2_secret_9 rfl (lv_at hl 0 rfl)) ?_
    refine xl (fun _ => lv_dup hx hb dX2_secret_10 rfl) ?_
    refine x_get (ci := 2) hx hb hts hown hK wiX2 hX rfl 10 (by decide) wFX2_53 rfl rfl dX2_secret_11 ?_
    refine xl (fun _ => lv_iconst (v := 1) hx hb dX2_secret_14 (by decide)) ?_
    refine xl (fun _ => lv_iadd hx hb dX2_secret_15) ?_
    rw [show ((nI ns) + 1) = (nI (ns + 1)) from nI_1 ns]
    refine x_put (ci := 2) hx hb hts hown hK wiX2 tyX2 tyX2_ok nmX2 hX rfl 10 (by decide) wFX2_53 rfl rfl (rfl) (rfl) (by simp) (hm0) dX2_secret_16 (fun H_1 ho_2 hz_3 hq_4 => ?_)
    have ho_2 : ob_ G H_1 mb 2 [.int (nI n), .ref (mb + 1), .ref (mb + 2), .ref (mb + 3), .ref (mb + 4), .ref (mb + 5), .ref (mb + 6), .ref (mb + 7), .ref (mb + 8), .ref (mb + 9), .int (nI (ns + 1))] := ho_2
    have k_5 := va_at.kept (H1 := H_1) (h1) (hq_4 _ (by omega))
    have k_6 := va_at.kept (H1 := H_1) (h2) (hq_4 _ (by omega))
    have k_7 := va_at.kept (H1 := H_1) (h3) (hq_4 _ (by omega))
    have k_8 := va_at.kept (H1 := H_1) (h4) (hq_4 _ (by omega))
    have k_9 := va_at.kept (H1 := H_1) (h5) (hq_4 _ (by omega))
    have k_10 := va_at.kept (H1 := H_1) (h6) (hq_4 _ (by omega))
    have k_11 := va_at.kept (H1 := H_1) (h7) (hq_4 _ (by omega))
    have k_12 := va_at.kept (H1 := H_1) (h8) (hq_4 _ (by omega))
    have k_13 := va_at.kept (H1 := H_1) (h9) (hq_4 _ (by omega))
    have hF : sm_F mb H H_1 := hF.put (a := mb) hz_3 hq_4 ⟨by omega, by omega⟩
    refine xl (fun _ => lv_aload_n hx hb dX2_secret_19 rfl (lv_at hl 0 rfl)) ?_
    refine xl (fun _ => lv_iload_n hx hb dX2_secret_20 rfl (lv_at hl 1 rfl)) ?_
    refine xl (fun _ => lv_iconst (v := 1) hx hb dX2_secret_21 (by decide)) ?_
    refine xl (fun _ => lv_aload_n hx hb dX2_secret_22 rfl (lv_at hl 0 rfl)) ?_
    refine x_get (ci := 2) hx hb hts hown hK wiX2 ho_2 rfl 10 (by decide) wFX2_53 rfl rfl dX2_secret_23 ?_
    refine xl (fun _ => lv_iconst (v := 0) hx hb dX2_secret_26 (by decide)) ?_
    refine xl (fun _ => lv_iconst (v := 0) hx hb dX2_secret_27 (by decide)) ?_
    have hQ1 : sm_Q n t (ns + 1) on := fun i hi h => by obtain ⟨k, q1, q2, q3⟩ := hQ i hi h; exact ⟨k, q1, by omega, q3⟩
    have hnw : ∀ i, i < n → sp_so (t i) = 1 → ¬ on i = nI (ns + 1) := fun i hi h e => by obtain ⟨k, q1, q2, q3⟩ := hQ i hi h; have := (nI_eq (by omega) (by omega)).mp (q3.symm.trans e); omega
    refine x_callV E hl (c_X2_put l G H_1 mb n _ _ _ _ _ _ _ _ _ _ ⟨hm0, hmn, ho_2, k_5, k_6, k_7, k_8, k_9, k_10, k_11, k_12, k_13⟩ t rg hR g (1, 0, z4, sp_p4 none none none) wf_secret rr hrr 1 (nI (ns + 1)) 0 0 rfl (fun z => absurd rfl z) (by decide) (by decide) (fun z => absurd z (by decide)) (ns + 1) hQ1 (fun _ => ⟨⟨rfl, by omega⟩, hnw⟩) hn1) xm_yX2_put wMX2_56 wI_yX2_put wT_yX2_put (ci := 2) rfl rfl ho_2 (rest := []) rfl (by decide) (by decide) ⟨by decide, by decide⟩ dX2_secret_28 (fun v_14 H_15 hp_16 hz_17 hq_18 => ?_)
    obtain ⟨rfl, ⟨so2, on2, tw2, th2, ce2, re2, hM2, hR2, hQ2⟩, hF2⟩ := hp_16
    refine xg (g2 := F0 m 31 ls [.int 1]) rfl ?_
    have hH2 : sm_HS G mb (sp_mkS (n, t, rg, g) rr (1, 0, z4, sp_p4 none none none)) H_15 := by
      unfold sm_HS
      rw [show (sp_mkS (n, t, rg, g) rr (1, 0, z4, sp_p4 none none none)).2.2.2 = g from mkS_le.2]
      exact by
        rw [mkS_new (fd_secret rfl)] at hM2 hR2 hQ2 ⊢
        exact ⟨_, _, _, _, _, _, _, _, ns + 1, hM2, hR2, hQ2, by show ns + 1 ≤ n + 1; omega, fun i h => Nat.lt_succ_of_lt (hg i h)⟩
    exact x_iret hx hb hr hlocks hs0 hbs (by decide) (by decide) dX2_secret_31 (⟨by unfold op_secret; rw [sp_mi_nI hrr], by unfold op_secret; rw [sp_mi_nI hrr]; exact hH2, hF.tr hF2⟩)
  · have c_4 := bI_f c_4
    refine xl (fun _ => lv_iconst (v := (-1)) hx hb dX2_secret_7 (by decide)) ?_
    exact x_iret hx hb hr hlocks hs0 hbs (by decide) (by decide) dX2_secret_8 (⟨by unfold op_secret; rw [sp_mi_no c_4], by unfold op_secret; rw [sp_mi_no c_4]; exact hH, sm_F.rf⟩)

set_option maxHeartbeats 4000000 in
set_option maxRecDepth 100000 in
theorem c_X2_face (l : Launch) (G : sg_G) (H : Heap) (mb n : Nat) (t : Nat → sp_T) (rg : Nat → Option Nat) (g : Nat → Prop) (hH : sm_H G mb n t rg g H) (hn1 : n < 512) (r x : Int32) : xC l G yX2_face cX2_face 3 (some FieldType.int) 3 0 0 [.ref mb, .int r, .int x] H (fun ans H' => ans = some (.int (op_face (n, t, rg, g) r x).1) ∧ sm_HS G mb (op_face (n, t, rg, g) r x).2 H' ∧ sm_F mb H H') := by
  refine xC.start (by decide) (Nat.le_of_ble_eq_true rfl) ?_
  intro p e s m args below meth c ls E hnm hs0 hl
  obtain ⟨hx, hb, hml, hown, hts, hr, hlocks, hK, hbs⟩ := id E
  have hl : lv_has ls 3 [(0, .ref mb), (1, .int r), (2, .int x)] := hl
  obtain ⟨so, on, tw, th, ce, kb, li, re, ns, hM, hR, hQ, hns, hg⟩ := id hH
  obtain ⟨hm0, hmn, hX, h1, h2, h3, h4, h5, h6, h7, h8, h9⟩ := id hM
  obtain ⟨hRt, hRr, hRg, hRw⟩ := id hR
  have hF : sm_F mb H H := sm_F.rf
  refine xl (fun _ => lv_iload_n hx hb dX2_face_0 rfl (lv_at hl 1 rfl)) ?_
  refine x_callS E hl (c_X2_isRegister l G H r) xm_yX2_isRegister wMX2_46 wS_yX2_isRegister (rest := []) rfl (by decide) (by decide) ⟨by decide, by decide⟩ dX2_face_1 (x_pure (r := .int (bI (sp_ir r))) (st1 := []) ?_)
  refine xb (fun _ => lv_if_eq (tgt := 33) hx hb dX2_face_4 (by decide)) (fun c_4 => ?_) (fun c_4 => ?_)
  · have c_4 := bI_f c_4
    refine xl (fun _ => lv_iconst (v := (-1)) hx hb dX2_face_33 (by decide)) ?_
    exact x_iret hx hb hr hlocks hs0 hbs (by decide) (by decide) dX2_face_34 (⟨by simp only [op_face, mi_no c_4]; (repeat' split) <;> rfl, by simp only [op_face, mi_no c_4]; (repeat' split) <;> exact hH, sm_F.rf⟩)
  · have c_4 := bI_t c_4
    obtain ⟨rr, hrr, rfl⟩ := sp_ir_of c_4
    refine xl (fun _ => lv_aload_n hx hb dX2_face_7 rfl (lv_at hl 0 rfl)) ?_
    refine xl (fun _ => lv_iload_n hx hb dX2_face_8 rfl (lv_at hl 2 rfl)) ?_
    refine xl (fun _ => lv_iconst (v := 1) hx hb dX2_face_9 (by decide)) ?_
    refine x_callV E hl (c_X2_has l G H mb n _ _ _ _ _ _ _ _ _ _ ⟨hm0, hmn, hX, h1, h2, h3, h4, h5, h6, h7, h8, h9⟩ t rg hR x 1) xm_yX2_has wMX2_60 wI_yX2_has wT_yX2_has (ci := 2) rfl rfl hX (rest := []) rfl (by decide) (by decide) ⟨by decide, by decide⟩ dX2_face_10 (x_pure (r := .int (bI (sp_rs t rg x 1).isSome)) (st1 := []) ?_)
    refine xb (fun _ => lv_if_eq (tgt := 33) hx hb dX2_face_13 (by decide)) (fun c_13 => ?_) (fun c_13 => ?_)
    · have c_13 := bI_f c_13
      have hs_13 := isN c_13
      refine xl (fun _ => lv_iconst (v := (-1)) hx hb dX2_face_33 (by decide)) ?_
      exact x_iret hx hb hr hlocks hs0 hbs (by decide) (by decide) dX2_face_34 (⟨by simp only [op_face, hs_13, reduceIte, Bool.false_eq_true, and_true, true_and, and_false, false_and, and_self, not_true_eq_false, not_false_eq_true], by simp only [op_face, hs_13, reduceIte, Bool.false_eq_true, and_true, true_and, and_false, false_and, and_self, not_true_eq_false, not_false_eq_true]; exact hH, sm_F.rf⟩)
    · have c_13 := bI_t c_13
      obtain ⟨i, hs_13⟩ := isS c_13
      obtain ⟨j_x, hj_x, he_x, hg_x⟩ := sp_rg_s (sp_rs_of hs_13).1
      have hi_i : i < n := hRg j_x hj_x i hg_x
      have hr_x : re j_x = nI (i + 1) := by rw [hRr j_x hj_x, hg_x]; rfl
      refine xl (fun _ => lv_aload_n hx hb dX2_face_16 rfl (lv_at hl 0 rfl)) ?_
      refine xl (fun _ => lv_iload_n hx hb dX2_face_17 rfl (lv_at hl 1 rfl)) ?_
      refine xl (fun _ => lv_iconst (v := 2) hx hb dX2_face_18 (by decide)) ?_
      refine xl (fun _ => lv_aload_n hx hb dX2_face_19 rfl (lv_at hl 0 rfl)) ?_
      refine x_get (ci := 2) hx hb hts hown hK wiX2 hX rfl 9 (by decide) wFX2_35 rfl rfl dX2_face_20 ?_
      refine xl (fun _ => lv_iload_n hx hb dX2_face_23 rfl (lv_at hl 2 rfl)) ?_
      refine x_iald hx hb hK h9 j_x (he_x) (by have := hj_x; omega) (by decide) dX2_face_24 ?_
      rw [show (re j_x) = (nI (i + 1)) from hr_x]
      refine xl (fun _ => lv_iconst (v := 0) hx hb dX2_face_25 (by decide)) ?_
      refine xl (fun _ => lv_iconst (v := 0) hx hb dX2_face_26 (by decide)) ?_
      refine x_callV E hl (c_X2_put l G H mb n _ _ _ _ _ _ _ _ _ _ ⟨hm0, hmn, hX, h1, h2, h3, h4, h5, h6, h7, h8, h9⟩ t rg hR g (2, 0, z4, sp_p4 (some i) none none) (wf_face hi_i (sp_rs_of hs_13).2) rr hrr 2 (nI (i + 1)) 0 0 rfl (fun _ => (e_2 (d := (2, 0, z4, sp_p4 (some i) none none)) rfl).1.symm) ((e_2 (d := (2, 0, z4, sp_p4 (some i) none none)) rfl).2.1.symm) ((e_2 (d := (2, 0, z4, sp_p4 (some i) none none)) rfl).2.2.symm) (fun z => absurd z (show ¬ (2 : Int32) = 7 by decide)) ns hQ (fun z => absurd z (show ¬ (2 : Int32) = 1 by decide)) hn1) xm_yX2_put wMX2_56 wI_yX2_put wT_yX2_put (ci := 2) rfl rfl hX (rest := []) rfl (by decide) (by decide) ⟨by decide, by decide⟩ dX2_face_27 (fun v_1 H_2 hp_3 hz_4 hq_5 => ?_)
      obtain ⟨rfl, ⟨so2, on2, tw2, th2, ce2, re2, hM2, hR2, hQ2⟩, hF2⟩ := hp_3
      refine xg (g2 := F0 m 30 ls [.int 1]) rfl ?_
      have hH2 : sm_HS G mb (sp_mkS (n, t, rg, g) rr (2, 0, z4, sp_p4 (some i) none none)) H_2 := by
        unfold sm_HS
        rw [show (sp_mkS (n, t, rg, g) rr (2, 0, z4, sp_p4 (some i) none none)).2.2.2 = g from mkS_le.2]
        exact ⟨_, _, _, _, _, _, _, _, ns, hM2, hR2, hQ2, Nat.le_trans hns mkS_le.1, fun i h => Nat.lt_of_lt_of_le (hg i h) mkS_le.1⟩
      refine xl (fun _ => lv_goto (tgt := 34) hx hb dX2_face_30 (by decide)) ?_
      exact x_iret hx hb hr hlocks hs0 hbs (by decide) (by decide) dX2_face_34 (⟨by simp only [op_face, hs_13, reduceIte, Bool.false_eq_true, and_true, true_and, and_false, false_and, and_self, not_true_eq_false, not_false_eq_true]; rw [sp_mi_nI hrr], by simp only [op_face, hs_13, reduceIte, Bool.false_eq_true, and_true, true_and, and_false, false_and, and_self, not_true_eq_false, not_false_eq_true]; rw [sp_mi_nI hrr]; exact hH2, hF.tr hF2⟩)

set_option maxHeartbeats 4000000 in
set_option maxRecDepth 100000 in
theorem c_X2_shared (l : Launch) (G : sg_G) (H : Heap) (mb n : Nat) (t : Nat → sp_T) (rg : Nat → Option Nat) (g : Nat → Prop) (hH : sm_H G mb n t rg g H) (hn1 : n < 512) (r x y : Int32) : xC l G yX2_shared cX2_shared 4 (some FieldType.int) 3 0 0 [.ref mb, .int r, .int x, .int y] H (fun ans H' => ans = some (.int (op_shared (n, t, rg, g) r x y).1) ∧ sm_HS G mb (op_shared (n, t, rg, g) r x y).2 H' ∧ sm_F mb H H') := by
  refine xC.start (by decide) (Nat.le_of_ble_eq_true rfl) ?_
  intro p e s m args below meth c ls E hnm hs0 hl
  obtain ⟨hx, hb, hml, hown, hts, hr, hlocks, hK, hbs⟩ := id E
  have hl : lv_has ls 4 [(0, .ref mb), (1, .int r), (2, .int x), (3, .int y)] := hl
  obtain ⟨so, on, tw, th, ce, kb, li, re, ns, hM, hR, hQ, hns, hg⟩ := id hH
  obtain ⟨hm0, hmn, hX, h1, h2, h3, h4, h5, h6, h7, h8, h9⟩ := id hM
  obtain ⟨hRt, hRr, hRg, hRw⟩ := id hR
  have hF : sm_F mb H H := sm_F.rf
  refine xl (fun _ => lv_iload_n hx hb dX2_shared_0 rfl (lv_at hl 1 rfl)) ?_
  refine x_callS E hl (c_X2_isRegister l G H r) xm_yX2_isRegister wMX2_46 wS_yX2_isRegister (rest := []) rfl (by decide) (by decide) ⟨by decide, by decide⟩ dX2_shared_1 (x_pure (r := .int (bI (sp_ir r))) (st1 := []) ?_)
  refine xb (fun _ => lv_if_eq (tgt := 45) hx hb dX2_shared_4 (by decide)) (fun c_4 => ?_) (fun c_4 => ?_)
  · have c_4 := bI_f c_4
    refine xl (fun _ => lv_iconst (v := (-1)) hx hb dX2_shared_45 (by decide)) ?_
    exact x_iret hx hb hr hlocks hs0 hbs (by decide) (by decide) dX2_shared_46 (⟨by simp only [op_shared, mi_no c_4]; (repeat' split) <;> rfl, by simp only [op_shared, mi_no c_4]; (repeat' split) <;> exact hH, sm_F.rf⟩)
  · have c_4 := bI_t c_4
    obtain ⟨rr, hrr, rfl⟩ := sp_ir_of c_4
    refine xl (fun _ => lv_aload_n hx hb dX2_shared_7 rfl (lv_at hl 0 rfl)) ?_
    refine xl (fun _ => lv_iload_n hx hb dX2_shared_8 rfl (lv_at hl 2 rfl)) ?_
    refine xl (fun _ => lv_iconst (v := 1) hx hb dX2_shared_9 (by decide)) ?_
    refine x_callV E hl (c_X2_has l G H mb n _ _ _ _ _ _ _ _ _ _ ⟨hm0, hmn, hX, h1, h2, h3, h4, h5, h6, h7, h8, h9⟩ t rg hR x 1) xm_yX2_has wMX2_60 wI_yX2_has wT_yX2_has (ci := 2) rfl rfl hX (rest := []) rfl (by decide) (by decide) ⟨by decide, by decide⟩ dX2_shared_10 (x_pure (r := .int (bI (sp_rs t rg x 1).isSome)) (st1 := []) ?_)
    refine xb (fun _ => lv_if_eq (tgt := 45) hx hb dX2_shared_13 (by decide)) (fun c_13 => ?_) (fun c_13 => ?_)
    · have c_13 := bI_f c_13
      have hs_13 := isN c_13
      refine xl (fun _ => lv_iconst (v := (-1)) hx hb dX2_shared_45 (by decide)) ?_
      exact x_iret hx hb hr hlocks hs0 hbs (by decide) (by decide) dX2_shared_46 (⟨by simp only [op_shared, hs_13, reduceIte, Bool.false_eq_true, and_true, true_and, and_false, false_and, and_self, not_true_eq_false, not_false_eq_true], by simp only [op_shared, hs_13, reduceIte, Bool.false_eq_true, and_true, true_and, and_false, false_and, and_self, not_true_eq_false, not_false_eq_true]; exact hH, sm_F.rf⟩)
    · have c_13 := bI_t c_13
      obtain ⟨i, hs_13⟩ := isS c_13
      obtain ⟨j_x, hj_x, he_x, hg_x⟩ := sp_rg_s (sp_rs_of hs_13).1
      have hi_i : i < n := hRg j_x hj_x i hg_x
      have hr_x : re j_x = nI (i + 1) := by rw [hRr j_x hj_x, hg_x]; rfl
      refine xl (fun _ => lv_aload_n hx hb dX2_shared_16 rfl (lv_at hl 0 rfl)) ?_
      refine xl (fun _ => lv_iload_n hx hb dX2_shared_17 rfl (lv_at hl 3 rfl)) ?_
      refine xl (fun _ => lv_iconst (v := 1) hx hb dX2_shared_18 (by decide)) ?_
      refine x_callV E hl (c_X2_has l G H mb n _ _ _ _ _ _ _ _ _ _ ⟨hm0, hmn, hX, h1, h2, h3, h4, h5, h6, h7, h8, h9⟩ t rg hR y 1) xm_yX2_has wMX2_60 wI_yX2_has wT_yX2_has (ci := 2) rfl rfl hX (rest := []) rfl (by decide) (by decide) ⟨by decide, by decide⟩ dX2_shared_19 (x_pure (r := .int (bI (sp_rs t rg y 1).isSome)) (st1 := []) ?_)
      refine xb (fun _ => lv_if_eq (tgt := 45) hx hb dX2_shared_22 (by decide)) (fun c_22 => ?_) (fun c_22 => ?_)
      · have c_22 := bI_f c_22
        have hs_22 := isN c_22
        refine xl (fun _ => lv_iconst (v := (-1)) hx hb dX2_shared_45 (by decide)) ?_
        exact x_iret hx hb hr hlocks hs0 hbs (by decide) (by decide) dX2_shared_46 (⟨by simp only [op_shared, hs_13, hs_22, reduceIte, Bool.false_eq_true, and_true, true_and, and_false, false_and, and_self, not_true_eq_false, not_false_eq_true], by simp only [op_shared, hs_13, hs_22, reduceIte, Bool.false_eq_true, and_true, true_and, and_false, false_and, and_self, not_true_eq_false, not_false_eq_true]; exact hH, sm_F.rf⟩)
      · have c_22 := bI_t c_22
        obtain ⟨j, hs_22⟩ := isS c_22
        obtain ⟨j_y, hj_y, he_y, hg_y⟩ := sp_rg_s (sp_rs_of hs_22).1
        have hi_j : j < n := hRg j_y hj_y j hg_y
        have hr_y : re j_y = nI (j + 1) := by rw [hRr j_y hj_y, hg_y]; rfl
        refine xl (fun _ => lv_aload_n hx hb dX2_shared_25 rfl (lv_at hl 0 rfl)) ?_
        refine xl (fun _ => lv_iload_n hx hb dX2_shared_26 rfl (lv_at hl 1 rfl)) ?_
        refine xl (fun _ => lv_aload_n hx hb dX2_shared_27 rfl (lv_at hl 0 rfl)) ?_
        refine x_get (ci := 2) hx hb hts hown hK wiX2 hX rfl 9 (by decide) wFX2_35 rfl rfl dX2_shared_28 ?_
        refine xl (fun _ => lv_iload_n hx hb dX2_shared_31 rfl (lv_at hl 2 rfl)) ?_
        refine x_iald hx hb hK h9 j_x (he_x) (by have := hj_x; omega) (by decide) dX2_shared_32 ?_
        rw [show (re j_x) = (nI (i + 1)) from hr_x]
        refine xl (fun _ => lv_aload_n hx hb dX2_shared_33 rfl (lv_at hl 0 rfl)) ?_
        refine x_get (ci := 2) hx hb hts hown hK wiX2 hX rfl 9 (by decide) wFX2_35 rfl rfl dX2_shared_34 ?_
        refine xl (fun _ => lv_iload_n hx hb dX2_shared_37 rfl (lv_at hl 3 rfl)) ?_
        refine x_iald hx hb hK h9 j_y (he_y) (by have := hj_y; omega) (by decide) dX2_shared_38 ?_
        rw [show (re j_y) = (nI (j + 1)) from hr_y]
        refine x_callV E hl (c_X2_share l G H mb n _ _ _ _ _ _ _ _ _ _ ⟨hm0, hmn, hX, h1, h2, h3, h4, h5, h6, h7, h8, h9⟩ t rg hR g i j hi_i hi_j ((sp_rs_of hs_13).2) ((sp_rs_of hs_22).2) rr hrr ns hQ hn1) xm_yX2_share wMX2_64 wI_yX2_share wT_yX2_share (ci := 2) rfl rfl hX (rest := []) rfl (by decide) (by decide) ⟨by decide, by decide⟩ dX2_shared_39 (fun v_1 H_2 hp_3 hz_4 hq_5 => ?_)
        obtain ⟨rfl, ⟨so2, on2, tw2, th2, ce2, re2, hM2, hR2, hQ2⟩, hF2⟩ := hp_3
        refine xg (g2 := F0 m 42 ls [.int 1]) rfl ?_
        have hH2 : sm_HS G mb (sp_mkS (n, t, rg, g) rr (sp_sd i j)) H_2 := by
          unfold sm_HS
          rw [show (sp_mkS (n, t, rg, g) rr (sp_sd i j)).2.2.2 = g from mkS_le.2]
          exact ⟨_, _, _, _, _, _, _, _, ns, hM2, hR2, hQ2, Nat.le_trans hns mkS_le.1, fun i h => Nat.lt_of_lt_of_le (hg i h) mkS_le.1⟩
        refine xl (fun _ => lv_goto (tgt := 46) hx hb dX2_shared_42 (by decide)) ?_
        exact x_iret hx hb hr hlocks hs0 hbs (by decide) (by decide) dX2_shared_46 (⟨by simp only [op_shared, hs_13, hs_22, reduceIte, Bool.false_eq_true, and_true, true_and, and_false, false_and, and_self, not_true_eq_false, not_false_eq_true]; rw [sp_mi_nI hrr], by simp only [op_shared, hs_13, hs_22, reduceIte, Bool.false_eq_true, and_true, true_and, and_false, false_and, and_self, not_true_eq_false, not_false_eq_true]; rw [sp_mi_nI hrr]; exact hH2, hF.tr hF2⟩)

set_option maxHeartbeats 4000000 in
set_option maxRecDepth 100000 in
theorem c_X2_agreed (l : Launch) (G : sg_G) (H : Heap) (mb n : Nat) (t : Nat → sp_T) (rg : Nat → Option Nat) (g : Nat → Prop) (hH : sm_H G mb n t rg g H) (hn1 : n < 512) (r x y : Int32) : xC l G yX2_agreed cX2_agreed 4 (some FieldType.int) 3 0 0 [.ref mb, .int r, .int x, .int y] H (fun ans H' => ans = some (.int (op_agreed (n, t, rg, g) r x y).1) ∧ sm_HS G mb (op_agreed (n, t, rg, g) r x y).2 H' ∧ sm_F mb H H') := by
  refine xC.start (by decide) (Nat.le_of_ble_eq_true rfl) ?_
  intro p e s m args below meth c ls E hnm hs0 hl
  obtain ⟨hx, hb, hml, hown, hts, hr, hlocks, hK, hbs⟩ := id E
  have hl : lv_has ls 4 [(0, .ref mb), (1, .int r), (2, .int x), (3, .int y)] := hl
  obtain ⟨so, on, tw, th, ce, kb, li, re, ns, hM, hR, hQ, hns, hg⟩ := id hH
  obtain ⟨hm0, hmn, hX, h1, h2, h3, h4, h5, h6, h7, h8, h9⟩ := id hM
  obtain ⟨hRt, hRr, hRg, hRw⟩ := id hR
  have hF : sm_F mb H H := sm_F.rf
  refine xl (fun _ => lv_iload_n hx hb dX2_agreed_0 rfl (lv_at hl 1 rfl)) ?_
  refine x_callS E hl (c_X2_isRegister l G H r) xm_yX2_isRegister wMX2_46 wS_yX2_isRegister (rest := []) rfl (by decide) (by decide) ⟨by decide, by decide⟩ dX2_agreed_1 (x_pure (r := .int (bI (sp_ir r))) (st1 := []) ?_)
  refine xb (fun _ => lv_if_eq (tgt := 52) hx hb dX2_agreed_4 (by decide)) (fun c_4 => ?_) (fun c_4 => ?_)
  · have c_4 := bI_f c_4
    refine xl (fun _ => lv_iconst (v := (-1)) hx hb dX2_agreed_52 (by decide)) ?_
    exact x_iret hx hb hr hlocks hs0 hbs (by decide) (by decide) dX2_agreed_53 (⟨by simp only [op_agreed, mi_no c_4]; (repeat' split) <;> rfl, by simp only [op_agreed, mi_no c_4]; (repeat' split) <;> exact hH, sm_F.rf⟩)
  · have c_4 := bI_t c_4
    obtain ⟨rr, hrr, rfl⟩ := sp_ir_of c_4
    refine xl (fun _ => lv_aload_n hx hb dX2_agreed_7 rfl (lv_at hl 0 rfl)) ?_
    refine xl (fun _ => lv_iload_n hx hb dX2_agreed_8 rfl (lv_at hl 2 rfl)) ?_
    refine xl (fun _ => lv_iconst (v := 1) hx hb dX2_agreed_9 (by decide)) ?_
    refine x_callV E hl (c_X2_has l G H mb n _ _ _ _ _ _ _ _ _ _ ⟨hm0, hmn, hX, h1, h2, h3, h4, h5, h6, h7, h8, h9⟩ t rg hR x 1) xm_yX2_has wMX2_60 wI_yX2_has wT_yX2_has (ci := 2) rfl rfl hX (rest := []) rfl (by decide) (by decide) ⟨by decide, by decide⟩ dX2_agreed_10 (x_pure (r := .int (bI (sp_rs t rg x 1).isSome)) (st1 := []) ?_)
    refine xb (fun _ => lv_if_eq (tgt := 52) hx hb dX2_agreed_13 (by decide)) (fun c_13 => ?_) (fun c_13 => ?_)
    · have c_13 := bI_f c_13
      have hs_13 := isN c_13
      refine xl (fun _ => lv_iconst (v := (-1)) hx hb dX2_agreed_52 (by decide)) ?_
      exact x_iret hx hb hr hlocks hs0 hbs (by decide) (by decide) dX2_agreed_53 (⟨by simp only [op_agreed, hs_13, reduceIte, Bool.false_eq_true, and_true, true_and, and_false, false_and, and_self, not_true_eq_false, not_false_eq_true], by simp only [op_agreed, hs_13, reduceIte, Bool.false_eq_true, and_true, true_and, and_false, false_and, and_self, not_true_eq_false, not_false_eq_true]; exact hH, sm_F.rf⟩)
    · have c_13 := bI_t c_13
      obtain ⟨i, hs_13⟩ := isS c_13
      obtain ⟨j_x, hj_x, he_x, hg_x⟩ := sp_rg_s (sp_rs_of hs_13).1
      have hi_i : i < n := hRg j_x hj_x i hg_x
      have hr_x : re j_x = nI (i + 1) := by rw [hRr j_x hj_x, hg_x]; rfl
      refine xl (fun _ => lv_aload_n hx hb dX2_agreed_16 rfl (lv_at hl 0 rfl)) ?_
      refine xl (fun _ => lv_iload_n hx hb dX2_agreed_17 rfl (lv_at hl 3 rfl)) ?_
      refine xl (fun _ => lv_iconst (v := 2) hx hb dX2_agreed_18 (by decide)) ?_
      refine x_callV E hl (c_X2_has l G H mb n _ _ _ _ _ _ _ _ _ _ ⟨hm0, hmn, hX, h1, h2, h3, h4, h5, h6, h7, h8, h9⟩ t rg hR y 2) xm_yX2_has wMX2_60 wI_yX2_has wT_yX2_has (ci := 2) rfl rfl hX (rest := []) rfl (by decide) (by decide) ⟨by decide, by decide⟩ dX2_agreed_19 (x_pure (r := .int (bI (sp_rs t rg y 2).isSome)) (st1 := []) ?_)
      refine xb (fun _ => lv_if_eq (tgt := 52) hx hb dX2_agreed_22 (by decide)) (fun c_22 => ?_) (fun c_22 => ?_)
      · have c_22 := bI_f c_22
        have hs_22 := isN c_22
        refine xl (fun _ => lv_iconst (v := (-1)) hx hb dX2_agreed_52 (by decide)) ?_
        exact x_iret hx hb hr hlocks hs0 hbs (by decide) (by decide) dX2_agreed_53 (⟨by simp only [op_agreed, hs_13, hs_22, reduceIte, Bool.false_eq_true, and_true, true_and, and_false, false_and, and_self, not_true_eq_false, not_false_eq_true], by simp only [op_agreed, hs_13, hs_22, reduceIte, Bool.false_eq_true, and_true, true_and, and_false, false_and, and_self, not_true_eq_false, not_false_eq_true]; exact hH, sm_F.rf⟩)
      · have c_22 := bI_t c_22
        obtain ⟨j, hs_22⟩ := isS c_22
        obtain ⟨j_y, hj_y, he_y, hg_y⟩ := sp_rg_s (sp_rs_of hs_22).1
        have hi_j : j < n := hRg j_y hj_y j hg_y
        have hr_y : re j_y = nI (j + 1) := by rw [hRr j_y hj_y, hg_y]; rfl
        have hj2 := (sp_rs_of hs_22).2
        obtain ⟨k, hk0, hkj, hk1⟩ := sp_wf2 (hRw j hi_j) hj2
        have hi_k : k < n := by omega
        have hoj : on j = nI (k + 1) := by rw [(hRt j hi_j).2.1 (by rw [hj2]; decide), (e_2 hj2).1, hk0]; rfl
        refine xl (fun _ => lv_aload_n hx hb dX2_agreed_25 rfl (lv_at hl 0 rfl)) ?_
        refine xl (fun _ => lv_iload_n hx hb dX2_agreed_26 rfl (lv_at hl 1 rfl)) ?_
        refine xl (fun _ => lv_aload_n hx hb dX2_agreed_27 rfl (lv_at hl 0 rfl)) ?_
        refine x_get (ci := 2) hx hb hts hown hK wiX2 hX rfl 9 (by decide) wFX2_35 rfl rfl dX2_agreed_28 ?_
        refine xl (fun _ => lv_iload_n hx hb dX2_agreed_31 rfl (lv_at hl 2 rfl)) ?_
        refine x_iald hx hb hK h9 j_x (he_x) (by have := hj_x; omega) (by decide) dX2_agreed_32 ?_
        rw [show (re j_x) = (nI (i + 1)) from hr_x]
        refine xl (fun _ => lv_aload_n hx hb dX2_agreed_33 rfl (lv_at hl 0 rfl)) ?_
        refine x_get (ci := 2) hx hb hts hown hK wiX2 hX rfl 2 (by decide) wFX2_13 rfl rfl dX2_agreed_34 ?_
        refine xl (fun _ => lv_aload_n hx hb dX2_agreed_37 rfl (lv_at hl 0 rfl)) ?_
        refine x_get (ci := 2) hx hb hts hown hK wiX2 hX rfl 9 (by decide) wFX2_35 rfl rfl dX2_agreed_38 ?_
        refine xl (fun _ => lv_iload_n hx hb dX2_agreed_41 rfl (lv_at hl 3 rfl)) ?_
        refine x_iald hx hb hK h9 j_y (he_y) (by have := hj_y; omega) (by decide) dX2_agreed_42 ?_
        rw [show (re j_y) = (nI (j + 1)) from hr_y]
        refine xl (fun _ => lv_iconst (v := 1) hx hb dX2_agreed_43 (by decide)) ?_
        refine xl (fun _ => lv_isub hx hb dX2_agreed_44) ?_
        rw [show ((nI (j + 1)) - 1) = (nI j) from nI_pred j]
        refine x_iald hx hb hK h2 j (rfl) (by omega) (by decide) dX2_agreed_45 ?_
        rw [show (on j) = (nI (k + 1)) from hoj]
        refine x_callV E hl (c_X2_share l G H mb n _ _ _ _ _ _ _ _ _ _ ⟨hm0, hmn, hX, h1, h2, h3, h4, h5, h6, h7, h8, h9⟩ t rg hR g i k hi_i hi_k ((sp_rs_of hs_13).2) (hk1) rr hrr ns hQ hn1) xm_yX2_share wMX2_64 wI_yX2_share wT_yX2_share (ci := 2) rfl rfl hX (rest := []) rfl (by decide) (by decide) ⟨by decide, by decide⟩ dX2_agreed_46 (fun v_1 H_2 hp_3 hz_4 hq_5 => ?_)
        obtain ⟨rfl, ⟨so2, on2, tw2, th2, ce2, re2, hM2, hR2, hQ2⟩, hF2⟩ := hp_3
        refine xg (g2 := F0 m 49 ls [.int 1]) rfl ?_
        have hH2 : sm_HS G mb (sp_mkS (n, t, rg, g) rr (sp_sd i k)) H_2 := by
          unfold sm_HS
          rw [show (sp_mkS (n, t, rg, g) rr (sp_sd i k)).2.2.2 = g from mkS_le.2]
          exact ⟨_, _, _, _, _, _, _, _, ns, hM2, hR2, hQ2, Nat.le_trans hns mkS_le.1, fun i h => Nat.lt_of_lt_of_le (hg i h) mkS_le.1⟩
        refine xl (fun _ => lv_goto (tgt := 53) hx hb dX2_agreed_49 (by decide)) ?_
        exact x_iret hx hb hr hlocks hs0 hbs (by decide) (by decide) dX2_agreed_53 (⟨by simp only [op_agreed, hs_13, hs_22, hk0, reduceIte, Bool.false_eq_true, and_true, true_and, and_false, false_and, and_self, not_true_eq_false, not_false_eq_true]; rw [sp_mi_nI hrr], by simp only [op_agreed, hs_13, hs_22, hk0, reduceIte, Bool.false_eq_true, and_true, true_and, and_false, false_and, and_self, not_true_eq_false, not_false_eq_true]; rw [sp_mi_nI hrr]; exact hH2, hF.tr hF2⟩)

set_option maxHeartbeats 4000000 in
set_option maxRecDepth 100000 in
theorem c_X2_mix (l : Launch) (G : sg_G) (H : Heap) (mb n : Nat) (t : Nat → sp_T) (rg : Nat → Option Nat) (g : Nat → Prop) (hH : sm_H G mb n t rg g H) (hn1 : n < 512) (r q x y : Int32) : xC l G yX2_mix cX2_mix 5 (some FieldType.int) 2 0 0 [.ref mb, .int r, .int q, .int x, .int y] H (fun ans H' => ans = some (.int (op_mix (n, t, rg, g) r q x y).1) ∧ sm_HS G mb (op_mix (n, t, rg, g) r q x y).2 H' ∧ sm_F mb H H') := by
  refine xC.start (by decide) (Nat.le_of_ble_eq_true rfl) ?_
  intro p e s m args below meth c ls E hnm hs0 hl
  obtain ⟨hx, hb, hml, hown, hts, hr, hlocks, hK, hbs⟩ := id E
  have hl : lv_has ls 5 [(0, .ref mb), (1, .int r), (2, .int q), (3, .int x), (4, .int y)] := hl
  obtain ⟨so, on, tw, th, ce, kb, li, re, ns, hM, hR, hQ, hns, hg⟩ := id hH
  obtain ⟨hm0, hmn, hX, h1, h2, h3, h4, h5, h6, h7, h8, h9⟩ := id hM
  obtain ⟨hRt, hRr, hRg, hRw⟩ := id hR
  have hF : sm_F mb H H := sm_F.rf
  refine xl (fun _ => lv_iload_n hx hb dX2_mix_0 rfl (lv_at hl 1 rfl)) ?_
  refine x_callS E hl (c_X2_isRegister l G H r) xm_yX2_isRegister wMX2_46 wS_yX2_isRegister (rest := []) rfl (by decide) (by decide) ⟨by decide, by decide⟩ dX2_mix_1 (x_pure (r := .int (bI (sp_ir r))) (st1 := []) ?_)
  refine xb (fun _ => lv_if_eq (tgt := 40) hx hb dX2_mix_4 (by decide)) (fun c_4 => ?_) (fun c_4 => ?_)
  · have c_4 := bI_f c_4
    refine xl (fun _ => lv_iconst (v := (-1)) hx hb dX2_mix_40 (by decide)) ?_
    exact x_iret hx hb hr hlocks hs0 hbs (by decide) (by decide) dX2_mix_41 (⟨by simp only [op_mix, mi_no c_4]; (repeat' split) <;> rfl, by simp only [op_mix, mi_no c_4]; (repeat' split) <;> exact hH, sm_F.rf⟩)
  · have c_4 := bI_t c_4
    obtain ⟨rr, hrr, rfl⟩ := sp_ir_of c_4
    refine xl (fun _ => lv_iload_n hx hb dX2_mix_7 rfl (lv_at hl 2 rfl)) ?_
    refine xb (fun _ => lv_if_lt (tgt := 40) hx hb dX2_mix_8 (by decide)) (fun c_8 => ?_) (fun c_8 => ?_)
    · refine xl (fun _ => lv_iconst (v := (-1)) hx hb dX2_mix_40 (by decide)) ?_
      exact x_iret hx hb hr hlocks hs0 hbs (by decide) (by decide) dX2_mix_41 (⟨by simp only [op_mix, c_8, reduceIte, Bool.false_eq_true, and_true, true_and, and_false, false_and, and_self, not_true_eq_false, not_false_eq_true], by simp only [op_mix, c_8, reduceIte, Bool.false_eq_true, and_true, true_and, and_false, false_and, and_self, not_true_eq_false, not_false_eq_true]; exact hH, sm_F.rf⟩)
    · refine xl (fun _ => lv_iload_n hx hb dX2_mix_11 rfl (lv_at hl 2 rfl)) ?_
      refine xl (fun _ => lv_bipush (v := 9) hx hb dX2_mix_12 (by decide)) ?_
      refine xb (fun _ => lv_icmp_gt (tgt := 40) hx hb dX2_mix_14 (by decide)) (fun c_14 => ?_) (fun c_14 => ?_)
      · refine xl (fun _ => lv_iconst (v := (-1)) hx hb dX2_mix_40 (by decide)) ?_
        exact x_iret hx hb hr hlocks hs0 hbs (by decide) (by decide) dX2_mix_41 (⟨by simp only [op_mix, c_8, c_14, reduceIte, Bool.false_eq_true, and_true, true_and, and_false, false_and, and_self, not_true_eq_false, not_false_eq_true], by simp only [op_mix, c_8, c_14, reduceIte, Bool.false_eq_true, and_true, true_and, and_false, false_and, and_self, not_true_eq_false, not_false_eq_true]; exact hH, sm_F.rf⟩)
      · refine xl (fun _ => lv_aload_n hx hb dX2_mix_17 rfl (lv_at hl 0 rfl)) ?_
        refine xl (fun _ => lv_iload_n hx hb dX2_mix_18 rfl (lv_at hl 3 rfl)) ?_
        refine x_callV E hl (c_X2_holds l G H mb n _ _ _ _ _ _ _ _ _ _ ⟨hm0, hmn, hX, h1, h2, h3, h4, h5, h6, h7, h8, h9⟩ t rg hR x) xm_yX2_holds wMX2_50 wI_yX2_holds wT_yX2_holds (ci := 2) rfl rfl hX (rest := []) rfl (by decide) (by decide) ⟨by decide, by decide⟩ dX2_mix_19 (x_pure (r := .int (bI (sp_rg rg x).isSome)) (st1 := []) ?_)
        refine xb (fun _ => lv_if_eq (tgt := 40) hx hb dX2_mix_22 (by decide)) (fun c_22 => ?_) (fun c_22 => ?_)
        · have c_22 := bI_f c_22
          have hs_22 := isN c_22
          refine xl (fun _ => lv_iconst (v := (-1)) hx hb dX2_mix_40 (by decide)) ?_
          exact x_iret hx hb hr hlocks hs0 hbs (by decide) (by decide) dX2_mix_41 (⟨by simp only [op_mix, c_8, c_14, hs_22, reduceIte, Bool.false_eq_true, and_true, true_and, and_false, false_and, and_self, not_true_eq_false, not_false_eq_true], by simp only [op_mix, c_8, c_14, hs_22, reduceIte, Bool.false_eq_true, and_true, true_and, and_false, false_and, and_self, not_true_eq_false, not_false_eq_true]; exact hH, sm_F.rf⟩)
        · have c_22 := bI_t c_22
          obtain ⟨i, hs_22⟩ := isS c_22
          obtain ⟨j_x, hj_x, he_x, hg_x⟩ := sp_rg_s hs_22
          have hi_i : i < n := hRg j_x hj_x i hg_x
          have hr_x : re j_x = nI (i + 1) := by rw [hRr j_x hj_x, hg_x]; rfl
          refine xl (fun _ => lv_iload hx hb dX2_mix_25 (lv_at hl 4 rfl)) ?_
          refine xl (fun _ => lv_iconst (v := (-1)) hx hb dX2_mix_27 (by decide)) ?_
          refine xb (fun _ => lv_icmp_eq (tgt := 42) hx hb dX2_mix_28 (by decide)) (fun c_28 => ?_) (fun c_28 => ?_)
          · have hyn : sp_rg rg y = none := by rw [c_28]; exact sp_rg_m1
            have htn : sp_tn rg y = true := by simp [sp_tn, c_28]
            refine xl (fun _ => lv_aload_n hx hb dX2_mix_42 rfl (lv_at hl 0 rfl)) ?_
            refine xl (fun _ => lv_iload_n hx hb dX2_mix_43 rfl (lv_at hl 1 rfl)) ?_
            refine xl (fun _ => lv_iconst (v := 4) hx hb dX2_mix_44 (by decide)) ?_
            refine xl (fun _ => lv_iload_n hx hb dX2_mix_45 rfl (lv_at hl 2 rfl)) ?_
            refine xl (fun _ => lv_aload_n hx hb dX2_mix_46 rfl (lv_at hl 0 rfl)) ?_
            refine x_get (ci := 2) hx hb hts hown hK wiX2 hX rfl 9 (by decide) wFX2_35 rfl rfl dX2_mix_47 ?_
            refine xl (fun _ => lv_iload_n hx hb dX2_mix_50 rfl (lv_at hl 3 rfl)) ?_
            refine x_iald hx hb hK h9 j_x (he_x) (by have := hj_x; omega) (by decide) dX2_mix_51 ?_
            rw [show (re j_x) = (nI (i + 1)) from hr_x]
            refine xl (fun _ => lv_iload hx hb dX2_mix_52 (lv_at hl 4 rfl)) ?_
            refine xl (fun _ => lv_iconst (v := (-1)) hx hb dX2_mix_54 (by decide)) ?_
            refine xb (fun _ => lv_icmp_ne (tgt := 62) hx hb dX2_mix_55 (by decide)) (fun c_55 => ?_) (fun c_55 => ?_)
            · exact absurd c_28 c_55
            · refine xl (fun _ => lv_iconst (v := 0) hx hb dX2_mix_58 (by decide)) ?_
              refine xl (fun _ => lv_goto (tgt := 69) hx hb dX2_mix_59 (by decide)) ?_
              refine x_callV E hl (c_X2_put l G H mb n _ _ _ _ _ _ _ _ _ _ ⟨hm0, hmn, hX, h1, h2, h3, h4, h5, h6, h7, h8, h9⟩ t rg hR g (4, q, z4, sp_p4 (some i) (sp_rg rg y) none) (wf_mix hi_i (fun j e => by obtain ⟨jj, hjj, -, hjg⟩ := sp_rg_s e; exact hRg jj hjj j hjg)) rr hrr 4 q (nI (i + 1)) 0 rfl (fun _ => (e_4 (d := (4, q, z4, sp_p4 (some i) (sp_rg rg y) none)) rfl).1.symm) ((e_4 (d := (4, q, z4, sp_p4 (some i) (sp_rg rg y) none)) rfl).2.1.symm) (by rw [(e_4 (d := (4, q, z4, sp_p4 (some i) (sp_rg rg y) none)) rfl).2.2]; show 0 = px (sp_rg rg y); rw [hyn]; rfl) (fun z => absurd z (show ¬ (4 : Int32) = 7 by decide)) ns hQ (fun z => absurd z (show ¬ (4 : Int32) = 1 by decide)) hn1) xm_yX2_put wMX2_56 wI_yX2_put wT_yX2_put (ci := 2) rfl rfl hX (rest := []) rfl (by decide) (by decide) ⟨by decide, by decide⟩ dX2_mix_69 (fun v_1 H_2 hp_3 hz_4 hq_5 => ?_)
              obtain ⟨rfl, ⟨so2, on2, tw2, th2, ce2, re2, hM2, hR2, hQ2⟩, hF2⟩ := hp_3
              refine xg (g2 := F0 m 72 ls [.int 1]) rfl ?_
              have hH2 : sm_HS G mb (sp_mkS (n, t, rg, g) rr (4, q, z4, sp_p4 (some i) (sp_rg rg y) none)) H_2 := by
                unfold sm_HS
                rw [show (sp_mkS (n, t, rg, g) rr (4, q, z4, sp_p4 (some i) (sp_rg rg y) none)).2.2.2 = g from mkS_le.2]
                exact ⟨_, _, _, _, _, _, _, _, ns, hM2, hR2, hQ2, Nat.le_trans hns mkS_le.1, fun i h => Nat.lt_of_lt_of_le (hg i h) mkS_le.1⟩
              exact x_iret hx hb hr hlocks hs0 hbs (by decide) (by decide) dX2_mix_72 (⟨by simp only [op_mix, c_8, c_14, hs_22, htn, reduceIte, Bool.false_eq_true, and_true, true_and, and_false, false_and, and_self, not_true_eq_false, not_false_eq_true]; rw [sp_mi_nI hrr], by simp only [op_mix, c_8, c_14, hs_22, htn, reduceIte, Bool.false_eq_true, and_true, true_and, and_false, false_and, and_self, not_true_eq_false, not_false_eq_true]; rw [sp_mi_nI hrr]; exact hH2, hF.tr hF2⟩)
          · refine xl (fun _ => lv_aload_n hx hb dX2_mix_31 rfl (lv_at hl 0 rfl)) ?_
            refine xl (fun _ => lv_iload hx hb dX2_mix_32 (lv_at hl 4 rfl)) ?_
            refine x_callV E hl (c_X2_holds l G H mb n _ _ _ _ _ _ _ _ _ _ ⟨hm0, hmn, hX, h1, h2, h3, h4, h5, h6, h7, h8, h9⟩ t rg hR y) xm_yX2_holds wMX2_50 wI_yX2_holds wT_yX2_holds (ci := 2) rfl rfl hX (rest := []) rfl (by decide) (by decide) ⟨by decide, by decide⟩ dX2_mix_34 (x_pure (r := .int (bI (sp_rg rg y).isSome)) (st1 := []) ?_)
            refine xb (fun _ => lv_if_ne (tgt := 42) hx hb dX2_mix_37 (by decide)) (fun c_37 => ?_) (fun c_37 => ?_)
            · have c_37 := bI_t c_37
              obtain ⟨j, hs_37⟩ := isS c_37
              obtain ⟨j_y, hj_y, he_y, hg_y⟩ := sp_rg_s hs_37
              have hi_j : j < n := hRg j_y hj_y j hg_y
              have hr_y : re j_y = nI (j + 1) := by rw [hRr j_y hj_y, hg_y]; rfl
              have htn : sp_tn rg y = true := by simp [sp_tn, hs_37]
              refine xl (fun _ => lv_aload_n hx hb dX2_mix_42 rfl (lv_at hl 0 rfl)) ?_
              refine xl (fun _ => lv_iload_n hx hb dX2_mix_43 rfl (lv_at hl 1 rfl)) ?_
              refine xl (fun _ => lv_iconst (v := 4) hx hb dX2_mix_44 (by decide)) ?_
              refine xl (fun _ => lv_iload_n hx hb dX2_mix_45 rfl (lv_at hl 2 rfl)) ?_
              refine xl (fun _ => lv_aload_n hx hb dX2_mix_46 rfl (lv_at hl 0 rfl)) ?_
              refine x_get (ci := 2) hx hb hts hown hK wiX2 hX rfl 9 (by decide) wFX2_35 rfl rfl dX2_mix_47 ?_
              refine xl (fun _ => lv_iload_n hx hb dX2_mix_50 rfl (lv_at hl 3 rfl)) ?_
              refine x_iald hx hb hK h9 j_x (he_x) (by have := hj_x; omega) (by decide) dX2_mix_51 ?_
              rw [show (re j_x) = (nI (i + 1)) from hr_x]
              refine xl (fun _ => lv_iload hx hb dX2_mix_52 (lv_at hl 4 rfl)) ?_
              refine xl (fun _ => lv_iconst (v := (-1)) hx hb dX2_mix_54 (by decide)) ?_
              refine xb (fun _ => lv_icmp_ne (tgt := 62) hx hb dX2_mix_55 (by decide)) (fun c_55 => ?_) (fun c_55 => ?_)
              · refine xl (fun _ => lv_aload_n hx hb dX2_mix_62 rfl (lv_at hl 0 rfl)) ?_
                refine x_get (ci := 2) hx hb hts hown hK wiX2 hX rfl 9 (by decide) wFX2_35 rfl rfl dX2_mix_63 ?_
                refine xl (fun _ => lv_iload hx hb dX2_mix_66 (lv_at hl 4 rfl)) ?_
                refine x_iald hx hb hK h9 j_y (he_y) (by have := hj_y; omega) (by decide) dX2_mix_68 ?_
                rw [show (re j_y) = (nI (j + 1)) from hr_y]
                refine x_callV E hl (c_X2_put l G H mb n _ _ _ _ _ _ _ _ _ _ ⟨hm0, hmn, hX, h1, h2, h3, h4, h5, h6, h7, h8, h9⟩ t rg hR g (4, q, z4, sp_p4 (some i) (sp_rg rg y) none) (wf_mix hi_i (fun j e => by obtain ⟨jj, hjj, -, hjg⟩ := sp_rg_s e; exact hRg jj hjj j hjg)) rr hrr 4 q (nI (i + 1)) (nI (j + 1)) rfl (fun _ => (e_4 (d := (4, q, z4, sp_p4 (some i) (sp_rg rg y) none)) rfl).1.symm) ((e_4 (d := (4, q, z4, sp_p4 (some i) (sp_rg rg y) none)) rfl).2.1.symm) (by rw [(e_4 (d := (4, q, z4, sp_p4 (some i) (sp_rg rg y) none)) rfl).2.2]; show (nI (j + 1)) = px (sp_rg rg y); rw [hs_37]; rfl) (fun z => absurd z (show ¬ (4 : Int32) = 7 by decide)) ns hQ (fun z => absurd z (show ¬ (4 : Int32) = 1 by decide)) hn1) xm_yX2_put wMX2_56 wI_yX2_put wT_yX2_put (ci := 2) rfl rfl hX (rest := []) rfl (by decide) (by decide) ⟨by decide, by decide⟩ dX2_mix_69 (fun v_6 H_7 hp_8 hz_9 hq_10 => ?_)
                obtain ⟨rfl, ⟨so2, on2, tw2, th2, ce2, re2, hM2, hR2, hQ2⟩, hF2⟩ := hp_8
                refine xg (g2 := F0 m 72 ls [.int 1]) rfl ?_
                have hH2 : sm_HS G mb (sp_mkS (n, t, rg, g) rr (4, q, z4, sp_p4 (some i) (sp_rg rg y) none)) H_7 := by
                  unfold sm_HS
                  rw [show (sp_mkS (n, t, rg, g) rr (4, q, z4, sp_p4 (some i) (sp_rg rg y) none)).2.2.2 = g from mkS_le.2]
                  exact ⟨_, _, _, _, _, _, _, _, ns, hM2, hR2, hQ2, Nat.le_trans hns mkS_le.1, fun i h => Nat.lt_of_lt_of_le (hg i h) mkS_le.1⟩
                exact x_iret hx hb hr hlocks hs0 hbs (by decide) (by decide) dX2_mix_72 (⟨by simp only [op_mix, c_8, c_14, hs_22, htn, reduceIte, Bool.false_eq_true, and_true, true_and, and_false, false_and, and_self, not_true_eq_false, not_false_eq_true]; rw [sp_mi_nI hrr], by simp only [op_mix, c_8, c_14, hs_22, htn, reduceIte, Bool.false_eq_true, and_true, true_and, and_false, false_and, and_self, not_true_eq_false, not_false_eq_true]; rw [sp_mi_nI hrr]; exact hH2, hF.tr hF2⟩)
              · exact absurd c_55 c_28
            · have c_37 := bI_f c_37
              have htn : sp_tn rg y = false := by simp [sp_tn, isN c_37, c_28]
              refine xl (fun _ => lv_iconst (v := (-1)) hx hb dX2_mix_40 (by decide)) ?_
              exact x_iret hx hb hr hlocks hs0 hbs (by decide) (by decide) dX2_mix_41 (⟨by simp only [op_mix, c_8, c_14, hs_22, htn, reduceIte, Bool.false_eq_true, and_true, true_and, and_false, false_and, and_self, not_true_eq_false, not_false_eq_true], by simp only [op_mix, c_8, c_14, hs_22, htn, reduceIte, Bool.false_eq_true, and_true, true_and, and_false, false_and, and_self, not_true_eq_false, not_false_eq_true]; exact hH, sm_F.rf⟩)

set_option maxHeartbeats 4000000 in
set_option maxRecDepth 100000 in
theorem c_X2_sealed (l : Launch) (G : sg_G) (H : Heap) (mb n : Nat) (t : Nat → sp_T) (rg : Nat → Option Nat) (g : Nat → Prop) (hH : sm_H G mb n t rg g H) (hn1 : n < 512) (r k h q : Int32) : xC l G yX2_sealed cX2_sealed 5 (some FieldType.int) 2 0 0 [.ref mb, .int r, .int k, .int h, .int q] H (fun ans H' => ans = some (.int (op_sealed (n, t, rg, g) r k h q).1) ∧ sm_HS G mb (op_sealed (n, t, rg, g) r k h q).2 H' ∧ sm_F mb H H') := by
  refine xC.start (by decide) (Nat.le_of_ble_eq_true rfl) ?_
  intro p e s m args below meth c ls E hnm hs0 hl
  obtain ⟨hx, hb, hml, hown, hts, hr, hlocks, hK, hbs⟩ := id E
  have hl : lv_has ls 5 [(0, .ref mb), (1, .int r), (2, .int k), (3, .int h), (4, .int q)] := hl
  obtain ⟨so, on, tw, th, ce, kb, li, re, ns, hM, hR, hQ, hns, hg⟩ := id hH
  obtain ⟨hm0, hmn, hX, h1, h2, h3, h4, h5, h6, h7, h8, h9⟩ := id hM
  obtain ⟨hRt, hRr, hRg, hRw⟩ := id hR
  have hF : sm_F mb H H := sm_F.rf
  refine xl (fun _ => lv_iload_n hx hb dX2_sealed_0 rfl (lv_at hl 1 rfl)) ?_
  refine x_callS E hl (c_X2_isRegister l G H r) xm_yX2_isRegister wMX2_46 wS_yX2_isRegister (rest := []) rfl (by decide) (by decide) ⟨by decide, by decide⟩ dX2_sealed_1 (x_pure (r := .int (bI (sp_ir r))) (st1 := []) ?_)
  refine xb (fun _ => lv_if_eq (tgt := 60) hx hb dX2_sealed_4 (by decide)) (fun c_4 => ?_) (fun c_4 => ?_)
  · have c_4 := bI_f c_4
    refine xl (fun _ => lv_iconst (v := (-1)) hx hb dX2_sealed_60 (by decide)) ?_
    exact x_iret hx hb hr hlocks hs0 hbs (by decide) (by decide) dX2_sealed_61 (⟨by simp only [op_sealed, mi_no c_4]; (repeat' split) <;> rfl, by simp only [op_sealed, mi_no c_4]; (repeat' split) <;> exact hH, sm_F.rf⟩)
  · have c_4 := bI_t c_4
    obtain ⟨rr, hrr, rfl⟩ := sp_ir_of c_4
    refine xl (fun _ => lv_aload_n hx hb dX2_sealed_7 rfl (lv_at hl 0 rfl)) ?_
    refine xl (fun _ => lv_iload_n hx hb dX2_sealed_8 rfl (lv_at hl 2 rfl)) ?_
    refine x_callV E hl (c_X2_holds l G H mb n _ _ _ _ _ _ _ _ _ _ ⟨hm0, hmn, hX, h1, h2, h3, h4, h5, h6, h7, h8, h9⟩ t rg hR k) xm_yX2_holds wMX2_50 wI_yX2_holds wT_yX2_holds (ci := 2) rfl rfl hX (rest := []) rfl (by decide) (by decide) ⟨by decide, by decide⟩ dX2_sealed_9 (x_pure (r := .int (bI (sp_rg rg k).isSome)) (st1 := []) ?_)
    refine xb (fun _ => lv_if_eq (tgt := 60) hx hb dX2_sealed_12 (by decide)) (fun c_12 => ?_) (fun c_12 => ?_)
    · have c_12 := bI_f c_12
      have hs_12 := isN c_12
      refine xl (fun _ => lv_iconst (v := (-1)) hx hb dX2_sealed_60 (by decide)) ?_
      exact x_iret hx hb hr hlocks hs0 hbs (by decide) (by decide) dX2_sealed_61 (⟨by simp only [op_sealed, hs_12, reduceIte, Bool.false_eq_true, and_true, true_and, and_false, false_and, and_self, not_true_eq_false, not_false_eq_true], by simp only [op_sealed, hs_12, reduceIte, Bool.false_eq_true, and_true, true_and, and_false, false_and, and_self, not_true_eq_false, not_false_eq_true]; exact hH, sm_F.rf⟩)
    · have c_12 := bI_t c_12
      obtain ⟨i, hs_12⟩ := isS c_12
      obtain ⟨j_k, hj_k, he_k, hg_k⟩ := sp_rg_s hs_12
      have hi_i : i < n := hRg j_k hj_k i hg_k
      have hr_k : re j_k = nI (i + 1) := by rw [hRr j_k hj_k, hg_k]; rfl
      refine xl (fun _ => lv_aload_n hx hb dX2_sealed_15 rfl (lv_at hl 0 rfl)) ?_
      refine xl (fun _ => lv_iload_n hx hb dX2_sealed_16 rfl (lv_at hl 3 rfl)) ?_
      refine x_callV E hl (c_X2_holds l G H mb n _ _ _ _ _ _ _ _ _ _ ⟨hm0, hmn, hX, h1, h2, h3, h4, h5, h6, h7, h8, h9⟩ t rg hR h) xm_yX2_holds wMX2_50 wI_yX2_holds wT_yX2_holds (ci := 2) rfl rfl hX (rest := []) rfl (by decide) (by decide) ⟨by decide, by decide⟩ dX2_sealed_17 (x_pure (r := .int (bI (sp_rg rg h).isSome)) (st1 := []) ?_)
      refine xb (fun _ => lv_if_eq (tgt := 60) hx hb dX2_sealed_20 (by decide)) (fun c_20 => ?_) (fun c_20 => ?_)
      · have c_20 := bI_f c_20
        have hs_20 := isN c_20
        refine xl (fun _ => lv_iconst (v := (-1)) hx hb dX2_sealed_60 (by decide)) ?_
        exact x_iret hx hb hr hlocks hs0 hbs (by decide) (by decide) dX2_sealed_61 (⟨by simp only [op_sealed, hs_12, hs_20, reduceIte, Bool.false_eq_true, and_true, true_and, and_false, false_and, and_self, not_true_eq_false, not_false_eq_true], by simp only [op_sealed, hs_12, hs_20, reduceIte, Bool.false_eq_true, and_true, true_and, and_false, false_and, and_self, not_true_eq_false, not_false_eq_true]; exact hH, sm_F.rf⟩)
      · have c_20 := bI_t c_20
        obtain ⟨j, hs_20⟩ := isS c_20
        obtain ⟨j_h, hj_h, he_h, hg_h⟩ := sp_rg_s hs_20
        have hi_j : j < n := hRg j_h hj_h j hg_h
        have hr_h : re j_h = nI (j + 1) := by rw [hRr j_h hj_h, hg_h]; rfl
        refine xl (fun _ => lv_aload_n hx hb dX2_sealed_23 rfl (lv_at hl 0 rfl)) ?_
        refine xl (fun _ => lv_iload hx hb dX2_sealed_24 (lv_at hl 4 rfl)) ?_
        refine x_callV E hl (c_X2_holds l G H mb n _ _ _ _ _ _ _ _ _ _ ⟨hm0, hmn, hX, h1, h2, h3, h4, h5, h6, h7, h8, h9⟩ t rg hR q) xm_yX2_holds wMX2_50 wI_yX2_holds wT_yX2_holds (ci := 2) rfl rfl hX (rest := []) rfl (by decide) (by decide) ⟨by decide, by decide⟩ dX2_sealed_26 (x_pure (r := .int (bI (sp_rg rg q).isSome)) (st1 := []) ?_)
        refine xb (fun _ => lv_if_eq (tgt := 60) hx hb dX2_sealed_29 (by decide)) (fun c_29 => ?_) (fun c_29 => ?_)
        · have c_29 := bI_f c_29
          have hs_29 := isN c_29
          refine xl (fun _ => lv_iconst (v := (-1)) hx hb dX2_sealed_60 (by decide)) ?_
          exact x_iret hx hb hr hlocks hs0 hbs (by decide) (by decide) dX2_sealed_61 (⟨by simp only [op_sealed, hs_12, hs_20, hs_29, reduceIte, Bool.false_eq_true, and_true, true_and, and_false, false_and, and_self, not_true_eq_false, not_false_eq_true], by simp only [op_sealed, hs_12, hs_20, hs_29, reduceIte, Bool.false_eq_true, and_true, true_and, and_false, false_and, and_self, not_true_eq_false, not_false_eq_true]; exact hH, sm_F.rf⟩)
        · have c_29 := bI_t c_29
          obtain ⟨u, hs_29⟩ := isS c_29
          obtain ⟨j_q, hj_q, he_q, hg_q⟩ := sp_rg_s hs_29
          have hi_u : u < n := hRg j_q hj_q u hg_q
          have hr_q : re j_q = nI (u + 1) := by rw [hRr j_q hj_q, hg_q]; rfl
          refine xl (fun _ => lv_aload_n hx hb dX2_sealed_32 rfl (lv_at hl 0 rfl)) ?_
          refine xl (fun _ => lv_iload_n hx hb dX2_sealed_33 rfl (lv_at hl 1 rfl)) ?_
          refine xl (fun _ => lv_iconst (v := 5) hx hb dX2_sealed_34 (by decide)) ?_
          refine xl (fun _ => lv_aload_n hx hb dX2_sealed_35 rfl (lv_at hl 0 rfl)) ?_
          refine x_get (ci := 2) hx hb hts hown hK wiX2 hX rfl 9 (by decide) wFX2_35 rfl rfl dX2_sealed_36 ?_
          refine xl (fun _ => lv_iload_n hx hb dX2_sealed_39 rfl (lv_at hl 2 rfl)) ?_
          refine x_iald hx hb hK h9 j_k (he_k) (by have := hj_k; omega) (by decide) dX2_sealed_40 ?_
          rw [show (re j_k) = (nI (i + 1)) from hr_k]
          refine xl (fun _ => lv_aload_n hx hb dX2_sealed_41 rfl (lv_at hl 0 rfl)) ?_
          refine x_get (ci := 2) hx hb hts hown hK wiX2 hX rfl 9 (by decide) wFX2_35 rfl rfl dX2_sealed_42 ?_
          refine xl (fun _ => lv_iload_n hx hb dX2_sealed_45 rfl (lv_at hl 3 rfl)) ?_
          refine x_iald hx hb hK h9 j_h (he_h) (by have := hj_h; omega) (by decide) dX2_sealed_46 ?_
          rw [show (re j_h) = (nI (j + 1)) from hr_h]
          refine xl (fun _ => lv_aload_n hx hb dX2_sealed_47 rfl (lv_at hl 0 rfl)) ?_
          refine x_get (ci := 2) hx hb hts hown hK wiX2 hX rfl 9 (by decide) wFX2_35 rfl rfl dX2_sealed_48 ?_
          refine xl (fun _ => lv_iload hx hb dX2_sealed_51 (lv_at hl 4 rfl)) ?_
          refine x_iald hx hb hK h9 j_q (he_q) (by have := hj_q; omega) (by decide) dX2_sealed_53 ?_
          rw [show (re j_q) = (nI (u + 1)) from hr_q]
          refine x_callV E hl (c_X2_put l G H mb n _ _ _ _ _ _ _ _ _ _ ⟨hm0, hmn, hX, h1, h2, h3, h4, h5, h6, h7, h8, h9⟩ t rg hR g (5, 0, z4, sp_p4 (some i) (some j) (some u)) (wf_sealed hi_i hi_j hi_u) rr hrr 5 (nI (i + 1)) (nI (j + 1)) (nI (u + 1)) rfl (fun _ => (e_5 (d := (5, 0, z4, sp_p4 (some i) (some j) (some u))) rfl).1.symm) ((e_5 (d := (5, 0, z4, sp_p4 (some i) (some j) (some u))) rfl).2.1.symm) ((e_5 (d := (5, 0, z4, sp_p4 (some i) (some j) (some u))) rfl).2.2.symm) (fun z => absurd z (show ¬ (5 : Int32) = 7 by decide)) ns hQ (fun z => absurd z (show ¬ (5 : Int32) = 1 by decide)) hn1) xm_yX2_put wMX2_56 wI_yX2_put wT_yX2_put (ci := 2) rfl rfl hX (rest := []) rfl (by decide) (by decide) ⟨by decide, by decide⟩ dX2_sealed_54 (fun v_1 H_2 hp_3 hz_4 hq_5 => ?_)
          obtain ⟨rfl, ⟨so2, on2, tw2, th2, ce2, re2, hM2, hR2, hQ2⟩, hF2⟩ := hp_3
          refine xg (g2 := F0 m 57 ls [.int 1]) rfl ?_
          have hH2 : sm_HS G mb (sp_mkS (n, t, rg, g) rr (5, 0, z4, sp_p4 (some i) (some j) (some u))) H_2 := by
            unfold sm_HS
            rw [show (sp_mkS (n, t, rg, g) rr (5, 0, z4, sp_p4 (some i) (some j) (some u))).2.2.2 = g from mkS_le.2]
            exact ⟨_, _, _, _, _, _, _, _, ns, hM2, hR2, hQ2, Nat.le_trans hns mkS_le.1, fun i h => Nat.lt_of_lt_of_le (hg i h) mkS_le.1⟩
          refine xl (fun _ => lv_goto (tgt := 61) hx hb dX2_sealed_57 (by decide)) ?_
          exact x_iret hx hb hr hlocks hs0 hbs (by decide) (by decide) dX2_sealed_61 (⟨by simp only [op_sealed, hs_12, hs_20, hs_29, reduceIte, Bool.false_eq_true, and_true, true_and, and_false, false_and, and_self, not_true_eq_false, not_false_eq_true]; rw [sp_mi_nI hrr], by simp only [op_sealed, hs_12, hs_20, hs_29, reduceIte, Bool.false_eq_true, and_true, true_and, and_false, false_and, and_self, not_true_eq_false, not_false_eq_true]; rw [sp_mi_nI hrr]; exact hH2, hF.tr hF2⟩)

set_option maxHeartbeats 4000000 in
set_option maxRecDepth 100000 in
theorem c_X2_signed (l : Launch) (G : sg_G) (H : Heap) (mb n : Nat) (t : Nat → sp_T) (rg : Nat → Option Nat) (g : Nat → Prop) (hH : sm_H G mb n t rg g H) (hn1 : n < 512) (r x y : Int32) : xC l G yX2_signed cX2_signed 4 (some FieldType.int) 3 0 0 [.ref mb, .int r, .int x, .int y] H (fun ans H' => ans = some (.int (op_signed (n, t, rg, g) r x y).1) ∧ sm_HS G mb (op_signed (n, t, rg, g) r x y).2 H' ∧ sm_F mb H H') := by
  refine xC.start (by decide) (Nat.le_of_ble_eq_true rfl) ?_
  intro p e s m args below meth c ls E hnm hs0 hl
  obtain ⟨hx, hb, hml, hown, hts, hr, hlocks, hK, hbs⟩ := id E
  have hl : lv_has ls 4 [(0, .ref mb), (1, .int r), (2, .int x), (3, .int y)] := hl
  obtain ⟨so, on, tw, th, ce, kb, li, re, ns, hM, hR, hQ, hns, hg⟩ := id hH
  obtain ⟨hm0, hmn, hX, h1, h2, h3, h4, h5, h6, h7, h8, h9⟩ := id hM
  obtain ⟨hRt, hRr, hRg, hRw⟩ := id hR
  have hF : sm_F mb H H := sm_F.rf
  refine xl (fun _ => lv_iload_n hx hb dX2_signed_0 rfl (lv_at hl 1 rfl)) ?_
  refine x_callS E hl (c_X2_isRegister l G H r) xm_yX2_isRegister wMX2_46 wS_yX2_isRegister (rest := []) rfl (by decide) (by decide) ⟨by decide, by decide⟩ dX2_signed_1 (x_pure (r := .int (bI (sp_ir r))) (st1 := []) ?_)
  refine xb (fun _ => lv_if_eq (tgt := 47) hx hb dX2_signed_4 (by decide)) (fun c_4 => ?_) (fun c_4 => ?_)
  · have c_4 := bI_f c_4
    refine xl (fun _ => lv_iconst (v := (-1)) hx hb dX2_signed_47 (by decide)) ?_
    exact x_iret hx hb hr hlocks hs0 hbs (by decide) (by decide) dX2_signed_48 (⟨by simp only [op_signed, mi_no c_4]; (repeat' split) <;> rfl, by simp only [op_signed, mi_no c_4]; (repeat' split) <;> exact hH, sm_F.rf⟩)
  · have c_4 := bI_t c_4
    obtain ⟨rr, hrr, rfl⟩ := sp_ir_of c_4
    refine xl (fun _ => lv_aload_n hx hb dX2_signed_7 rfl (lv_at hl 0 rfl)) ?_
    refine xl (fun _ => lv_iload_n hx hb dX2_signed_8 rfl (lv_at hl 2 rfl)) ?_
    refine xl (fun _ => lv_iconst (v := 1) hx hb dX2_signed_9 (by decide)) ?_
    refine x_callV E hl (c_X2_has l G H mb n _ _ _ _ _ _ _ _ _ _ ⟨hm0, hmn, hX, h1, h2, h3, h4, h5, h6, h7, h8, h9⟩ t rg hR x 1) xm_yX2_has wMX2_60 wI_yX2_has wT_yX2_has (ci := 2) rfl rfl hX (rest := []) rfl (by decide) (by decide) ⟨by decide, by decide⟩ dX2_signed_10 (x_pure (r := .int (bI (sp_rs t rg x 1).isSome)) (st1 := []) ?_)
    refine xb (fun _ => lv_if_eq (tgt := 47) hx hb dX2_signed_13 (by decide)) (fun c_13 => ?_) (fun c_13 => ?_)
    · have c_13 := bI_f c_13
      have hs_13 := isN c_13
      refine xl (fun _ => lv_iconst (v := (-1)) hx hb dX2_signed_47 (by decide)) ?_
      exact x_iret hx hb hr hlocks hs0 hbs (by decide) (by decide) dX2_signed_48 (⟨by simp only [op_signed, hs_13, reduceIte, Bool.false_eq_true, and_true, true_and, and_false, false_and, and_self, not_true_eq_false, not_false_eq_true], by simp only [op_signed, hs_13, reduceIte, Bool.false_eq_true, and_true, true_and, and_false, false_and, and_self, not_true_eq_false, not_false_eq_true]; exact hH, sm_F.rf⟩)
    · have c_13 := bI_t c_13
      obtain ⟨i, hs_13⟩ := isS c_13
      obtain ⟨j_x, hj_x, he_x, hg_x⟩ := sp_rg_s (sp_rs_of hs_13).1
      have hi_i : i < n := hRg j_x hj_x i hg_x
      have hr_x : re j_x = nI (i + 1) := by rw [hRr j_x hj_x, hg_x]; rfl
      refine xl (fun _ => lv_aload_n hx hb dX2_signed_16 rfl (lv_at hl 0 rfl)) ?_
      refine xl (fun _ => lv_iload_n hx hb dX2_signed_17 rfl (lv_at hl 3 rfl)) ?_
      refine x_callV E hl (c_X2_holds l G H mb n _ _ _ _ _ _ _ _ _ _ ⟨hm0, hmn, hX, h1, h2, h3, h4, h5, h6, h7, h8, h9⟩ t rg hR y) xm_yX2_holds wMX2_50 wI_yX2_holds wT_yX2_holds (ci := 2) rfl rfl hX (rest := []) rfl (by decide) (by decide) ⟨by decide, by decide⟩ dX2_signed_18 (x_pure (r := .int (bI (sp_rg rg y).isSome)) (st1 := []) ?_)
      refine xb (fun _ => lv_if_eq (tgt := 47) hx hb dX2_signed_21 (by decide)) (fun c_21 => ?_) (fun c_21 => ?_)
      · have c_21 := bI_f c_21
        have hs_21 := isN c_21
        refine xl (fun _ => lv_iconst (v := (-1)) hx hb dX2_signed_47 (by decide)) ?_
        exact x_iret hx hb hr hlocks hs0 hbs (by decide) (by decide) dX2_signed_48 (⟨by simp only [op_signed, hs_13, hs_21, reduceIte, Bool.false_eq_true, and_true, true_and, and_false, false_and, and_self, not_true_eq_false, not_false_eq_true], by simp only [op_signed, hs_13, hs_21, reduceIte, Bool.false_eq_true, and_true, true_and, and_false, false_and, and_self, not_true_eq_false, not_false_eq_true]; exact hH, sm_F.rf⟩)
      · have c_21 := bI_t c_21
        obtain ⟨j, hs_21⟩ := isS c_21
        obtain ⟨j_y, hj_y, he_y, hg_y⟩ := sp_rg_s hs_21
        have hi_j : j < n := hRg j_y hj_y j hg_y
        have hr_y : re j_y = nI (j + 1) := by rw [hRr j_y hj_y, hg_y]; rfl
        refine xl (fun _ => lv_aload_n hx hb dX2_signed_24 rfl (lv_at hl 0 rfl)) ?_
        refine xl (fun _ => lv_iload_n hx hb dX2_signed_25 rfl (lv_at hl 1 rfl)) ?_
        refine xl (fun _ => lv_bipush (v := 6) hx hb dX2_signed_26 (by decide)) ?_
        refine xl (fun _ => lv_aload_n hx hb dX2_signed_28 rfl (lv_at hl 0 rfl)) ?_
        refine x_get (ci := 2) hx hb hts hown hK wiX2 hX rfl 9 (by decide) wFX2_35 rfl rfl dX2_signed_29 ?_
        refine xl (fun _ => lv_iload_n hx hb dX2_signed_32 rfl (lv_at hl 2 rfl)) ?_
        refine x_iald hx hb hK h9 j_x (he_x) (by have := hj_x; omega) (by decide) dX2_signed_33 ?_
        rw [show (re j_x) = (nI (i + 1)) from hr_x]
        refine xl (fun _ => lv_aload_n hx hb dX2_signed_34 rfl (lv_at hl 0 rfl)) ?_
        refine x_get (ci := 2) hx hb hts hown hK wiX2 hX rfl 9 (by decide) wFX2_35 rfl rfl dX2_signed_35 ?_
        refine xl (fun _ => lv_iload_n hx hb dX2_signed_38 rfl (lv_at hl 3 rfl)) ?_
        refine x_iald hx hb hK h9 j_y (he_y) (by have := hj_y; omega) (by decide) dX2_signed_39 ?_
        rw [show (re j_y) = (nI (j + 1)) from hr_y]
        refine xl (fun _ => lv_iconst (v := 0) hx hb dX2_signed_40 (by decide)) ?_
        refine x_callV E hl (c_X2_put l G H mb n _ _ _ _ _ _ _ _ _ _ ⟨hm0, hmn, hX, h1, h2, h3, h4, h5, h6, h7, h8, h9⟩ t rg hR g (6, 0, z4, sp_p4 (some i) (some j) none) (wf_signed hi_i hi_j (sp_rs_of hs_13).2) rr hrr 6 (nI (i + 1)) (nI (j + 1)) 0 rfl (fun _ => (e_6 (d := (6, 0, z4, sp_p4 (some i) (some j) none)) rfl).1.symm) ((e_6 (d := (6, 0, z4, sp_p4 (some i) (some j) none)) rfl).2.1.symm) ((e_6 (d := (6, 0, z4, sp_p4 (some i) (some j) none)) rfl).2.2.symm) (fun z => absurd z (show ¬ (6 : Int32) = 7 by decide)) ns hQ (fun z => absurd z (show ¬ (6 : Int32) = 1 by decide)) hn1) xm_yX2_put wMX2_56 wI_yX2_put wT_yX2_put (ci := 2) rfl rfl hX (rest := []) rfl (by decide) (by decide) ⟨by decide, by decide⟩ dX2_signed_41 (fun v_1 H_2 hp_3 hz_4 hq_5 => ?_)
        obtain ⟨rfl, ⟨so2, on2, tw2, th2, ce2, re2, hM2, hR2, hQ2⟩, hF2⟩ := hp_3
        refine xg (g2 := F0 m 44 ls [.int 1]) rfl ?_
        have hH2 : sm_HS G mb (sp_mkS (n, t, rg, g) rr (6, 0, z4, sp_p4 (some i) (some j) none)) H_2 := by
          unfold sm_HS
          rw [show (sp_mkS (n, t, rg, g) rr (6, 0, z4, sp_p4 (some i) (some j) none)).2.2.2 = g from mkS_le.2]
          exact ⟨_, _, _, _, _, _, _, _, ns, hM2, hR2, hQ2, Nat.le_trans hns mkS_le.1, fun i h => Nat.lt_of_lt_of_le (hg i h) mkS_le.1⟩
        refine xl (fun _ => lv_goto (tgt := 48) hx hb dX2_signed_44 (by decide)) ?_
        exact x_iret hx hb hr hlocks hs0 hbs (by decide) (by decide) dX2_signed_48 (⟨by simp only [op_signed, hs_13, hs_21, reduceIte, Bool.false_eq_true, and_true, true_and, and_false, false_and, and_self, not_true_eq_false, not_false_eq_true]; rw [sp_mi_nI hrr], by simp only [op_signed, hs_13, hs_21, reduceIte, Bool.false_eq_true, and_true, true_and, and_false, false_and, and_self, not_true_eq_false, not_false_eq_true]; rw [sp_mi_nI hrr]; exact hH2, hF.tr hF2⟩)
end
