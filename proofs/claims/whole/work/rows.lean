section
-- ===== PART A: goes FIRST, ahead of the names: the tables' words, and 'selects' of the private methods out of them =====
/-- a private method of a class that the tables say can be made, by its rows of tables_1 -/
def lw_okq (q : MethodName × Nat) : Prop := (q.1.cls ≠ "java/lang/invoke/MethodHandle" ∧ q.1.cls ≠ "java/lang/invoke/VarHandle") ∧ Cond.instantiable q.1.cls q.2 ∈ tables_1 ∧ Cond.privateMethod q.1 ∈ tables_1 ∧ Cond.instanceMethod q.1 ∈ tables_1
theorem lw_p0 : lw_okq (⟨"NearestReader", "readAs", "(LNearestReader$Kind;)Z"⟩, 7) := ⟨⟨by decide +kernel, by decide +kernel⟩, List.mem_of_getElem? (i := 15) (by decide +kernel), List.mem_of_getElem? (i := 163) (by decide +kernel), List.mem_of_getElem? (i := 164) (by decide +kernel)⟩
theorem lw_p1 : lw_okq (⟨"NearestReader$Numeral", "trim", "(I)V"⟩, 8) := ⟨⟨by decide +kernel, by decide +kernel⟩, List.mem_of_getElem? (i := 23) (by decide +kernel), List.mem_of_getElem? (i := 171) (by decide +kernel), List.mem_of_getElem? (i := 172) (by decide +kernel)⟩
theorem lw_p2 : lw_okq (⟨"NearestReader$Numeral", "here", "()C"⟩, 8) := ⟨⟨by decide +kernel, by decide +kernel⟩, List.mem_of_getElem? (i := 23) (by decide +kernel), List.mem_of_getElem? (i := 178) (by decide +kernel), List.mem_of_getElem? (i := 179) (by decide +kernel)⟩
theorem lw_p3 : lw_okq (⟨"NearestReader$Numeral", "isRest", "(Ljava/lang/String;)Z"⟩, 8) := ⟨⟨by decide +kernel, by decide +kernel⟩, List.mem_of_getElem? (i := 23) (by decide +kernel), List.mem_of_getElem? (i := 183) (by decide +kernel), List.mem_of_getElem? (i := 184) (by decide +kernel)⟩
theorem lw_p4 : lw_okq (⟨"NearestReader$Numeral", "findLiteral", "()Z"⟩, 8) := ⟨⟨by decide +kernel, by decide +kernel⟩, List.mem_of_getElem? (i := 23) (by decide +kernel), List.mem_of_getElem? (i := 236) (by decide +kernel), List.mem_of_getElem? (i := 237) (by decide +kernel)⟩
theorem lw_p5 : lw_okq (⟨"NearestReader$Numeral", "skipPrefix", "()Z"⟩, 8) := ⟨⟨by decide +kernel, by decide +kernel⟩, List.mem_of_getElem? (i := 23) (by decide +kernel), List.mem_of_getElem? (i := 240) (by decide +kernel), List.mem_of_getElem? (i := 241) (by decide +kernel)⟩
theorem lw_p6 : lw_okq (⟨"NearestReader$Numeral", "findDigits", "(I)Z"⟩, 8) := ⟨⟨by decide +kernel, by decide +kernel⟩, List.mem_of_getElem? (i := 23) (by decide +kernel), List.mem_of_getElem? (i := 244) (by decide +kernel), List.mem_of_getElem? (i := 245) (by decide +kernel)⟩
theorem lw_p7 : lw_okq (⟨"NearestReader$Numeral", "skipDigits", "(I)I"⟩, 8) := ⟨⟨by decide +kernel, by decide +kernel⟩, List.mem_of_getElem? (i := 23) (by decide +kernel), List.mem_of_getElem? (i := 248) (by decide +kernel), List.mem_of_getElem? (i := 249) (by decide +kernel)⟩
theorem lw_p8 : lw_okq (⟨"NearestReader$Numeral", "findPower", "()Z"⟩, 8) := ⟨⟨by decide +kernel, by decide +kernel⟩, List.mem_of_getElem? (i := 23) (by decide +kernel), List.mem_of_getElem? (i := 255) (by decide +kernel), List.mem_of_getElem? (i := 256) (by decide +kernel)⟩
theorem lw_p9 : lw_okq (⟨"NearestReader$Numeral", "isHere", "(CC)Z"⟩, 8) := ⟨⟨by decide +kernel, by decide +kernel⟩, List.mem_of_getElem? (i := 23) (by decide +kernel), List.mem_of_getElem? (i := 259) (by decide +kernel), List.mem_of_getElem? (i := 260) (by decide +kernel)⟩
theorem lw_p10 : lw_okq (⟨"NearestReader", "sizeAs", "(LNearestReader$Kind;)J"⟩, 7) := ⟨⟨by decide +kernel, by decide +kernel⟩, List.mem_of_getElem? (i := 15) (by decide +kernel), List.mem_of_getElem? (i := 264) (by decide +kernel), List.mem_of_getElem? (i := 265) (by decide +kernel)⟩
theorem lw_p11 : lw_okq (⟨"NearestReader", "nearestHexadecimal", "(LNearestReader$Kind;)J"⟩, 7) := ⟨⟨by decide +kernel, by decide +kernel⟩, List.mem_of_getElem? (i := 15) (by decide +kernel), List.mem_of_getElem? (i := 268) (by decide +kernel), List.mem_of_getElem? (i := 269) (by decide +kernel)⟩
theorem lw_p12 : lw_okq (⟨"NearestReader$Decimal", "gather", "(III)V"⟩, 6) := ⟨⟨by decide +kernel, by decide +kernel⟩, List.mem_of_getElem? (i := 94) (by decide +kernel), List.mem_of_getElem? (i := 290) (by decide +kernel), List.mem_of_getElem? (i := 291) (by decide +kernel)⟩
theorem lw_p13 : lw_okq (⟨"NearestReader$Big", "dropZeros", "()V"⟩, 2) := ⟨⟨by decide +kernel, by decide +kernel⟩, List.mem_of_getElem? (i := 69) (by decide +kernel), List.mem_of_getElem? (i := 298) (by decide +kernel), List.mem_of_getElem? (i := 299) (by decide +kernel)⟩
theorem lw_p14 : lw_okq (⟨"NearestReader$Decimal", "keepDigit", "(I)V"⟩, 6) := ⟨⟨by decide +kernel, by decide +kernel⟩, List.mem_of_getElem? (i := 94) (by decide +kernel), List.mem_of_getElem? (i := 302) (by decide +kernel), List.mem_of_getElem? (i := 303) (by decide +kernel)⟩
theorem lw_p15 : lw_okq (⟨"NearestReaderModel", "read", "(Z)Z"⟩, 8) := ⟨⟨by decide +kernel, by decide +kernel⟩, List.mem_of_getElem? (i := 403) (by decide +kernel), List.mem_of_getElem? (i := 451) (by decide +kernel), List.mem_of_getElem? (i := 452) (by decide +kernel)⟩
def lw_privs_1 : List (MethodName × Nat) := [(⟨"NearestReader", "readAs", "(LNearestReader$Kind;)Z"⟩, 7), (⟨"NearestReader$Numeral", "trim", "(I)V"⟩, 8), (⟨"NearestReader$Numeral", "here", "()C"⟩, 8), (⟨"NearestReader$Numeral", "isRest", "(Ljava/lang/String;)Z"⟩, 8), (⟨"NearestReader$Numeral", "findLiteral", "()Z"⟩, 8), (⟨"NearestReader$Numeral", "skipPrefix", "()Z"⟩, 8), (⟨"NearestReader$Numeral", "findDigits", "(I)Z"⟩, 8), (⟨"NearestReader$Numeral", "skipDigits", "(I)I"⟩, 8), (⟨"NearestReader$Numeral", "findPower", "()Z"⟩, 8), (⟨"NearestReader$Numeral", "isHere", "(CC)Z"⟩, 8), (⟨"NearestReader", "sizeAs", "(LNearestReader$Kind;)J"⟩, 7), (⟨"NearestReader", "nearestHexadecimal", "(LNearestReader$Kind;)J"⟩, 7), (⟨"NearestReader$Decimal", "gather", "(III)V"⟩, 6), (⟨"NearestReader$Big", "dropZeros", "()V"⟩, 2), (⟨"NearestReader$Decimal", "keepDigit", "(I)V"⟩, 6), (⟨"NearestReaderModel", "read", "(Z)Z"⟩, 8)]
theorem lw_r1 : ∀ q ∈ lw_privs_1, lw_okq q := List.forall_mem_cons.mpr ⟨lw_p0, List.forall_mem_cons.mpr ⟨lw_p1, List.forall_mem_cons.mpr ⟨lw_p2, List.forall_mem_cons.mpr ⟨lw_p3, List.forall_mem_cons.mpr ⟨lw_p4, List.forall_mem_cons.mpr ⟨lw_p5, List.forall_mem_cons.mpr ⟨lw_p6, List.forall_mem_cons.mpr ⟨lw_p7, List.forall_mem_cons.mpr ⟨lw_p8, List.forall_mem_cons.mpr ⟨lw_p9, List.forall_mem_cons.mpr ⟨lw_p10, List.forall_mem_cons.mpr ⟨lw_p11, List.forall_mem_cons.mpr ⟨lw_p12, List.forall_mem_cons.mpr ⟨lw_p13, List.forall_mem_cons.mpr ⟨lw_p14, List.forall_mem_cons.mpr ⟨lw_p15, fun _ h => absurd h List.not_mem_nil⟩⟩⟩⟩⟩⟩⟩⟩⟩⟩⟩⟩⟩⟩⟩⟩
theorem lw_p16 : lw_okq (⟨"NearestReaderModel", "look", "(I)I"⟩, 8) := ⟨⟨by decide +kernel, by decide +kernel⟩, List.mem_of_getElem? (i := 403) (by decide +kernel), List.mem_of_getElem? (i := 455) (by decide +kernel), List.mem_of_getElem? (i := 456) (by decide +kernel)⟩
theorem lw_p17 : lw_okq (⟨"NearestReaderModel", "isWord", "(IIII)Z"⟩, 8) := ⟨⟨by decide +kernel, by decide +kernel⟩, List.mem_of_getElem? (i := 403) (by decide +kernel), List.mem_of_getElem? (i := 459) (by decide +kernel), List.mem_of_getElem? (i := 460) (by decide +kernel)⟩
theorem lw_p18 : lw_okq (⟨"NearestReaderModel", "isInfinity", "()Z"⟩, 8) := ⟨⟨by decide +kernel, by decide +kernel⟩, List.mem_of_getElem? (i := 403) (by decide +kernel), List.mem_of_getElem? (i := 468) (by decide +kernel), List.mem_of_getElem? (i := 469) (by decide +kernel)⟩
theorem lw_p19 : lw_okq (⟨"NearestReaderModel", "literal", "(IZ)J"⟩, 8) := ⟨⟨by decide +kernel, by decide +kernel⟩, List.mem_of_getElem? (i := 403) (by decide +kernel), List.mem_of_getElem? (i := 477) (by decide +kernel), List.mem_of_getElem? (i := 478) (by decide +kernel)⟩
theorem lw_p20 : lw_okq (⟨"NearestReaderModel", "digits", "(II)I"⟩, 8) := ⟨⟨by decide +kernel, by decide +kernel⟩, List.mem_of_getElem? (i := 403) (by decide +kernel), List.mem_of_getElem? (i := 481) (by decide +kernel), List.mem_of_getElem? (i := 482) (by decide +kernel)⟩
theorem lw_p21 : lw_okq (⟨"NearestReaderModel", "skips", "(II)Z"⟩, 8) := ⟨⟨by decide +kernel, by decide +kernel⟩, List.mem_of_getElem? (i := 403) (by decide +kernel), List.mem_of_getElem? (i := 488) (by decide +kernel), List.mem_of_getElem? (i := 489) (by decide +kernel)⟩
theorem lw_p22 : lw_okq (⟨"NearestReaderModel", "sized16", "(IIIJZ)J"⟩, 8) := ⟨⟨by decide +kernel, by decide +kernel⟩, List.mem_of_getElem? (i := 403) (by decide +kernel), List.mem_of_getElem? (i := 496) (by decide +kernel), List.mem_of_getElem? (i := 497) (by decide +kernel)⟩
theorem lw_p23 : lw_okq (⟨"NearestReaderModel", "gather", "(IIII)V"⟩, 8) := ⟨⟨by decide +kernel, by decide +kernel⟩, List.mem_of_getElem? (i := 403) (by decide +kernel), List.mem_of_getElem? (i := 500) (by decide +kernel), List.mem_of_getElem? (i := 501) (by decide +kernel)⟩
theorem lw_p24 : lw_okq (⟨"NearestReaderModel", "set", "(IJ)V"⟩, 8) := ⟨⟨by decide +kernel, by decide +kernel⟩, List.mem_of_getElem? (i := 403) (by decide +kernel), List.mem_of_getElem? (i := 504) (by decide +kernel), List.mem_of_getElem? (i := 505) (by decide +kernel)⟩
theorem lw_p25 : lw_okq (⟨"NearestReaderModel", "trim", "(II)V"⟩, 8) := ⟨⟨by decide +kernel, by decide +kernel⟩, List.mem_of_getElem? (i := 403) (by decide +kernel), List.mem_of_getElem? (i := 509) (by decide +kernel), List.mem_of_getElem? (i := 510) (by decide +kernel)⟩
theorem lw_p26 : lw_okq (⟨"NearestReaderModel", "grow", "(III)V"⟩, 8) := ⟨⟨by decide +kernel, by decide +kernel⟩, List.mem_of_getElem? (i := 403) (by decide +kernel), List.mem_of_getElem? (i := 513) (by decide +kernel), List.mem_of_getElem? (i := 514) (by decide +kernel)⟩
theorem lw_p27 : lw_okq (⟨"NearestReaderModel", "bitsOf", "(I)I"⟩, 8) := ⟨⟨by decide +kernel, by decide +kernel⟩, List.mem_of_getElem? (i := 403) (by decide +kernel), List.mem_of_getElem? (i := 519) (by decide +kernel), List.mem_of_getElem? (i := 520) (by decide +kernel)⟩
theorem lw_p28 : lw_okq (⟨"NearestReaderModel", "raise", "(II)V"⟩, 8) := ⟨⟨by decide +kernel, by decide +kernel⟩, List.mem_of_getElem? (i := 403) (by decide +kernel), List.mem_of_getElem? (i := 525) (by decide +kernel), List.mem_of_getElem? (i := 526) (by decide +kernel)⟩
theorem lw_p29 : lw_okq (⟨"NearestReaderModel", "nearest", "(Z)J"⟩, 8) := ⟨⟨by decide +kernel, by decide +kernel⟩, List.mem_of_getElem? (i := 403) (by decide +kernel), List.mem_of_getElem? (i := 529) (by decide +kernel), List.mem_of_getElem? (i := 530) (by decide +kernel)⟩
theorem lw_p30 : lw_okq (⟨"NearestReaderModel", "compareRows", "(II)I"⟩, 8) := ⟨⟨by decide +kernel, by decide +kernel⟩, List.mem_of_getElem? (i := 403) (by decide +kernel), List.mem_of_getElem? (i := 533) (by decide +kernel), List.mem_of_getElem? (i := 534) (by decide +kernel)⟩
theorem lw_p31 : lw_okq (⟨"NearestReaderModel", "lessen", "(II)V"⟩, 8) := ⟨⟨by decide +kernel, by decide +kernel⟩, List.mem_of_getElem? (i := 403) (by decide +kernel), List.mem_of_getElem? (i := 537) (by decide +kernel), List.mem_of_getElem? (i := 538) (by decide +kernel)⟩
def lw_privs_2 : List (MethodName × Nat) := [(⟨"NearestReaderModel", "look", "(I)I"⟩, 8), (⟨"NearestReaderModel", "isWord", "(IIII)Z"⟩, 8), (⟨"NearestReaderModel", "isInfinity", "()Z"⟩, 8), (⟨"NearestReaderModel", "literal", "(IZ)J"⟩, 8), (⟨"NearestReaderModel", "digits", "(II)I"⟩, 8), (⟨"NearestReaderModel", "skips", "(II)Z"⟩, 8), (⟨"NearestReaderModel", "sized16", "(IIIJZ)J"⟩, 8), (⟨"NearestReaderModel", "gather", "(IIII)V"⟩, 8), (⟨"NearestReaderModel", "set", "(IJ)V"⟩, 8), (⟨"NearestReaderModel", "trim", "(II)V"⟩, 8), (⟨"NearestReaderModel", "grow", "(III)V"⟩, 8), (⟨"NearestReaderModel", "bitsOf", "(I)I"⟩, 8), (⟨"NearestReaderModel", "raise", "(II)V"⟩, 8), (⟨"NearestReaderModel", "nearest", "(Z)J"⟩, 8), (⟨"NearestReaderModel", "compareRows", "(II)I"⟩, 8), (⟨"NearestReaderModel", "lessen", "(II)V"⟩, 8)]
theorem lw_r2 : ∀ q ∈ lw_privs_2, lw_okq q := List.forall_mem_cons.mpr ⟨lw_p16, List.forall_mem_cons.mpr ⟨lw_p17, List.forall_mem_cons.mpr ⟨lw_p18, List.forall_mem_cons.mpr ⟨lw_p19, List.forall_mem_cons.mpr ⟨lw_p20, List.forall_mem_cons.mpr ⟨lw_p21, List.forall_mem_cons.mpr ⟨lw_p22, List.forall_mem_cons.mpr ⟨lw_p23, List.forall_mem_cons.mpr ⟨lw_p24, List.forall_mem_cons.mpr ⟨lw_p25, List.forall_mem_cons.mpr ⟨lw_p26, List.forall_mem_cons.mpr ⟨lw_p27, List.forall_mem_cons.mpr ⟨lw_p28, List.forall_mem_cons.mpr ⟨lw_p29, List.forall_mem_cons.mpr ⟨lw_p30, List.forall_mem_cons.mpr ⟨lw_p31, fun _ h => absurd h List.not_mem_nil⟩⟩⟩⟩⟩⟩⟩⟩⟩⟩⟩⟩⟩⟩⟩⟩
theorem lw_p32 : lw_okq (⟨"NearestReaderModel", "halve", "(I)V"⟩, 8) := ⟨⟨by decide +kernel, by decide +kernel⟩, List.mem_of_getElem? (i := 403) (by decide +kernel), List.mem_of_getElem? (i := 542) (by decide +kernel), List.mem_of_getElem? (i := 543) (by decide +kernel)⟩
theorem lw_p33 : lw_okq (⟨"NearestReaderModel", "rounded", "(JIZII)J"⟩, 8) := ⟨⟨by decide +kernel, by decide +kernel⟩, List.mem_of_getElem? (i := 403) (by decide +kernel), List.mem_of_getElem? (i := 546) (by decide +kernel), List.mem_of_getElem? (i := 547) (by decide +kernel)⟩
theorem lw_p34 : lw_okq (⟨"NearestReaderModel", "sized10", "(IIIJZ)J"⟩, 8) := ⟨⟨by decide +kernel, by decide +kernel⟩, List.mem_of_getElem? (i := 403) (by decide +kernel), List.mem_of_getElem? (i := 551) (by decide +kernel), List.mem_of_getElem? (i := 552) (by decide +kernel)⟩
theorem lw_p35 : lw_okq (⟨"NearestReaderModel", "load", "(JII)V"⟩, 8) := ⟨⟨by decide +kernel, by decide +kernel⟩, List.mem_of_getElem? (i := 403) (by decide +kernel), List.mem_of_getElem? (i := 579) (by decide +kernel), List.mem_of_getElem? (i := 580) (by decide +kernel)⟩
def lw_privs_3 : List (MethodName × Nat) := [(⟨"NearestReaderModel", "halve", "(I)V"⟩, 8), (⟨"NearestReaderModel", "rounded", "(JIZII)J"⟩, 8), (⟨"NearestReaderModel", "sized10", "(IIIJZ)J"⟩, 8), (⟨"NearestReaderModel", "load", "(JII)V"⟩, 8)]
theorem lw_r3 : ∀ q ∈ lw_privs_3, lw_okq q := List.forall_mem_cons.mpr ⟨lw_p32, List.forall_mem_cons.mpr ⟨lw_p33, List.forall_mem_cons.mpr ⟨lw_p34, List.forall_mem_cons.mpr ⟨lw_p35, fun _ h => absurd h List.not_mem_nil⟩⟩⟩⟩
def lw_privs : List (MethodName × Nat) := lw_privs_1 ++ (lw_privs_2 ++ (lw_privs_3))
def lw_tbl : List Cond := k2_sels lw_privs ++ tables_1
theorem lw_privs_ok : ∀ q ∈ lw_privs, lw_okq q := by
  show ∀ q ∈ lw_privs_1 ++ (lw_privs_2 ++ (lw_privs_3)), lw_okq q
  exact List.forall_mem_append.mpr ⟨lw_r1, List.forall_mem_append.mpr ⟨lw_r2, lw_r3⟩⟩
end
section
abbrev R_Big : String := "NearestReader$Big"
abbrev R_Dec : String := "NearestReader$Decimal"
abbrev R_Fra : String := "NearestReader$Fraction"
abbrev R_Kin : String := "NearestReader$Kind"
abbrev R_Num : String := "NearestReader$Numeral"
abbrev R_Rea : String := "NearestReader"
abbrev R_Mod : String := "NearestReaderModel"
abbrev R_Str : String := "java/lang/String"
abbrev R_Sl1 : String := "java/lang/StringLatin1"
abbrev R_Pre : String := "jdk/internal/util/Preconditions"
def F_Big : u_T := fun k => match k with
  | 0 => ("NearestReader$Big", "limbs", "[I", true)
  | _ => ("NearestReader$Big", "used", "I", false)
def t_Big : Nat → FieldType := fun k => match k with
  | 0 => .array .int
  | _ => .int
theorem n_Big : ∀ a, a < 2 → ∀ b, b < 2 → a ≠ b → (F_Big a).2.1 ≠ (F_Big b).2.1 := by decide +kernel
theorem tk_Big : ∀ k, k < 2 → parseFieldDescriptor (F_Big k).2.2.1 = some (t_Big k) := by decide +kernel
def F_Dec : u_T := fun k => match k with
  | 0 => ("NearestReader$Decimal", "text", "[C", true)
  | 1 => ("NearestReader$Decimal", "fraction", "LNearestReader$Fraction;", true)
  | 2 => ("NearestReader$Decimal", "group", "I", false)
  | 3 => ("NearestReader$Decimal", "groupScale", "I", false)
  | 4 => ("NearestReader$Decimal", "kept", "I", false)
  | _ => ("NearestReader$Decimal", "place", "I", false)
def t_Dec : Nat → FieldType := fun k => match k with
  | 0 => .array .char
  | 1 => .object "NearestReader$Fraction"
  | 2 => .int
  | 3 => .int
  | 4 => .int
  | _ => .int
theorem n_Dec : ∀ a, a < 6 → ∀ b, b < 6 → a ≠ b → (F_Dec a).2.1 ≠ (F_Dec b).2.1 := by decide +kernel
theorem tk_Dec : ∀ k, k < 6 → parseFieldDescriptor (F_Dec k).2.2.1 = some (t_Dec k) := by decide +kernel
def F_Fra : u_T := fun k => match k with
  | 0 => ("NearestReader$Fraction", "top", "LNearestReader$Big;", true)
  | _ => ("NearestReader$Fraction", "bottom", "LNearestReader$Big;", true)
def t_Fra : Nat → FieldType := fun k => match k with
  | 0 => .object "NearestReader$Big"
  | _ => .object "NearestReader$Big"
theorem n_Fra : ∀ a, a < 2 → ∀ b, b < 2 → a ≠ b → (F_Fra a).2.1 ≠ (F_Fra b).2.1 := by decide +kernel
theorem tk_Fra : ∀ k, k < 2 → parseFieldDescriptor (F_Fra k).2.2.1 = some (t_Fra k) := by decide +kernel
def F_Num : u_T := fun k => match k with
  | 0 => ("NearestReader$Numeral", "text", "[C", true)
  | 1 => ("NearestReader$Numeral", "at", "I", false)
  | 2 => ("NearestReader$Numeral", "end", "I", false)
  | 3 => ("NearestReader$Numeral", "minus", "Z", false)
  | 4 => ("NearestReader$Numeral", "form", "I", false)
  | 5 => ("NearestReader$Numeral", "from", "I", false)
  | 6 => ("NearestReader$Numeral", "to", "I", false)
  | _ => ("NearestReader$Numeral", "power", "I", false)
def t_Num : Nat → FieldType := fun k => match k with
  | 0 => .array .char
  | 1 => .int
  | 2 => .int
  | 3 => .boolean
  | 4 => .int
  | 5 => .int
  | 6 => .int
  | _ => .int
theorem n_Num : ∀ a, a < 8 → ∀ b, b < 8 → a ≠ b → (F_Num a).2.1 ≠ (F_Num b).2.1 := by decide +kernel
theorem tk_Num : ∀ k, k < 8 → parseFieldDescriptor (F_Num k).2.2.1 = some (t_Num k) := by decide +kernel
def F_Rea : u_T := fun k => match k with
  | 0 => ("NearestReader", "text", "[C", true)
  | 1 => ("NearestReader", "numeral", "LNearestReader$Numeral;", true)
  | 2 => ("NearestReader", "decimal", "LNearestReader$Decimal;", true)
  | 3 => ("NearestReader", "fraction", "LNearestReader$Fraction;", true)
  | 4 => ("NearestReader", "filled", "I", false)
  | 5 => ("NearestReader", "result", "J", false)
  | _ => ("NearestReader", "found", "I", false)
def t_Rea : Nat → FieldType := fun k => match k with
  | 0 => .array .char
  | 1 => .object "NearestReader$Numeral"
  | 2 => .object "NearestReader$Decimal"
  | 3 => .object "NearestReader$Fraction"
  | 4 => .int
  | 5 => .long
  | _ => .int
theorem n_Rea : ∀ a, a < 7 → ∀ b, b < 7 → a ≠ b → (F_Rea a).2.1 ≠ (F_Rea b).2.1 := by decide +kernel
theorem tk_Rea : ∀ k, k < 7 → parseFieldDescriptor (F_Rea k).2.2.1 = some (t_Rea k) := by decide +kernel
def F_Mod : u_T := fun k => match k with
  | 0 => ("NearestReaderModel", "text", "[I", true)
  | 1 => ("NearestReaderModel", "length", "I", false)
  | 2 => ("NearestReaderModel", "result", "J", false)
  | 3 => ("NearestReaderModel", "readings", "I", false)
  | 4 => ("NearestReaderModel", "m", "[I", true)
  | 5 => ("NearestReaderModel", "n", "[I", true)
  | 6 => ("NearestReaderModel", "at", "I", false)
  | _ => ("NearestReaderModel", "end", "I", false)
def t_Mod : Nat → FieldType := fun k => match k with
  | 0 => .array .int
  | 1 => .int
  | 2 => .long
  | 3 => .int
  | 4 => .array .int
  | 5 => .array .int
  | 6 => .int
  | _ => .int
theorem n_Mod : ∀ a, a < 8 → ∀ b, b < 8 → a ≠ b → (F_Mod a).2.1 ≠ (F_Mod b).2.1 := by decide +kernel
theorem tk_Mod : ∀ k, k < 8 → parseFieldDescriptor (F_Mod k).2.2.1 = some (t_Mod k) := by decide +kernel
abbrev vcl : List vw_C := [(R_Big, F_Big, 2), (R_Dec, F_Dec, 6), (R_Fra, F_Fra, 2), (R_Num, F_Num, 8), (R_Rea, F_Rea, 7), (R_Mod, F_Mod, 8)]
abbrev b_Rea_init : ByteArray := prog_1_method_1_code
abbrev y_Rea_init : MethodName := ⟨R_Rea, "<init>", "()V"⟩
abbrev b_Num_init : ByteArray := prog_6_method_1_code
abbrev y_Num_init : MethodName := ⟨R_Num, "<init>", "([C)V"⟩
abbrev b_Fra_init : ByteArray := prog_4_method_1_code
abbrev y_Fra_init : MethodName := ⟨R_Fra, "<init>", "()V"⟩
abbrev b_Big_init : ByteArray := prog_2_method_1_code
abbrev y_Big_init : MethodName := ⟨R_Big, "<init>", "()V"⟩
abbrev b_Dec_init : ByteArray := prog_3_method_1_code
abbrev y_Dec_init : MethodName := ⟨R_Dec, "<init>", "([CLNearestReader$Fraction;)V"⟩
abbrev b_Rea_write : ByteArray := prog_1_method_2_code
abbrev y_Rea_write : MethodName := ⟨R_Rea, "write", "(J)Z"⟩
abbrev b_Rea_countCharacters : ByteArray := prog_1_method_13_code
abbrev y_Rea_countCharacters : MethodName := ⟨R_Rea, "countCharacters", "(J)I"⟩
abbrev b_Rea_keep : ByteArray := prog_1_method_3_code
abbrev y_Rea_keep : MethodName := ⟨R_Rea, "keep", "(I)Z"⟩
abbrev b_Rea_length : ByteArray := prog_1_method_4_code
abbrev y_Rea_length : MethodName := ⟨R_Rea, "length", "()I"⟩
abbrev b_Rea_wide : ByteArray := prog_1_method_5_code
abbrev y_Rea_wide : MethodName := ⟨R_Rea, "wide", "()Z"⟩
abbrev b_Rea_readAs : ByteArray := prog_1_method_14_code
abbrev y_Rea_readAs : MethodName := ⟨R_Rea, "readAs", "(LNearestReader$Kind;)Z"⟩
abbrev b_Num_findIn : ByteArray := prog_6_method_2_code
abbrev y_Num_findIn : MethodName := ⟨R_Num, "findIn", "(I)Z"⟩
abbrev b_Num_trim : ByteArray := prog_6_method_3_code
abbrev y_Num_trim : MethodName := ⟨R_Num, "trim", "(I)V"⟩
abbrev b_Num_here : ByteArray := prog_6_method_4_code
abbrev y_Num_here : MethodName := ⟨R_Num, "here", "()C"⟩
abbrev b_Num_isRest : ByteArray := prog_6_method_6_code
abbrev y_Num_isRest : MethodName := ⟨R_Num, "isRest", "(Ljava/lang/String;)Z"⟩
abbrev b_Str_length : ByteArray := prog_11_method_54_code
abbrev y_Str_length : MethodName := ⟨R_Str, "length", "()I"⟩
abbrev b_Str_coder : ByteArray := prog_11_method_152_code
abbrev y_Str_coder : MethodName := ⟨R_Str, "coder", "()B"⟩
abbrev b_Str_charAt : ByteArray := prog_11_method_56_code
abbrev y_Str_charAt : MethodName := ⟨R_Str, "charAt", "(I)C"⟩
abbrev b_Str_isLatin1 : ByteArray := prog_11_method_154_code
abbrev y_Str_isLatin1 : MethodName := ⟨R_Str, "isLatin1", "()Z"⟩
abbrev b_Sl1_charAt : ByteArray := prog_12_method_2_code
abbrev y_Sl1_charAt : MethodName := ⟨R_Sl1, "charAt", "([BI)C"⟩
abbrev b_Str_checkIndex : ByteArray := prog_11_method_155_code
abbrev y_Str_checkIndex : MethodName := ⟨R_Str, "checkIndex", "(II)V"⟩
abbrev b_Pre_checkIndex : ByteArray := prog_14_method_11_code
abbrev y_Pre_checkIndex : MethodName := ⟨R_Pre, "checkIndex", "(IILjava/util/function/BiFunction;)I"⟩
abbrev b_Num_findLiteral : ByteArray := prog_6_method_7_code
abbrev y_Num_findLiteral : MethodName := ⟨R_Num, "findLiteral", "()Z"⟩
abbrev b_Num_skipPrefix : ByteArray := prog_6_method_8_code
abbrev y_Num_skipPrefix : MethodName := ⟨R_Num, "skipPrefix", "()Z"⟩
abbrev b_Num_findDigits : ByteArray := prog_6_method_9_code
abbrev y_Num_findDigits : MethodName := ⟨R_Num, "findDigits", "(I)Z"⟩
abbrev b_Num_skipDigits : ByteArray := prog_6_method_10_code
abbrev y_Num_skipDigits : MethodName := ⟨R_Num, "skipDigits", "(I)I"⟩
abbrev b_Rea_digitOf : ByteArray := prog_1_method_18_code
abbrev y_Rea_digitOf : MethodName := ⟨R_Rea, "digitOf", "(C)I"⟩
abbrev b_Num_findPower : ByteArray := prog_6_method_11_code
abbrev y_Num_findPower : MethodName := ⟨R_Num, "findPower", "()Z"⟩
abbrev b_Num_isHere : ByteArray := prog_6_method_5_code
abbrev y_Num_isHere : MethodName := ⟨R_Num, "isHere", "(CC)Z"⟩
abbrev b_Rea_sizeAs : ByteArray := prog_1_method_15_code
abbrev y_Rea_sizeAs : MethodName := ⟨R_Rea, "sizeAs", "(LNearestReader$Kind;)J"⟩
abbrev b_Rea_nearestHexadecimal : ByteArray := prog_1_method_16_code
abbrev y_Rea_nearestHexadecimal : MethodName := ⟨R_Rea, "nearestHexadecimal", "(LNearestReader$Kind;)J"⟩
abbrev b_Kin_nearest : ByteArray := prog_5_method_9_code
abbrev y_Kin_nearest : MethodName := ⟨R_Kin, "nearest", "(JIZ)J"⟩
abbrev b_Rea_bitLengthOf : ByteArray := prog_1_method_19_code
abbrev y_Rea_bitLengthOf : MethodName := ⟨R_Rea, "bitLengthOf", "(J)I"⟩
abbrev b_Kin_rounded : ByteArray := prog_5_method_10_code
abbrev y_Kin_rounded : MethodName := ⟨R_Kin, "rounded", "(JIZ)J"⟩
abbrev b_Dec_nearest : ByteArray := prog_3_method_2_code
abbrev y_Dec_nearest : MethodName := ⟨R_Dec, "nearest", "(LNearestReader$Numeral;LNearestReader$Kind;)J"⟩
abbrev b_Dec_gather : ByteArray := prog_3_method_3_code
abbrev y_Dec_gather : MethodName := ⟨R_Dec, "gather", "(III)V"⟩
abbrev b_Big_set : ByteArray := prog_2_method_2_code
abbrev y_Big_set : MethodName := ⟨R_Big, "set", "(J)V"⟩
abbrev b_Big_dropZeros : ByteArray := prog_2_method_10_code
abbrev y_Big_dropZeros : MethodName := ⟨R_Big, "dropZeros", "()V"⟩
abbrev b_Dec_keepDigit : ByteArray := prog_3_method_4_code
abbrev y_Dec_keepDigit : MethodName := ⟨R_Dec, "keepDigit", "(I)V"⟩
abbrev b_Big_timesPlus : ByteArray := prog_2_method_5_code
abbrev y_Big_timesPlus : MethodName := ⟨R_Big, "timesPlus", "(II)V"⟩
abbrev b_Big_timesFives : ByteArray := prog_2_method_6_code
abbrev y_Big_timesFives : MethodName := ⟨R_Big, "timesFives", "(I)V"⟩
abbrev b_Fra_nearest : ByteArray := prog_4_method_2_code
abbrev y_Fra_nearest : MethodName := ⟨R_Fra, "nearest", "(LNearestReader$Kind;I)J"⟩
abbrev b_Big_bitLength : ByteArray := prog_2_method_4_code
abbrev y_Big_bitLength : MethodName := ⟨R_Big, "bitLength", "()I"⟩
abbrev b_Big_shiftLeft : ByteArray := prog_2_method_7_code
abbrev y_Big_shiftLeft : MethodName := ⟨R_Big, "shiftLeft", "(I)V"⟩
abbrev b_Big_isAtLeast : ByteArray := prog_2_method_8_code
abbrev y_Big_isAtLeast : MethodName := ⟨R_Big, "isAtLeast", "(LNearestReader$Big;)Z"⟩
abbrev b_Big_subtract : ByteArray := prog_2_method_9_code
abbrev y_Big_subtract : MethodName := ⟨R_Big, "subtract", "(LNearestReader$Big;)V"⟩
abbrev b_Big_isZero : ByteArray := prog_2_method_3_code
abbrev y_Big_isZero : MethodName := ⟨R_Big, "isZero", "()Z"⟩
abbrev b_Kin_signed : ByteArray := prog_5_method_7_code
abbrev y_Kin_signed : MethodName := ⟨R_Kin, "signed", "(JZ)J"⟩
abbrev b_Rea_narrow : ByteArray := prog_1_method_6_code
abbrev y_Rea_narrow : MethodName := ⟨R_Rea, "narrow", "()Z"⟩
abbrev b_Rea_bits : ByteArray := prog_1_method_7_code
abbrev y_Rea_bits : MethodName := ⟨R_Rea, "bits", "()J"⟩
abbrev b_Rea_narrowed : ByteArray := prog_1_method_8_code
abbrev y_Rea_narrowed : MethodName := ⟨R_Rea, "narrowed", "(J)J"⟩
abbrev b_Rea_converted : ByteArray := prog_1_method_17_code
abbrev y_Rea_converted : MethodName := ⟨R_Rea, "converted", "(JLNearestReader$Kind;LNearestReader$Kind;)J"⟩
abbrev b_Kin_isNone : ByteArray := prog_5_method_6_code
abbrev y_Kin_isNone : MethodName := ⟨R_Kin, "isNone", "(J)Z"⟩
abbrev b_Kin_sizeOf : ByteArray := prog_5_method_4_code
abbrev y_Kin_sizeOf : MethodName := ⟨R_Kin, "sizeOf", "(J)J"⟩
abbrev b_Kin_isBelow : ByteArray := prog_5_method_5_code
abbrev y_Kin_isBelow : MethodName := ⟨R_Kin, "isBelow", "(J)Z"⟩
abbrev b_Rea_widened : ByteArray := prog_1_method_9_code
abbrev y_Rea_widened : MethodName := ⟨R_Rea, "widened", "(J)J"⟩
abbrev b_Rea_quotient : ByteArray := prog_1_method_10_code
abbrev y_Rea_quotient : MethodName := ⟨R_Rea, "quotient", "(JJZ)J"⟩
abbrev b_Rea_compare : ByteArray := prog_1_method_11_code
abbrev y_Rea_compare : MethodName := ⟨R_Rea, "compare", "(JJZ)I"⟩
abbrev b_Kin_rank : ByteArray := prog_5_method_8_code
abbrev y_Kin_rank : MethodName := ⟨R_Kin, "rank", "(J)J"⟩
abbrev b_Rea_readings : ByteArray := prog_1_method_12_code
abbrev y_Rea_readings : MethodName := ⟨R_Rea, "readings", "()I"⟩
abbrev b_Mod_init : ByteArray := prog_8_method_1_code
abbrev y_Mod_init : MethodName := ⟨R_Mod, "<init>", "()V"⟩
abbrev b_Mod_write : ByteArray := prog_8_method_15_code
abbrev y_Mod_write : MethodName := ⟨R_Mod, "write", "(J)Z"⟩
abbrev b_Mod_keep : ByteArray := prog_8_method_16_code
abbrev y_Mod_keep : MethodName := ⟨R_Mod, "keep", "(I)Z"⟩
abbrev b_Mod_length : ByteArray := prog_8_method_17_code
abbrev y_Mod_length : MethodName := ⟨R_Mod, "length", "()I"⟩
abbrev b_Mod_wide : ByteArray := prog_8_method_29_code
abbrev y_Mod_wide : MethodName := ⟨R_Mod, "wide", "()Z"⟩
abbrev b_Mod_read : ByteArray := prog_8_method_24_code
abbrev y_Mod_read : MethodName := ⟨R_Mod, "read", "(Z)Z"⟩
abbrev b_Mod_look : ByteArray := prog_8_method_18_code
abbrev y_Mod_look : MethodName := ⟨R_Mod, "look", "(I)I"⟩
abbrev b_Mod_isWord : ByteArray := prog_8_method_22_code
abbrev y_Mod_isWord : MethodName := ⟨R_Mod, "isWord", "(IIII)Z"⟩
abbrev b_Mod_none : ByteArray := prog_8_method_11_code
abbrev y_Mod_none : MethodName := ⟨R_Mod, "none", "(Z)J"⟩
abbrev b_Mod_isInfinity : ByteArray := prog_8_method_23_code
abbrev y_Mod_isInfinity : MethodName := ⟨R_Mod, "isInfinity", "()Z"⟩
abbrev b_Mod_infinite : ByteArray := prog_8_method_10_code
abbrev y_Mod_infinite : MethodName := ⟨R_Mod, "infinite", "(Z)J"⟩
abbrev b_Mod_literal : ByteArray := prog_8_method_25_code
abbrev y_Mod_literal : MethodName := ⟨R_Mod, "literal", "(IZ)J"⟩
abbrev b_Mod_digits : ByteArray := prog_8_method_21_code
abbrev y_Mod_digits : MethodName := ⟨R_Mod, "digits", "(II)I"⟩
abbrev b_Mod_digitOf : ByteArray := prog_8_method_19_code
abbrev y_Mod_digitOf : MethodName := ⟨R_Mod, "digitOf", "(I)I"⟩
abbrev b_Mod_skips : ByteArray := prog_8_method_20_code
abbrev y_Mod_skips : MethodName := ⟨R_Mod, "skips", "(II)Z"⟩
abbrev b_Mod_sized16 : ByteArray := prog_8_method_27_code
abbrev y_Mod_sized16 : MethodName := ⟨R_Mod, "sized16", "(IIIJZ)J"⟩
abbrev b_Mod_gather : ByteArray := prog_8_method_26_code
abbrev y_Mod_gather : MethodName := ⟨R_Mod, "gather", "(IIII)V"⟩
abbrev b_Mod_set : ByteArray := prog_8_method_3_code
abbrev y_Mod_set : MethodName := ⟨R_Mod, "set", "(IJ)V"⟩
abbrev b_Mod_trim : ByteArray := prog_8_method_2_code
abbrev y_Mod_trim : MethodName := ⟨R_Mod, "trim", "(II)V"⟩
abbrev b_Mod_grow : ByteArray := prog_8_method_4_code
abbrev y_Mod_grow : MethodName := ⟨R_Mod, "grow", "(III)V"⟩
abbrev b_Mod_bitsOf : ByteArray := prog_8_method_9_code
abbrev y_Mod_bitsOf : MethodName := ⟨R_Mod, "bitsOf", "(I)I"⟩
abbrev b_Mod_raise : ByteArray := prog_8_method_5_code
abbrev y_Mod_raise : MethodName := ⟨R_Mod, "raise", "(II)V"⟩
abbrev b_Mod_nearest : ByteArray := prog_8_method_13_code
abbrev y_Mod_nearest : MethodName := ⟨R_Mod, "nearest", "(Z)J"⟩
abbrev b_Mod_compareRows : ByteArray := prog_8_method_7_code
abbrev y_Mod_compareRows : MethodName := ⟨R_Mod, "compareRows", "(II)I"⟩
abbrev b_Mod_lessen : ByteArray := prog_8_method_8_code
abbrev y_Mod_lessen : MethodName := ⟨R_Mod, "lessen", "(II)V"⟩
abbrev b_Mod_halve : ByteArray := prog_8_method_6_code
abbrev y_Mod_halve : MethodName := ⟨R_Mod, "halve", "(I)V"⟩
abbrev b_Mod_rounded : ByteArray := prog_8_method_14_code
abbrev y_Mod_rounded : MethodName := ⟨R_Mod, "rounded", "(JIZII)J"⟩
abbrev b_Mod_sized10 : ByteArray := prog_8_method_28_code
abbrev y_Mod_sized10 : MethodName := ⟨R_Mod, "sized10", "(IIIJZ)J"⟩
abbrev b_Mod_signed : ByteArray := prog_8_method_12_code
abbrev y_Mod_signed : MethodName := ⟨R_Mod, "signed", "(JZZ)J"⟩
abbrev b_Mod_narrow : ByteArray := prog_8_method_30_code
abbrev y_Mod_narrow : MethodName := ⟨R_Mod, "narrow", "()Z"⟩
abbrev b_Mod_bits : ByteArray := prog_8_method_31_code
abbrev y_Mod_bits : MethodName := ⟨R_Mod, "bits", "()J"⟩
abbrev b_Mod_readings : ByteArray := prog_8_method_32_code
abbrev y_Mod_readings : MethodName := ⟨R_Mod, "readings", "()I"⟩
abbrev b_Mod_narrowed : ByteArray := prog_8_method_34_code
abbrev y_Mod_narrowed : MethodName := ⟨R_Mod, "narrowed", "(J)J"⟩
abbrev b_Mod_load : ByteArray := prog_8_method_33_code
abbrev y_Mod_load : MethodName := ⟨R_Mod, "load", "(JII)V"⟩
abbrev b_Mod_widened : ByteArray := prog_8_method_35_code
abbrev y_Mod_widened : MethodName := ⟨R_Mod, "widened", "(J)J"⟩
abbrev b_Mod_quotient : ByteArray := prog_8_method_36_code
abbrev y_Mod_quotient : MethodName := ⟨R_Mod, "quotient", "(JJZ)J"⟩
abbrev b_Mod_compare : ByteArray := prog_8_method_37_code
abbrev y_Mod_compare : MethodName := ⟨R_Mod, "compare", "(JJZ)I"⟩
end
section
/-! THE TABLES' WORDS that go on to callees, and where each stands -/
def gws : List Cond := lw_tbl.filter goodWord
theorem tm (i : Nat) {w : Cond} (h : tables_1[i]? = some w) (g : goodWord w = true) : w ∈ gws := List.mem_filter.mpr ⟨List.mem_append_right _ (List.mem_of_getElem? h), g⟩
theorem tmS {q : MethodName × Nat} (h : q ∈ lw_privs) : Cond.selects q.1.cls q.1 q.1 ∈ gws := List.mem_filter.mpr ⟨List.mem_append_left _ (List.mem_map.mpr ⟨q, h, rfl⟩), rfl⟩
theorem gws_tbl : ∀ w ∈ gws, w ∈ lw_tbl := fun _ h => (List.mem_filter.mp h).1
theorem gws_good : GoodIn gws gws := fun _ h => ⟨h, good_of_word (List.mem_filter.mp h).2⟩
/-- a method's words: its own code, and all of these -/
def wz (y : MethodName) (b : ByteArray) (n : Nat) (r : Option FieldType) : List Cond := .code y b n r :: gws
theorem wz_good {y : MethodName} {b : ByteArray} {n : Nat} {r : Option FieldType} (h : Cond.code y b n r ∈ gws) : GoodIn gws (wz y b n r) := fun w hw => (List.mem_cons.mp hw).elim (fun e => by rw [e]; exact gws_good _ h) (fun e => gws_good w e)
theorem w_Big : ∀ w ∈ u_ws R_Big F_Big 2, w ∈ gws := by
  have h : ∀ w ∈ u_ws R_Big F_Big 2, w ∈ tables_1 ∧ goodWord w = true := by decide +kernel
  exact fun w hw => List.mem_filter.mpr ⟨List.mem_append_right _ (h w hw).1, (h w hw).2⟩
theorem w_Dec : ∀ w ∈ u_ws R_Dec F_Dec 6, w ∈ gws := by
  have h : ∀ w ∈ u_ws R_Dec F_Dec 6, w ∈ tables_1 ∧ goodWord w = true := by decide +kernel
  exact fun w hw => List.mem_filter.mpr ⟨List.mem_append_right _ (h w hw).1, (h w hw).2⟩
theorem w_Fra : ∀ w ∈ u_ws R_Fra F_Fra 2, w ∈ gws := by
  have h : ∀ w ∈ u_ws R_Fra F_Fra 2, w ∈ tables_1 ∧ goodWord w = true := by decide +kernel
  exact fun w hw => List.mem_filter.mpr ⟨List.mem_append_right _ (h w hw).1, (h w hw).2⟩
theorem w_Num : ∀ w ∈ u_ws R_Num F_Num 8, w ∈ gws := by
  have h : ∀ w ∈ u_ws R_Num F_Num 8, w ∈ tables_1 ∧ goodWord w = true := by decide +kernel
  exact fun w hw => List.mem_filter.mpr ⟨List.mem_append_right _ (h w hw).1, (h w hw).2⟩
theorem w_Rea : ∀ w ∈ u_ws R_Rea F_Rea 7, w ∈ gws := by
  have h : ∀ w ∈ u_ws R_Rea F_Rea 7, w ∈ tables_1 ∧ goodWord w = true := by decide +kernel
  exact fun w hw => List.mem_filter.mpr ⟨List.mem_append_right _ (h w hw).1, (h w hw).2⟩
theorem w_Mod : ∀ w ∈ u_ws R_Mod F_Mod 8, w ∈ gws := by
  have h : ∀ w ∈ u_ws R_Mod F_Mod 8, w ∈ tables_1 ∧ goodWord w = true := by decide +kernel
  exact fun w hw => List.mem_filter.mpr ⟨List.mem_append_right _ (h w hw).1, (h w hw).2⟩
set_option maxRecDepth 100000 in
theorem kC_Rea_init : Cond.code y_Rea_init b_Rea_init 1 none ∈ gws := tm 18 rfl rfl
theorem kI_Rea_init : Cond.instanceMethod y_Rea_init ∈ gws := tm 17 (by decide +kernel) rfl
set_option maxRecDepth 100000 in
theorem kC_Num_init : Cond.code y_Num_init b_Num_init 2 none ∈ gws := tm 26 rfl rfl
theorem kI_Num_init : Cond.instanceMethod y_Num_init ∈ gws := tm 25 (by decide +kernel) rfl
set_option maxRecDepth 100000 in
theorem kC_Fra_init : Cond.code y_Fra_init b_Fra_init 1 none ∈ gws := tm 66 rfl rfl
theorem kI_Fra_init : Cond.instanceMethod y_Fra_init ∈ gws := tm 65 (by decide +kernel) rfl
set_option maxRecDepth 100000 in
theorem kC_Big_init : Cond.code y_Big_init b_Big_init 1 none ∈ gws := tm 72 rfl rfl
theorem kI_Big_init : Cond.instanceMethod y_Big_init ∈ gws := tm 71 (by decide +kernel) rfl
set_option maxRecDepth 100000 in
theorem kC_Dec_init : Cond.code y_Dec_init b_Dec_init 3 none ∈ gws := tm 97 rfl rfl
theorem kI_Dec_init : Cond.instanceMethod y_Dec_init ∈ gws := tm 96 (by decide +kernel) rfl
set_option maxRecDepth 100000 in
theorem kC_Rea_write : Cond.code y_Rea_write b_Rea_write 5 (some .boolean) ∈ gws := tm 143 rfl rfl
theorem kI_Rea_write : Cond.instanceMethod y_Rea_write ∈ gws := tm 141 (by decide +kernel) rfl
theorem kS_Rea_write : Cond.selects R_Rea y_Rea_write y_Rea_write ∈ gws := tm 142 (by decide +kernel) rfl
set_option maxRecDepth 100000 in
theorem kC_Rea_countCharacters : Cond.code y_Rea_countCharacters b_Rea_countCharacters 4 (some .int) ∈ gws := tm 146 rfl rfl
theorem kT_Rea_countCharacters : Cond.static y_Rea_countCharacters ∈ gws := tm 145 (by decide +kernel) rfl
set_option maxRecDepth 100000 in
theorem kC_Rea_keep : Cond.code y_Rea_keep b_Rea_keep 2 (some .boolean) ∈ gws := tm 151 rfl rfl
theorem kI_Rea_keep : Cond.instanceMethod y_Rea_keep ∈ gws := tm 149 (by decide +kernel) rfl
theorem kS_Rea_keep : Cond.selects R_Rea y_Rea_keep y_Rea_keep ∈ gws := tm 150 (by decide +kernel) rfl
set_option maxRecDepth 100000 in
theorem kC_Rea_length : Cond.code y_Rea_length b_Rea_length 1 (some .int) ∈ gws := tm 155 rfl rfl
theorem kI_Rea_length : Cond.instanceMethod y_Rea_length ∈ gws := tm 153 (by decide +kernel) rfl
theorem kS_Rea_length : Cond.selects R_Rea y_Rea_length y_Rea_length ∈ gws := tm 154 (by decide +kernel) rfl
set_option maxRecDepth 100000 in
theorem kC_Rea_wide : Cond.code y_Rea_wide b_Rea_wide 1 (some .boolean) ∈ gws := tm 159 rfl rfl
theorem kI_Rea_wide : Cond.instanceMethod y_Rea_wide ∈ gws := tm 157 (by decide +kernel) rfl
theorem kS_Rea_wide : Cond.selects R_Rea y_Rea_wide y_Rea_wide ∈ gws := tm 158 (by decide +kernel) rfl
set_option maxRecDepth 100000 in
theorem kC_Rea_readAs : Cond.code y_Rea_readAs b_Rea_readAs 2 (some .boolean) ∈ gws := tm 165 rfl rfl
theorem kI_Rea_readAs : Cond.instanceMethod y_Rea_readAs ∈ gws := tm 164 (by decide +kernel) rfl
theorem kS_Rea_readAs : Cond.selects R_Rea y_Rea_readAs y_Rea_readAs ∈ gws := tmS (q := (y_Rea_readAs, 7)) (by decide +kernel)
set_option maxRecDepth 100000 in
theorem kC_Num_findIn : Cond.code y_Num_findIn b_Num_findIn 2 (some .boolean) ∈ gws := tm 169 rfl rfl
theorem kI_Num_findIn : Cond.instanceMethod y_Num_findIn ∈ gws := tm 167 (by decide +kernel) rfl
theorem kS_Num_findIn : Cond.selects R_Num y_Num_findIn y_Num_findIn ∈ gws := tm 168 (by decide +kernel) rfl
set_option maxRecDepth 100000 in
theorem kC_Num_trim : Cond.code y_Num_trim b_Num_trim 2 none ∈ gws := tm 173 rfl rfl
theorem kI_Num_trim : Cond.instanceMethod y_Num_trim ∈ gws := tm 172 (by decide +kernel) rfl
theorem kS_Num_trim : Cond.selects R_Num y_Num_trim y_Num_trim ∈ gws := tmS (q := (y_Num_trim, 8)) (by decide +kernel)
set_option maxRecDepth 100000 in
theorem kC_Num_here : Cond.code y_Num_here b_Num_here 1 (some .char) ∈ gws := tm 180 rfl rfl
theorem kI_Num_here : Cond.instanceMethod y_Num_here ∈ gws := tm 179 (by decide +kernel) rfl
theorem kS_Num_here : Cond.selects R_Num y_Num_here y_Num_here ∈ gws := tmS (q := (y_Num_here, 8)) (by decide +kernel)
set_option maxRecDepth 100000 in
theorem kC_Num_isRest : Cond.code y_Num_isRest b_Num_isRest 3 (some .boolean) ∈ gws := tm 185 rfl rfl
theorem kI_Num_isRest : Cond.instanceMethod y_Num_isRest ∈ gws := tm 184 (by decide +kernel) rfl
theorem kS_Num_isRest : Cond.selects R_Num y_Num_isRest y_Num_isRest ∈ gws := tmS (q := (y_Num_isRest, 8)) (by decide +kernel)
set_option maxRecDepth 100000 in
theorem kC_Str_length : Cond.code y_Str_length b_Str_length 1 (some .int) ∈ gws := tm 189 rfl rfl
theorem kI_Str_length : Cond.instanceMethod y_Str_length ∈ gws := tm 187 (by decide +kernel) rfl
theorem kS_Str_length : Cond.selects R_Str y_Str_length y_Str_length ∈ gws := tm 188 (by decide +kernel) rfl
set_option maxRecDepth 100000 in
theorem kC_Str_coder : Cond.code y_Str_coder b_Str_coder 1 (some .byte) ∈ gws := tm 193 rfl rfl
theorem kI_Str_coder : Cond.instanceMethod y_Str_coder ∈ gws := tm 191 (by decide +kernel) rfl
theorem kS_Str_coder : Cond.selects R_Str y_Str_coder y_Str_coder ∈ gws := tm 192 (by decide +kernel) rfl
set_option maxRecDepth 100000 in
theorem kC_Str_charAt : Cond.code y_Str_charAt b_Str_charAt 2 (some .char) ∈ gws := tm 199 rfl rfl
theorem kI_Str_charAt : Cond.instanceMethod y_Str_charAt ∈ gws := tm 197 (by decide +kernel) rfl
theorem kS_Str_charAt : Cond.selects R_Str y_Str_charAt y_Str_charAt ∈ gws := tm 198 (by decide +kernel) rfl
set_option maxRecDepth 100000 in
theorem kC_Str_isLatin1 : Cond.code y_Str_isLatin1 b_Str_isLatin1 1 (some .boolean) ∈ gws := tm 203 rfl rfl
theorem kI_Str_isLatin1 : Cond.instanceMethod y_Str_isLatin1 ∈ gws := tm 201 (by decide +kernel) rfl
theorem kS_Str_isLatin1 : Cond.selects R_Str y_Str_isLatin1 y_Str_isLatin1 ∈ gws := tm 202 (by decide +kernel) rfl
set_option maxRecDepth 100000 in
theorem kC_Sl1_charAt : Cond.code y_Sl1_charAt b_Sl1_charAt 2 (some .char) ∈ gws := tm 206 rfl rfl
theorem kT_Sl1_charAt : Cond.static y_Sl1_charAt ∈ gws := tm 205 (by decide +kernel) rfl
set_option maxRecDepth 100000 in
theorem kC_Str_checkIndex : Cond.code y_Str_checkIndex b_Str_checkIndex 2 none ∈ gws := tm 209 rfl rfl
theorem kT_Str_checkIndex : Cond.static y_Str_checkIndex ∈ gws := tm 208 (by decide +kernel) rfl
set_option maxRecDepth 100000 in
theorem kC_Pre_checkIndex : Cond.code y_Pre_checkIndex b_Pre_checkIndex 3 (some .int) ∈ gws := tm 214 rfl rfl
theorem kT_Pre_checkIndex : Cond.static y_Pre_checkIndex ∈ gws := tm 213 (by decide +kernel) rfl
set_option maxRecDepth 100000 in
theorem kC_Num_findLiteral : Cond.code y_Num_findLiteral b_Num_findLiteral 1 (some .boolean) ∈ gws := tm 238 rfl rfl
theorem kI_Num_findLiteral : Cond.instanceMethod y_Num_findLiteral ∈ gws := tm 237 (by decide +kernel) rfl
theorem kS_Num_findLiteral : Cond.selects R_Num y_Num_findLiteral y_Num_findLiteral ∈ gws := tmS (q := (y_Num_findLiteral, 8)) (by decide +kernel)
set_option maxRecDepth 100000 in
theorem kC_Num_skipPrefix : Cond.code y_Num_skipPrefix b_Num_skipPrefix 1 (some .boolean) ∈ gws := tm 242 rfl rfl
theorem kI_Num_skipPrefix : Cond.instanceMethod y_Num_skipPrefix ∈ gws := tm 241 (by decide +kernel) rfl
theorem kS_Num_skipPrefix : Cond.selects R_Num y_Num_skipPrefix y_Num_skipPrefix ∈ gws := tmS (q := (y_Num_skipPrefix, 8)) (by decide +kernel)
set_option maxRecDepth 100000 in
theorem kC_Num_findDigits : Cond.code y_Num_findDigits b_Num_findDigits 3 (some .boolean) ∈ gws := tm 246 rfl rfl
theorem kI_Num_findDigits : Cond.instanceMethod y_Num_findDigits ∈ gws := tm 245 (by decide +kernel) rfl
theorem kS_Num_findDigits : Cond.selects R_Num y_Num_findDigits y_Num_findDigits ∈ gws := tmS (q := (y_Num_findDigits, 8)) (by decide +kernel)
set_option maxRecDepth 100000 in
theorem kC_Num_skipDigits : Cond.code y_Num_skipDigits b_Num_skipDigits 3 (some .int) ∈ gws := tm 250 rfl rfl
theorem kI_Num_skipDigits : Cond.instanceMethod y_Num_skipDigits ∈ gws := tm 249 (by decide +kernel) rfl
theorem kS_Num_skipDigits : Cond.selects R_Num y_Num_skipDigits y_Num_skipDigits ∈ gws := tmS (q := (y_Num_skipDigits, 8)) (by decide +kernel)
set_option maxRecDepth 100000 in
theorem kC_Rea_digitOf : Cond.code y_Rea_digitOf b_Rea_digitOf 1 (some .int) ∈ gws := tm 253 rfl rfl
theorem kT_Rea_digitOf : Cond.static y_Rea_digitOf ∈ gws := tm 252 (by decide +kernel) rfl
set_option maxRecDepth 100000 in
theorem kC_Num_findPower : Cond.code y_Num_findPower b_Num_findPower 4 (some .boolean) ∈ gws := tm 257 rfl rfl
theorem kI_Num_findPower : Cond.instanceMethod y_Num_findPower ∈ gws := tm 256 (by decide +kernel) rfl
theorem kS_Num_findPower : Cond.selects R_Num y_Num_findPower y_Num_findPower ∈ gws := tmS (q := (y_Num_findPower, 8)) (by decide +kernel)
set_option maxRecDepth 100000 in
theorem kC_Num_isHere : Cond.code y_Num_isHere b_Num_isHere 3 (some .boolean) ∈ gws := tm 261 rfl rfl
theorem kI_Num_isHere : Cond.instanceMethod y_Num_isHere ∈ gws := tm 260 (by decide +kernel) rfl
theorem kS_Num_isHere : Cond.selects R_Num y_Num_isHere y_Num_isHere ∈ gws := tmS (q := (y_Num_isHere, 8)) (by decide +kernel)
set_option maxRecDepth 100000 in
theorem kC_Rea_sizeAs : Cond.code y_Rea_sizeAs b_Rea_sizeAs 2 (some .long) ∈ gws := tm 266 rfl rfl
theorem kI_Rea_sizeAs : Cond.instanceMethod y_Rea_sizeAs ∈ gws := tm 265 (by decide +kernel) rfl
theorem kS_Rea_sizeAs : Cond.selects R_Rea y_Rea_sizeAs y_Rea_sizeAs ∈ gws := tmS (q := (y_Rea_sizeAs, 7)) (by decide +kernel)
set_option maxRecDepth 100000 in
theorem kC_Rea_nearestHexadecimal : Cond.code y_Rea_nearestHexadecimal b_Rea_nearestHexadecimal 9 (some .long) ∈ gws := tm 270 rfl rfl
theorem kI_Rea_nearestHexadecimal : Cond.instanceMethod y_Rea_nearestHexadecimal ∈ gws := tm 269 (by decide +kernel) rfl
theorem kS_Rea_nearestHexadecimal : Cond.selects R_Rea y_Rea_nearestHexadecimal y_Rea_nearestHexadecimal ∈ gws := tmS (q := (y_Rea_nearestHexadecimal, 7)) (by decide +kernel)
set_option maxRecDepth 100000 in
theorem kC_Kin_nearest : Cond.code y_Kin_nearest b_Kin_nearest 8 (some .long) ∈ gws := tm 275 rfl rfl
theorem kI_Kin_nearest : Cond.instanceMethod y_Kin_nearest ∈ gws := tm 273 (by decide +kernel) rfl
theorem kS_Kin_nearest : Cond.selects R_Kin y_Kin_nearest y_Kin_nearest ∈ gws := tm 274 (by decide +kernel) rfl
set_option maxRecDepth 100000 in
theorem kC_Rea_bitLengthOf : Cond.code y_Rea_bitLengthOf b_Rea_bitLengthOf 6 (some .int) ∈ gws := tm 278 rfl rfl
theorem kT_Rea_bitLengthOf : Cond.static y_Rea_bitLengthOf ∈ gws := tm 277 (by decide +kernel) rfl
set_option maxRecDepth 100000 in
theorem kC_Kin_rounded : Cond.code y_Kin_rounded b_Kin_rounded 11 (some .long) ∈ gws := tm 284 rfl rfl
theorem kT_Kin_rounded : Cond.static y_Kin_rounded ∈ gws := tm 283 (by decide +kernel) rfl
set_option maxRecDepth 100000 in
theorem kC_Dec_nearest : Cond.code y_Dec_nearest b_Dec_nearest 5 (some .long) ∈ gws := tm 288 rfl rfl
theorem kI_Dec_nearest : Cond.instanceMethod y_Dec_nearest ∈ gws := tm 286 (by decide +kernel) rfl
theorem kS_Dec_nearest : Cond.selects R_Dec y_Dec_nearest y_Dec_nearest ∈ gws := tm 287 (by decide +kernel) rfl
set_option maxRecDepth 100000 in
theorem kC_Dec_gather : Cond.code y_Dec_gather b_Dec_gather 8 none ∈ gws := tm 292 rfl rfl
theorem kI_Dec_gather : Cond.instanceMethod y_Dec_gather ∈ gws := tm 291 (by decide +kernel) rfl
theorem kS_Dec_gather : Cond.selects R_Dec y_Dec_gather y_Dec_gather ∈ gws := tmS (q := (y_Dec_gather, 6)) (by decide +kernel)
set_option maxRecDepth 100000 in
theorem kC_Big_set : Cond.code y_Big_set b_Big_set 3 none ∈ gws := tm 296 rfl rfl
theorem kI_Big_set : Cond.instanceMethod y_Big_set ∈ gws := tm 294 (by decide +kernel) rfl
theorem kS_Big_set : Cond.selects R_Big y_Big_set y_Big_set ∈ gws := tm 295 (by decide +kernel) rfl
set_option maxRecDepth 100000 in
theorem kC_Big_dropZeros : Cond.code y_Big_dropZeros b_Big_dropZeros 1 none ∈ gws := tm 300 rfl rfl
theorem kI_Big_dropZeros : Cond.instanceMethod y_Big_dropZeros ∈ gws := tm 299 (by decide +kernel) rfl
theorem kS_Big_dropZeros : Cond.selects R_Big y_Big_dropZeros y_Big_dropZeros ∈ gws := tmS (q := (y_Big_dropZeros, 2)) (by decide +kernel)
set_option maxRecDepth 100000 in
theorem kC_Dec_keepDigit : Cond.code y_Dec_keepDigit b_Dec_keepDigit 2 none ∈ gws := tm 304 rfl rfl
theorem kI_Dec_keepDigit : Cond.instanceMethod y_Dec_keepDigit ∈ gws := tm 303 (by decide +kernel) rfl
theorem kS_Dec_keepDigit : Cond.selects R_Dec y_Dec_keepDigit y_Dec_keepDigit ∈ gws := tmS (q := (y_Dec_keepDigit, 6)) (by decide +kernel)
set_option maxRecDepth 100000 in
theorem kC_Big_timesPlus : Cond.code y_Big_timesPlus b_Big_timesPlus 6 none ∈ gws := tm 309 rfl rfl
theorem kI_Big_timesPlus : Cond.instanceMethod y_Big_timesPlus ∈ gws := tm 307 (by decide +kernel) rfl
theorem kS_Big_timesPlus : Cond.selects R_Big y_Big_timesPlus y_Big_timesPlus ∈ gws := tm 308 (by decide +kernel) rfl
set_option maxRecDepth 100000 in
theorem kC_Big_timesFives : Cond.code y_Big_timesFives b_Big_timesFives 3 none ∈ gws := tm 314 rfl rfl
theorem kI_Big_timesFives : Cond.instanceMethod y_Big_timesFives ∈ gws := tm 312 (by decide +kernel) rfl
theorem kS_Big_timesFives : Cond.selects R_Big y_Big_timesFives y_Big_timesFives ∈ gws := tm 313 (by decide +kernel) rfl
set_option maxRecDepth 100000 in
theorem kC_Fra_nearest : Cond.code y_Fra_nearest b_Fra_nearest 8 (some .long) ∈ gws := tm 320 rfl rfl
theorem kI_Fra_nearest : Cond.instanceMethod y_Fra_nearest ∈ gws := tm 318 (by decide +kernel) rfl
theorem kS_Fra_nearest : Cond.selects R_Fra y_Fra_nearest y_Fra_nearest ∈ gws := tm 319 (by decide +kernel) rfl
set_option maxRecDepth 100000 in
theorem kC_Big_bitLength : Cond.code y_Big_bitLength b_Big_bitLength 1 (some .int) ∈ gws := tm 324 rfl rfl
theorem kI_Big_bitLength : Cond.instanceMethod y_Big_bitLength ∈ gws := tm 322 (by decide +kernel) rfl
theorem kS_Big_bitLength : Cond.selects R_Big y_Big_bitLength y_Big_bitLength ∈ gws := tm 323 (by decide +kernel) rfl
set_option maxRecDepth 100000 in
theorem kC_Big_shiftLeft : Cond.code y_Big_shiftLeft b_Big_shiftLeft 9 none ∈ gws := tm 329 rfl rfl
theorem kI_Big_shiftLeft : Cond.instanceMethod y_Big_shiftLeft ∈ gws := tm 327 (by decide +kernel) rfl
theorem kS_Big_shiftLeft : Cond.selects R_Big y_Big_shiftLeft y_Big_shiftLeft ∈ gws := tm 328 (by decide +kernel) rfl
set_option maxRecDepth 100000 in
theorem kC_Big_isAtLeast : Cond.code y_Big_isAtLeast b_Big_isAtLeast 3 (some .boolean) ∈ gws := tm 333 rfl rfl
theorem kI_Big_isAtLeast : Cond.instanceMethod y_Big_isAtLeast ∈ gws := tm 331 (by decide +kernel) rfl
theorem kS_Big_isAtLeast : Cond.selects R_Big y_Big_isAtLeast y_Big_isAtLeast ∈ gws := tm 332 (by decide +kernel) rfl
set_option maxRecDepth 100000 in
theorem kC_Big_subtract : Cond.code y_Big_subtract b_Big_subtract 9 none ∈ gws := tm 337 rfl rfl
theorem kI_Big_subtract : Cond.instanceMethod y_Big_subtract ∈ gws := tm 335 (by decide +kernel) rfl
theorem kS_Big_subtract : Cond.selects R_Big y_Big_subtract y_Big_subtract ∈ gws := tm 336 (by decide +kernel) rfl
set_option maxRecDepth 100000 in
theorem kC_Big_isZero : Cond.code y_Big_isZero b_Big_isZero 1 (some .boolean) ∈ gws := tm 342 rfl rfl
theorem kI_Big_isZero : Cond.instanceMethod y_Big_isZero ∈ gws := tm 340 (by decide +kernel) rfl
theorem kS_Big_isZero : Cond.selects R_Big y_Big_isZero y_Big_isZero ∈ gws := tm 341 (by decide +kernel) rfl
set_option maxRecDepth 100000 in
theorem kC_Kin_signed : Cond.code y_Kin_signed b_Kin_signed 4 (some .long) ∈ gws := tm 347 rfl rfl
theorem kI_Kin_signed : Cond.instanceMethod y_Kin_signed ∈ gws := tm 345 (by decide +kernel) rfl
theorem kS_Kin_signed : Cond.selects R_Kin y_Kin_signed y_Kin_signed ∈ gws := tm 346 (by decide +kernel) rfl
set_option maxRecDepth 100000 in
theorem kC_Rea_narrow : Cond.code y_Rea_narrow b_Rea_narrow 1 (some .boolean) ∈ gws := tm 352 rfl rfl
theorem kI_Rea_narrow : Cond.instanceMethod y_Rea_narrow ∈ gws := tm 350 (by decide +kernel) rfl
theorem kS_Rea_narrow : Cond.selects R_Rea y_Rea_narrow y_Rea_narrow ∈ gws := tm 351 (by decide +kernel) rfl
set_option maxRecDepth 100000 in
theorem kC_Rea_bits : Cond.code y_Rea_bits b_Rea_bits 1 (some .long) ∈ gws := tm 358 rfl rfl
theorem kI_Rea_bits : Cond.instanceMethod y_Rea_bits ∈ gws := tm 356 (by decide +kernel) rfl
theorem kS_Rea_bits : Cond.selects R_Rea y_Rea_bits y_Rea_bits ∈ gws := tm 357 (by decide +kernel) rfl
set_option maxRecDepth 100000 in
theorem kC_Rea_narrowed : Cond.code y_Rea_narrowed b_Rea_narrowed 3 (some .long) ∈ gws := tm 362 rfl rfl
theorem kI_Rea_narrowed : Cond.instanceMethod y_Rea_narrowed ∈ gws := tm 360 (by decide +kernel) rfl
theorem kS_Rea_narrowed : Cond.selects R_Rea y_Rea_narrowed y_Rea_narrowed ∈ gws := tm 361 (by decide +kernel) rfl
set_option maxRecDepth 100000 in
theorem kC_Rea_converted : Cond.code y_Rea_converted b_Rea_converted 12 (some .long) ∈ gws := tm 365 rfl rfl
theorem kT_Rea_converted : Cond.static y_Rea_converted ∈ gws := tm 364 (by decide +kernel) rfl
set_option maxRecDepth 100000 in
theorem kC_Kin_isNone : Cond.code y_Kin_isNone b_Kin_isNone 3 (some .boolean) ∈ gws := tm 369 rfl rfl
theorem kI_Kin_isNone : Cond.instanceMethod y_Kin_isNone ∈ gws := tm 367 (by decide +kernel) rfl
theorem kS_Kin_isNone : Cond.selects R_Kin y_Kin_isNone y_Kin_isNone ∈ gws := tm 368 (by decide +kernel) rfl
set_option maxRecDepth 100000 in
theorem kC_Kin_sizeOf : Cond.code y_Kin_sizeOf b_Kin_sizeOf 3 (some .long) ∈ gws := tm 373 rfl rfl
theorem kI_Kin_sizeOf : Cond.instanceMethod y_Kin_sizeOf ∈ gws := tm 371 (by decide +kernel) rfl
theorem kS_Kin_sizeOf : Cond.selects R_Kin y_Kin_sizeOf y_Kin_sizeOf ∈ gws := tm 372 (by decide +kernel) rfl
set_option maxRecDepth 100000 in
theorem kC_Kin_isBelow : Cond.code y_Kin_isBelow b_Kin_isBelow 3 (some .boolean) ∈ gws := tm 378 rfl rfl
theorem kI_Kin_isBelow : Cond.instanceMethod y_Kin_isBelow ∈ gws := tm 376 (by decide +kernel) rfl
theorem kS_Kin_isBelow : Cond.selects R_Kin y_Kin_isBelow y_Kin_isBelow ∈ gws := tm 377 (by decide +kernel) rfl
set_option maxRecDepth 100000 in
theorem kC_Rea_widened : Cond.code y_Rea_widened b_Rea_widened 3 (some .long) ∈ gws := tm 382 rfl rfl
theorem kI_Rea_widened : Cond.instanceMethod y_Rea_widened ∈ gws := tm 380 (by decide +kernel) rfl
theorem kS_Rea_widened : Cond.selects R_Rea y_Rea_widened y_Rea_widened ∈ gws := tm 381 (by decide +kernel) rfl
set_option maxRecDepth 100000 in
theorem kC_Rea_quotient : Cond.code y_Rea_quotient b_Rea_quotient 7 (some .long) ∈ gws := tm 386 rfl rfl
theorem kI_Rea_quotient : Cond.instanceMethod y_Rea_quotient ∈ gws := tm 384 (by decide +kernel) rfl
theorem kS_Rea_quotient : Cond.selects R_Rea y_Rea_quotient y_Rea_quotient ∈ gws := tm 385 (by decide +kernel) rfl
set_option maxRecDepth 100000 in
theorem kC_Rea_compare : Cond.code y_Rea_compare b_Rea_compare 11 (some .int) ∈ gws := tm 392 rfl rfl
theorem kI_Rea_compare : Cond.instanceMethod y_Rea_compare ∈ gws := tm 390 (by decide +kernel) rfl
theorem kS_Rea_compare : Cond.selects R_Rea y_Rea_compare y_Rea_compare ∈ gws := tm 391 (by decide +kernel) rfl
set_option maxRecDepth 100000 in
theorem kC_Kin_rank : Cond.code y_Kin_rank b_Kin_rank 3 (some .long) ∈ gws := tm 396 rfl rfl
theorem kI_Kin_rank : Cond.instanceMethod y_Kin_rank ∈ gws := tm 394 (by decide +kernel) rfl
theorem kS_Kin_rank : Cond.selects R_Kin y_Kin_rank y_Kin_rank ∈ gws := tm 395 (by decide +kernel) rfl
set_option maxRecDepth 100000 in
theorem kC_Rea_readings : Cond.code y_Rea_readings b_Rea_readings 1 (some .int) ∈ gws := tm 401 rfl rfl
theorem kI_Rea_readings : Cond.instanceMethod y_Rea_readings ∈ gws := tm 399 (by decide +kernel) rfl
theorem kS_Rea_readings : Cond.selects R_Rea y_Rea_readings y_Rea_readings ∈ gws := tm 400 (by decide +kernel) rfl
set_option maxRecDepth 100000 in
theorem kC_Mod_init : Cond.code y_Mod_init b_Mod_init 1 none ∈ gws := tm 406 rfl rfl
theorem kI_Mod_init : Cond.instanceMethod y_Mod_init ∈ gws := tm 405 (by decide +kernel) rfl
set_option maxRecDepth 100000 in
theorem kC_Mod_write : Cond.code y_Mod_write b_Mod_write 6 (some .boolean) ∈ gws := tm 436 rfl rfl
theorem kI_Mod_write : Cond.instanceMethod y_Mod_write ∈ gws := tm 434 (by decide +kernel) rfl
theorem kS_Mod_write : Cond.selects R_Mod y_Mod_write y_Mod_write ∈ gws := tm 435 (by decide +kernel) rfl
set_option maxRecDepth 100000 in
theorem kC_Mod_keep : Cond.code y_Mod_keep b_Mod_keep 2 (some .boolean) ∈ gws := tm 441 rfl rfl
theorem kI_Mod_keep : Cond.instanceMethod y_Mod_keep ∈ gws := tm 439 (by decide +kernel) rfl
theorem kS_Mod_keep : Cond.selects R_Mod y_Mod_keep y_Mod_keep ∈ gws := tm 440 (by decide +kernel) rfl
set_option maxRecDepth 100000 in
theorem kC_Mod_length : Cond.code y_Mod_length b_Mod_length 1 (some .int) ∈ gws := tm 445 rfl rfl
theorem kI_Mod_length : Cond.instanceMethod y_Mod_length ∈ gws := tm 443 (by decide +kernel) rfl
theorem kS_Mod_length : Cond.selects R_Mod y_Mod_length y_Mod_length ∈ gws := tm 444 (by decide +kernel) rfl
set_option maxRecDepth 100000 in
theorem kC_Mod_wide : Cond.code y_Mod_wide b_Mod_wide 1 (some .boolean) ∈ gws := tm 449 rfl rfl
theorem kI_Mod_wide : Cond.instanceMethod y_Mod_wide ∈ gws := tm 447 (by decide +kernel) rfl
theorem kS_Mod_wide : Cond.selects R_Mod y_Mod_wide y_Mod_wide ∈ gws := tm 448 (by decide +kernel) rfl
set_option maxRecDepth 100000 in
theorem kC_Mod_read : Cond.code y_Mod_read b_Mod_read 6 (some .boolean) ∈ gws := tm 453 rfl rfl
theorem kI_Mod_read : Cond.instanceMethod y_Mod_read ∈ gws := tm 452 (by decide +kernel) rfl
theorem kS_Mod_read : Cond.selects R_Mod y_Mod_read y_Mod_read ∈ gws := tmS (q := (y_Mod_read, 8)) (by decide +kernel)
set_option maxRecDepth 100000 in
theorem kC_Mod_look : Cond.code y_Mod_look b_Mod_look 2 (some .int) ∈ gws := tm 457 rfl rfl
theorem kI_Mod_look : Cond.instanceMethod y_Mod_look ∈ gws := tm 456 (by decide +kernel) rfl
theorem kS_Mod_look : Cond.selects R_Mod y_Mod_look y_Mod_look ∈ gws := tmS (q := (y_Mod_look, 8)) (by decide +kernel)
set_option maxRecDepth 100000 in
theorem kC_Mod_isWord : Cond.code y_Mod_isWord b_Mod_isWord 5 (some .boolean) ∈ gws := tm 461 rfl rfl
theorem kI_Mod_isWord : Cond.instanceMethod y_Mod_isWord ∈ gws := tm 460 (by decide +kernel) rfl
theorem kS_Mod_isWord : Cond.selects R_Mod y_Mod_isWord y_Mod_isWord ∈ gws := tmS (q := (y_Mod_isWord, 8)) (by decide +kernel)
set_option maxRecDepth 100000 in
theorem kC_Mod_none : Cond.code y_Mod_none b_Mod_none 1 (some .long) ∈ gws := tm 464 rfl rfl
theorem kT_Mod_none : Cond.static y_Mod_none ∈ gws := tm 463 (by decide +kernel) rfl
set_option maxRecDepth 100000 in
theorem kC_Mod_isInfinity : Cond.code y_Mod_isInfinity b_Mod_isInfinity 1 (some .boolean) ∈ gws := tm 470 rfl rfl
theorem kI_Mod_isInfinity : Cond.instanceMethod y_Mod_isInfinity ∈ gws := tm 469 (by decide +kernel) rfl
theorem kS_Mod_isInfinity : Cond.selects R_Mod y_Mod_isInfinity y_Mod_isInfinity ∈ gws := tmS (q := (y_Mod_isInfinity, 8)) (by decide +kernel)
set_option maxRecDepth 100000 in
theorem kC_Mod_infinite : Cond.code y_Mod_infinite b_Mod_infinite 1 (some .long) ∈ gws := tm 473 rfl rfl
theorem kT_Mod_infinite : Cond.static y_Mod_infinite ∈ gws := tm 472 (by decide +kernel) rfl
set_option maxRecDepth 100000 in
theorem kC_Mod_literal : Cond.code y_Mod_literal b_Mod_literal 13 (some .long) ∈ gws := tm 479 rfl rfl
theorem kI_Mod_literal : Cond.instanceMethod y_Mod_literal ∈ gws := tm 478 (by decide +kernel) rfl
theorem kS_Mod_literal : Cond.selects R_Mod y_Mod_literal y_Mod_literal ∈ gws := tmS (q := (y_Mod_literal, 8)) (by decide +kernel)
set_option maxRecDepth 100000 in
theorem kC_Mod_digits : Cond.code y_Mod_digits b_Mod_digits 4 (some .int) ∈ gws := tm 483 rfl rfl
theorem kI_Mod_digits : Cond.instanceMethod y_Mod_digits ∈ gws := tm 482 (by decide +kernel) rfl
theorem kS_Mod_digits : Cond.selects R_Mod y_Mod_digits y_Mod_digits ∈ gws := tmS (q := (y_Mod_digits, 8)) (by decide +kernel)
set_option maxRecDepth 100000 in
theorem kC_Mod_digitOf : Cond.code y_Mod_digitOf b_Mod_digitOf 1 (some .int) ∈ gws := tm 486 rfl rfl
theorem kT_Mod_digitOf : Cond.static y_Mod_digitOf ∈ gws := tm 485 (by decide +kernel) rfl
set_option maxRecDepth 100000 in
theorem kC_Mod_skips : Cond.code y_Mod_skips b_Mod_skips 3 (some .boolean) ∈ gws := tm 490 rfl rfl
theorem kI_Mod_skips : Cond.instanceMethod y_Mod_skips ∈ gws := tm 489 (by decide +kernel) rfl
theorem kS_Mod_skips : Cond.selects R_Mod y_Mod_skips y_Mod_skips ∈ gws := tmS (q := (y_Mod_skips, 8)) (by decide +kernel)
set_option maxRecDepth 100000 in
theorem kC_Mod_sized16 : Cond.code y_Mod_sized16 b_Mod_sized16 9 (some .long) ∈ gws := tm 498 rfl rfl
theorem kI_Mod_sized16 : Cond.instanceMethod y_Mod_sized16 ∈ gws := tm 497 (by decide +kernel) rfl
theorem kS_Mod_sized16 : Cond.selects R_Mod y_Mod_sized16 y_Mod_sized16 ∈ gws := tmS (q := (y_Mod_sized16, 8)) (by decide +kernel)
set_option maxRecDepth 100000 in
theorem kC_Mod_gather : Cond.code y_Mod_gather b_Mod_gather 6 none ∈ gws := tm 502 rfl rfl
theorem kI_Mod_gather : Cond.instanceMethod y_Mod_gather ∈ gws := tm 501 (by decide +kernel) rfl
theorem kS_Mod_gather : Cond.selects R_Mod y_Mod_gather y_Mod_gather ∈ gws := tmS (q := (y_Mod_gather, 8)) (by decide +kernel)
set_option maxRecDepth 100000 in
theorem kC_Mod_set : Cond.code y_Mod_set b_Mod_set 5 none ∈ gws := tm 506 rfl rfl
theorem kI_Mod_set : Cond.instanceMethod y_Mod_set ∈ gws := tm 505 (by decide +kernel) rfl
theorem kS_Mod_set : Cond.selects R_Mod y_Mod_set y_Mod_set ∈ gws := tmS (q := (y_Mod_set, 8)) (by decide +kernel)
set_option maxRecDepth 100000 in
theorem kC_Mod_trim : Cond.code y_Mod_trim b_Mod_trim 4 none ∈ gws := tm 511 rfl rfl
theorem kI_Mod_trim : Cond.instanceMethod y_Mod_trim ∈ gws := tm 510 (by decide +kernel) rfl
theorem kS_Mod_trim : Cond.selects R_Mod y_Mod_trim y_Mod_trim ∈ gws := tmS (q := (y_Mod_trim, 8)) (by decide +kernel)
set_option maxRecDepth 100000 in
theorem kC_Mod_grow : Cond.code y_Mod_grow b_Mod_grow 7 none ∈ gws := tm 515 rfl rfl
theorem kI_Mod_grow : Cond.instanceMethod y_Mod_grow ∈ gws := tm 514 (by decide +kernel) rfl
theorem kS_Mod_grow : Cond.selects R_Mod y_Mod_grow y_Mod_grow ∈ gws := tmS (q := (y_Mod_grow, 8)) (by decide +kernel)
set_option maxRecDepth 100000 in
theorem kC_Mod_bitsOf : Cond.code y_Mod_bitsOf b_Mod_bitsOf 4 (some .int) ∈ gws := tm 521 rfl rfl
theorem kI_Mod_bitsOf : Cond.instanceMethod y_Mod_bitsOf ∈ gws := tm 520 (by decide +kernel) rfl
theorem kS_Mod_bitsOf : Cond.selects R_Mod y_Mod_bitsOf y_Mod_bitsOf ∈ gws := tmS (q := (y_Mod_bitsOf, 8)) (by decide +kernel)
set_option maxRecDepth 100000 in
theorem kC_Mod_raise : Cond.code y_Mod_raise b_Mod_raise 6 none ∈ gws := tm 527 rfl rfl
theorem kI_Mod_raise : Cond.instanceMethod y_Mod_raise ∈ gws := tm 526 (by decide +kernel) rfl
theorem kS_Mod_raise : Cond.selects R_Mod y_Mod_raise y_Mod_raise ∈ gws := tmS (q := (y_Mod_raise, 8)) (by decide +kernel)
set_option maxRecDepth 100000 in
theorem kC_Mod_nearest : Cond.code y_Mod_nearest b_Mod_nearest 10 (some .long) ∈ gws := tm 531 rfl rfl
theorem kI_Mod_nearest : Cond.instanceMethod y_Mod_nearest ∈ gws := tm 530 (by decide +kernel) rfl
theorem kS_Mod_nearest : Cond.selects R_Mod y_Mod_nearest y_Mod_nearest ∈ gws := tmS (q := (y_Mod_nearest, 8)) (by decide +kernel)
set_option maxRecDepth 100000 in
theorem kC_Mod_compareRows : Cond.code y_Mod_compareRows b_Mod_compareRows 6 (some .int) ∈ gws := tm 535 rfl rfl
theorem kI_Mod_compareRows : Cond.instanceMethod y_Mod_compareRows ∈ gws := tm 534 (by decide +kernel) rfl
theorem kS_Mod_compareRows : Cond.selects R_Mod y_Mod_compareRows y_Mod_compareRows ∈ gws := tmS (q := (y_Mod_compareRows, 8)) (by decide +kernel)
set_option maxRecDepth 100000 in
theorem kC_Mod_lessen : Cond.code y_Mod_lessen b_Mod_lessen 6 none ∈ gws := tm 539 rfl rfl
theorem kI_Mod_lessen : Cond.instanceMethod y_Mod_lessen ∈ gws := tm 538 (by decide +kernel) rfl
theorem kS_Mod_lessen : Cond.selects R_Mod y_Mod_lessen y_Mod_lessen ∈ gws := tmS (q := (y_Mod_lessen, 8)) (by decide +kernel)
set_option maxRecDepth 100000 in
theorem kC_Mod_halve : Cond.code y_Mod_halve b_Mod_halve 4 none ∈ gws := tm 544 rfl rfl
theorem kI_Mod_halve : Cond.instanceMethod y_Mod_halve ∈ gws := tm 543 (by decide +kernel) rfl
theorem kS_Mod_halve : Cond.selects R_Mod y_Mod_halve y_Mod_halve ∈ gws := tmS (q := (y_Mod_halve, 8)) (by decide +kernel)
set_option maxRecDepth 100000 in
theorem kC_Mod_rounded : Cond.code y_Mod_rounded b_Mod_rounded 17 (some .long) ∈ gws := tm 548 rfl rfl
theorem kI_Mod_rounded : Cond.instanceMethod y_Mod_rounded ∈ gws := tm 547 (by decide +kernel) rfl
theorem kS_Mod_rounded : Cond.selects R_Mod y_Mod_rounded y_Mod_rounded ∈ gws := tmS (q := (y_Mod_rounded, 8)) (by decide +kernel)
set_option maxRecDepth 100000 in
theorem kC_Mod_sized10 : Cond.code y_Mod_sized10 b_Mod_sized10 14 (some .long) ∈ gws := tm 553 rfl rfl
theorem kI_Mod_sized10 : Cond.instanceMethod y_Mod_sized10 ∈ gws := tm 552 (by decide +kernel) rfl
theorem kS_Mod_sized10 : Cond.selects R_Mod y_Mod_sized10 y_Mod_sized10 ∈ gws := tmS (q := (y_Mod_sized10, 8)) (by decide +kernel)
set_option maxRecDepth 100000 in
theorem kC_Mod_signed : Cond.code y_Mod_signed b_Mod_signed 4 (some .long) ∈ gws := tm 558 rfl rfl
theorem kT_Mod_signed : Cond.static y_Mod_signed ∈ gws := tm 557 (by decide +kernel) rfl
set_option maxRecDepth 100000 in
theorem kC_Mod_narrow : Cond.code y_Mod_narrow b_Mod_narrow 1 (some .boolean) ∈ gws := tm 564 rfl rfl
theorem kI_Mod_narrow : Cond.instanceMethod y_Mod_narrow ∈ gws := tm 562 (by decide +kernel) rfl
theorem kS_Mod_narrow : Cond.selects R_Mod y_Mod_narrow y_Mod_narrow ∈ gws := tm 563 (by decide +kernel) rfl
set_option maxRecDepth 100000 in
theorem kC_Mod_bits : Cond.code y_Mod_bits b_Mod_bits 1 (some .long) ∈ gws := tm 568 rfl rfl
theorem kI_Mod_bits : Cond.instanceMethod y_Mod_bits ∈ gws := tm 566 (by decide +kernel) rfl
theorem kS_Mod_bits : Cond.selects R_Mod y_Mod_bits y_Mod_bits ∈ gws := tm 567 (by decide +kernel) rfl
set_option maxRecDepth 100000 in
theorem kC_Mod_readings : Cond.code y_Mod_readings b_Mod_readings 1 (some .int) ∈ gws := tm 572 rfl rfl
theorem kI_Mod_readings : Cond.instanceMethod y_Mod_readings ∈ gws := tm 570 (by decide +kernel) rfl
theorem kS_Mod_readings : Cond.selects R_Mod y_Mod_readings y_Mod_readings ∈ gws := tm 571 (by decide +kernel) rfl
set_option maxRecDepth 100000 in
theorem kC_Mod_narrowed : Cond.code y_Mod_narrowed b_Mod_narrowed 5 (some .long) ∈ gws := tm 576 rfl rfl
theorem kI_Mod_narrowed : Cond.instanceMethod y_Mod_narrowed ∈ gws := tm 574 (by decide +kernel) rfl
theorem kS_Mod_narrowed : Cond.selects R_Mod y_Mod_narrowed y_Mod_narrowed ∈ gws := tm 575 (by decide +kernel) rfl
set_option maxRecDepth 100000 in
theorem kC_Mod_load : Cond.code y_Mod_load b_Mod_load 10 none ∈ gws := tm 581 rfl rfl
theorem kI_Mod_load : Cond.instanceMethod y_Mod_load ∈ gws := tm 580 (by decide +kernel) rfl
theorem kS_Mod_load : Cond.selects R_Mod y_Mod_load y_Mod_load ∈ gws := tmS (q := (y_Mod_load, 8)) (by decide +kernel)
set_option maxRecDepth 100000 in
theorem kC_Mod_widened : Cond.code y_Mod_widened b_Mod_widened 6 (some .long) ∈ gws := tm 585 rfl rfl
theorem kI_Mod_widened : Cond.instanceMethod y_Mod_widened ∈ gws := tm 583 (by decide +kernel) rfl
theorem kS_Mod_widened : Cond.selects R_Mod y_Mod_widened y_Mod_widened ∈ gws := tm 584 (by decide +kernel) rfl
set_option maxRecDepth 100000 in
theorem kC_Mod_quotient : Cond.code y_Mod_quotient b_Mod_quotient 6 (some .long) ∈ gws := tm 590 rfl rfl
theorem kI_Mod_quotient : Cond.instanceMethod y_Mod_quotient ∈ gws := tm 588 (by decide +kernel) rfl
theorem kS_Mod_quotient : Cond.selects R_Mod y_Mod_quotient y_Mod_quotient ∈ gws := tm 589 (by decide +kernel) rfl
set_option maxRecDepth 100000 in
theorem kC_Mod_compare : Cond.code y_Mod_compare b_Mod_compare 12 (some .int) ∈ gws := tm 594 rfl rfl
theorem kI_Mod_compare : Cond.instanceMethod y_Mod_compare ∈ gws := tm 592 (by decide +kernel) rfl
theorem kS_Mod_compare : Cond.selects R_Mod y_Mod_compare y_Mod_compare ∈ gws := tm 593 (by decide +kernel) rfl
theorem kN_Law : Cond.initialized "NearestReaderLaw" ∈ gws := tm 0 (by decide +kernel) rfl
theorem kN_Rea : Cond.initialized R_Rea ∈ gws := tm 1 (by decide +kernel) rfl
theorem kN_Num : Cond.initialized R_Num ∈ gws := tm 2 (by decide +kernel) rfl
theorem kN_Fra : Cond.initialized R_Fra ∈ gws := tm 3 (by decide +kernel) rfl
theorem kN_Big : Cond.initialized R_Big ∈ gws := tm 4 (by decide +kernel) rfl
theorem kN_Dec : Cond.initialized R_Dec ∈ gws := tm 5 (by decide +kernel) rfl
theorem kN_Mod : Cond.initialized R_Mod ∈ gws := tm 6 (by decide +kernel) rfl
theorem kN_Enum : Cond.initialized "java/lang/Enum" ∈ gws := tm 7 (by decide +kernel) rfl
theorem kN_Kin : Cond.initialized R_Kin ∈ gws := tm 8 (by decide +kernel) rfl
theorem kN_Math : Cond.initialized "java/lang/Math" ∈ gws := tm 9 (by decide +kernel) rfl
theorem kN_Str : Cond.initialized R_Str ∈ gws := tm 10 (by decide +kernel) rfl
theorem kN_Sl1 : Cond.initialized R_Sl1 ∈ gws := tm 11 (by decide +kernel) rfl
theorem kN_Pre : Cond.initialized R_Pre ∈ gws := tm 12 (by decide +kernel) rfl
theorem kN_StringUTF16 : Cond.initialized "java/lang/StringUTF16" ∈ gws := tm 13 (by decide +kernel) rfl
theorem kL_Law_7 : Cond.classLink "NearestReaderLaw" 7 R_Rea ∈ gws := tm 14 (by decide +kernel) rfl
theorem kH_Rea : Cond.instantiable R_Rea 7 ∈ gws := tm 15 (by decide +kernel) rfl
theorem kM_Law_9 : Cond.methodLink "NearestReaderLaw" 9 y_Rea_init ∈ gws := tm 16 (by decide +kernel) rfl
theorem kM_Rea_1 : Cond.methodLink R_Rea 1 objectInit ∈ gws := tm 19 (by decide +kernel) rfl
theorem kL_Rea_13 : Cond.classLink R_Rea 13 R_Num ∈ gws := tm 22 (by decide +kernel) rfl
theorem kH_Num : Cond.instantiable R_Num 8 ∈ gws := tm 23 (by decide +kernel) rfl
theorem kM_Rea_15 : Cond.methodLink R_Rea 15 y_Num_init ∈ gws := tm 24 (by decide +kernel) rfl
theorem kM_Num_1 : Cond.methodLink R_Num 1 objectInit ∈ gws := tm 27 (by decide +kernel) rfl
theorem kF_Num_7 : Cond.fieldLink R_Num 7 "NearestReader$Numeral" "text" "[C" ∈ gws := tm 28 (by decide +kernel) rfl
theorem kF_Num_25 : Cond.fieldLink R_Num 25 "NearestReader$Numeral" "at" "I" ∈ gws := tm 29 (by decide +kernel) rfl
theorem kF_Num_50 : Cond.fieldLink R_Num 50 "NearestReader$Numeral" "end" "I" ∈ gws := tm 30 (by decide +kernel) rfl
theorem kF_Num_21 : Cond.fieldLink R_Num 21 "NearestReader$Numeral" "minus" "Z" ∈ gws := tm 31 (by decide +kernel) rfl
theorem kF_Rea_118 : Cond.fieldLink R_Rea 118 "NearestReader$Numeral" "minus" "Z" ∈ gws := tm 32 (by decide +kernel) rfl
theorem kF_Num_35 : Cond.fieldLink R_Num 35 "NearestReader$Numeral" "form" "I" ∈ gws := tm 33 (by decide +kernel) rfl
theorem kF_Rea_111 : Cond.fieldLink R_Rea 111 "NearestReader$Numeral" "form" "I" ∈ gws := tm 34 (by decide +kernel) rfl
theorem kF_Dec_17 : Cond.fieldLink R_Dec 17 "NearestReader$Numeral" "from" "I" ∈ gws := tm 35 (by decide +kernel) rfl
theorem kF_Num_77 : Cond.fieldLink R_Num 77 "NearestReader$Numeral" "from" "I" ∈ gws := tm 36 (by decide +kernel) rfl
theorem kF_Rea_131 : Cond.fieldLink R_Rea 131 "NearestReader$Numeral" "from" "I" ∈ gws := tm 37 (by decide +kernel) rfl
theorem kF_Dec_23 : Cond.fieldLink R_Dec 23 "NearestReader$Numeral" "to" "I" ∈ gws := tm 38 (by decide +kernel) rfl
theorem kF_Num_84 : Cond.fieldLink R_Num 84 "NearestReader$Numeral" "to" "I" ∈ gws := tm 39 (by decide +kernel) rfl
theorem kF_Rea_134 : Cond.fieldLink R_Rea 134 "NearestReader$Numeral" "to" "I" ∈ gws := tm 40 (by decide +kernel) rfl
theorem kF_Dec_38 : Cond.fieldLink R_Dec 38 "NearestReader$Numeral" "power" "I" ∈ gws := tm 41 (by decide +kernel) rfl
theorem kF_Num_93 : Cond.fieldLink R_Num 93 "NearestReader$Numeral" "power" "I" ∈ gws := tm 42 (by decide +kernel) rfl
theorem kF_Rea_128 : Cond.fieldLink R_Rea 128 "NearestReader$Numeral" "power" "I" ∈ gws := tm 43 (by decide +kernel) rfl
theorem kA_char : Cond.arrayClass .char ∈ gws := tm 61 (by decide +kernel) rfl
theorem kL_Rea_22 : Cond.classLink R_Rea 22 R_Fra ∈ gws := tm 62 (by decide +kernel) rfl
theorem kH_Fra : Cond.instantiable R_Fra 2 ∈ gws := tm 63 (by decide +kernel) rfl
theorem kM_Rea_24 : Cond.methodLink R_Rea 24 y_Fra_init ∈ gws := tm 64 (by decide +kernel) rfl
theorem kM_Fra_1 : Cond.methodLink R_Fra 1 objectInit ∈ gws := tm 67 (by decide +kernel) rfl
theorem kL_Fra_7 : Cond.classLink R_Fra 7 R_Big ∈ gws := tm 68 (by decide +kernel) rfl
theorem kH_Big : Cond.instantiable R_Big 2 ∈ gws := tm 69 (by decide +kernel) rfl
theorem kM_Fra_9 : Cond.methodLink R_Fra 9 y_Big_init ∈ gws := tm 70 (by decide +kernel) rfl
theorem kM_Big_1 : Cond.methodLink R_Big 1 objectInit ∈ gws := tm 73 (by decide +kernel) rfl
theorem kF_Big_9 : Cond.fieldLink R_Big 9 "NearestReader$Big" "limbs" "[I" ∈ gws := tm 74 (by decide +kernel) rfl
theorem kF_Big_13 : Cond.fieldLink R_Big 13 "NearestReader$Big" "used" "I" ∈ gws := tm 75 (by decide +kernel) rfl
theorem kA_int : Cond.arrayClass .int ∈ gws := tm 81 (by decide +kernel) rfl
theorem kF_Fra_10 : Cond.fieldLink R_Fra 10 "NearestReader$Fraction" "top" "LNearestReader$Big;" ∈ gws := tm 82 (by decide +kernel) rfl
theorem kF_Dec_70 : Cond.fieldLink R_Dec 70 "NearestReader$Fraction" "top" "LNearestReader$Big;" ∈ gws := tm 83 (by decide +kernel) rfl
theorem kF_Rea_82 : Cond.fieldLink R_Rea 82 "NearestReader$Fraction" "top" "LNearestReader$Big;" ∈ gws := tm 84 (by decide +kernel) rfl
theorem kF_Fra_16 : Cond.fieldLink R_Fra 16 "NearestReader$Fraction" "bottom" "LNearestReader$Big;" ∈ gws := tm 85 (by decide +kernel) rfl
theorem kF_Dec_54 : Cond.fieldLink R_Dec 54 "NearestReader$Fraction" "bottom" "LNearestReader$Big;" ∈ gws := tm 86 (by decide +kernel) rfl
theorem kF_Rea_92 : Cond.fieldLink R_Rea 92 "NearestReader$Fraction" "bottom" "LNearestReader$Big;" ∈ gws := tm 87 (by decide +kernel) rfl
theorem kL_Rea_29 : Cond.classLink R_Rea 29 R_Dec ∈ gws := tm 93 (by decide +kernel) rfl
theorem kH_Dec : Cond.instantiable R_Dec 6 ∈ gws := tm 94 (by decide +kernel) rfl
theorem kM_Rea_31 : Cond.methodLink R_Rea 31 y_Dec_init ∈ gws := tm 95 (by decide +kernel) rfl
theorem kM_Dec_1 : Cond.methodLink R_Dec 1 objectInit ∈ gws := tm 98 (by decide +kernel) rfl
theorem kF_Dec_7 : Cond.fieldLink R_Dec 7 "NearestReader$Decimal" "text" "[C" ∈ gws := tm 99 (by decide +kernel) rfl
theorem kF_Dec_13 : Cond.fieldLink R_Dec 13 "NearestReader$Decimal" "fraction" "LNearestReader$Fraction;" ∈ gws := tm 100 (by decide +kernel) rfl
theorem kF_Dec_77 : Cond.fieldLink R_Dec 77 "NearestReader$Decimal" "group" "I" ∈ gws := tm 101 (by decide +kernel) rfl
theorem kF_Dec_80 : Cond.fieldLink R_Dec 80 "NearestReader$Decimal" "groupScale" "I" ∈ gws := tm 102 (by decide +kernel) rfl
theorem kF_Dec_41 : Cond.fieldLink R_Dec 41 "NearestReader$Decimal" "kept" "I" ∈ gws := tm 103 (by decide +kernel) rfl
theorem kF_Dec_35 : Cond.fieldLink R_Dec 35 "NearestReader$Decimal" "place" "I" ∈ gws := tm 104 (by decide +kernel) rfl
theorem kF_Rea_9 : Cond.fieldLink R_Rea 9 "NearestReader" "text" "[C" ∈ gws := tm 118 (by decide +kernel) rfl
theorem kF_Rea_18 : Cond.fieldLink R_Rea 18 "NearestReader" "numeral" "LNearestReader$Numeral;" ∈ gws := tm 119 (by decide +kernel) rfl
theorem kF_Rea_34 : Cond.fieldLink R_Rea 34 "NearestReader" "decimal" "LNearestReader$Decimal;" ∈ gws := tm 120 (by decide +kernel) rfl
theorem kF_Rea_25 : Cond.fieldLink R_Rea 25 "NearestReader" "fraction" "LNearestReader$Fraction;" ∈ gws := tm 121 (by decide +kernel) rfl
theorem kF_Rea_38 : Cond.fieldLink R_Rea 38 "NearestReader" "filled" "I" ∈ gws := tm 122 (by decide +kernel) rfl
theorem kF_Rea_42 : Cond.fieldLink R_Rea 42 "NearestReader" "result" "J" ∈ gws := tm 123 (by decide +kernel) rfl
theorem kF_Rea_46 : Cond.fieldLink R_Rea 46 "NearestReader" "found" "I" ∈ gws := tm 124 (by decide +kernel) rfl
theorem kM_Law_15 : Cond.methodLink "NearestReaderLaw" 15 y_Rea_write ∈ gws := tm 140 (by decide +kernel) rfl
theorem kM_Rea_49 : Cond.methodLink R_Rea 49 y_Rea_countCharacters ∈ gws := tm 144 (by decide +kernel) rfl
theorem kK_Rea_53 : Cond.constantLong R_Rea 53 (255) ∈ gws := tm 147 (by decide +kernel) rfl
theorem kM_Law_20 : Cond.methodLink "NearestReaderLaw" 20 y_Rea_keep ∈ gws := tm 148 (by decide +kernel) rfl
theorem kM_Law_25 : Cond.methodLink "NearestReaderLaw" 25 y_Rea_length ∈ gws := tm 152 (by decide +kernel) rfl
theorem kM_Law_30 : Cond.methodLink "NearestReaderLaw" 30 y_Rea_wide ∈ gws := tm 156 (by decide +kernel) rfl
theorem kF_Rea_55 : Cond.fieldLink R_Rea 55 "NearestReader$Kind" "WIDE" "LNearestReader$Kind;" ∈ gws := tm 160 (by decide +kernel) rfl
theorem kM_Rea_61 : Cond.methodLink R_Rea 61 y_Rea_readAs ∈ gws := tm 162 (by decide +kernel) rfl
theorem kM_Rea_107 : Cond.methodLink R_Rea 107 y_Num_findIn ∈ gws := tm 166 (by decide +kernel) rfl
theorem kM_Num_13 : Cond.methodLink R_Num 13 y_Num_trim ∈ gws := tm 170 (by decide +kernel) rfl
theorem kM_Num_44 : Cond.methodLink R_Num 44 ⟨"java/lang/Math", "min", "(II)I"⟩ ∈ gws := tm 174 (by decide +kernel) rfl
theorem kM_Num_17 : Cond.methodLink R_Num 17 y_Num_here ∈ gws := tm 177 (by decide +kernel) rfl
theorem kM_Num_31 : Cond.methodLink R_Num 31 y_Num_isRest ∈ gws := tm 182 (by decide +kernel) rfl
theorem kM_Num_53 : Cond.methodLink R_Num 53 y_Str_length ∈ gws := tm 186 (by decide +kernel) rfl
theorem kM_Str_335 : Cond.methodLink R_Str 335 y_Str_coder ∈ gws := tm 190 (by decide +kernel) rfl
theorem kF_Str_38 : Cond.fieldLink R_Str 38 "java/lang/String" "COMPACT_STRINGS" "Z" ∈ gws := tm 194 (by decide +kernel) rfl
theorem kM_Num_59 : Cond.methodLink R_Num 59 y_Str_charAt ∈ gws := tm 196 (by decide +kernel) rfl
theorem kM_Str_492 : Cond.methodLink R_Str 492 y_Str_isLatin1 ∈ gws := tm 200 (by decide +kernel) rfl
theorem kM_Str_495 : Cond.methodLink R_Str 495 y_Sl1_charAt ∈ gws := tm 204 (by decide +kernel) rfl
theorem kM_Sl1_9 : Cond.methodLink R_Sl1 9 y_Str_checkIndex ∈ gws := tm 207 (by decide +kernel) rfl
theorem kF_Str_1053 : Cond.fieldLink R_Str 1053 "jdk/internal/util/Preconditions" "SIOOBE_FORMATTER" "Ljava/util/function/BiFunction;" ∈ gws := tm 210 (by decide +kernel) rfl
theorem kM_Str_1059 : Cond.methodLink R_Str 1059 y_Pre_checkIndex ∈ gws := tm 212 (by decide +kernel) rfl
theorem kM_Str_498 : Cond.methodLink R_Str 498 ⟨"java/lang/StringUTF16", "charAt", "([BI)C"⟩ ∈ gws := tm 215 (by decide +kernel) rfl
theorem kM_Num_40 : Cond.methodLink R_Num 40 y_Num_findLiteral ∈ gws := tm 235 (by decide +kernel) rfl
theorem kM_Num_63 : Cond.methodLink R_Num 63 y_Num_skipPrefix ∈ gws := tm 239 (by decide +kernel) rfl
theorem kM_Num_66 : Cond.methodLink R_Num 66 y_Num_findDigits ∈ gws := tm 243 (by decide +kernel) rfl
theorem kM_Num_80 : Cond.methodLink R_Num 80 y_Num_skipDigits ∈ gws := tm 247 (by decide +kernel) rfl
theorem kM_Num_70 : Cond.methodLink R_Num 70 y_Num_findPower ∈ gws := tm 254 (by decide +kernel) rfl
theorem kM_Num_73 : Cond.methodLink R_Num 73 y_Num_isHere ∈ gws := tm 258 (by decide +kernel) rfl
theorem kK_Num_96 : Cond.constant R_Num 96 (1000000) ∈ gws := tm 262 (by decide +kernel) rfl
theorem kM_Rea_114 : Cond.methodLink R_Rea 114 y_Rea_sizeAs ∈ gws := tm 263 (by decide +kernel) rfl
theorem kM_Rea_122 : Cond.methodLink R_Rea 122 y_Rea_nearestHexadecimal ∈ gws := tm 267 (by decide +kernel) rfl
theorem kM_Rea_137 : Cond.methodLink R_Rea 137 y_Rea_digitOf ∈ gws := tm 271 (by decide +kernel) rfl
theorem kM_Rea_141 : Cond.methodLink R_Rea 141 y_Kin_nearest ∈ gws := tm 272 (by decide +kernel) rfl
theorem kM_Kin_72 : Cond.methodLink R_Kin 72 ⟨"java/lang/Math", "max", "(II)I"⟩ ∈ gws := tm 279 (by decide +kernel) rfl
theorem kM_Kin_78 : Cond.methodLink R_Kin 78 y_Kin_rounded ∈ gws := tm 282 (by decide +kernel) rfl
theorem kM_Rea_125 : Cond.methodLink R_Rea 125 y_Dec_nearest ∈ gws := tm 285 (by decide +kernel) rfl
theorem kM_Dec_31 : Cond.methodLink R_Dec 31 y_Dec_gather ∈ gws := tm 289 (by decide +kernel) rfl
theorem kM_Dec_60 : Cond.methodLink R_Dec 60 y_Big_set ∈ gws := tm 293 (by decide +kernel) rfl
theorem kM_Big_17 : Cond.methodLink R_Big 17 y_Big_dropZeros ∈ gws := tm 297 (by decide +kernel) rfl
theorem kM_Dec_83 : Cond.methodLink R_Dec 83 y_Dec_keepDigit ∈ gws := tm 301 (by decide +kernel) rfl
theorem kK_Dec_90 : Cond.constant R_Dec 90 (1000000000) ∈ gws := tm 305 (by decide +kernel) rfl
theorem kM_Dec_86 : Cond.methodLink R_Dec 86 y_Big_timesPlus ∈ gws := tm 306 (by decide +kernel) rfl
theorem kK_Big_20 : Cond.constantLong R_Big 20 (4294967295) ∈ gws := tm 310 (by decide +kernel) rfl
theorem kM_Dec_66 : Cond.methodLink R_Dec 66 y_Big_timesFives ∈ gws := tm 311 (by decide +kernel) rfl
theorem kK_Big_28 : Cond.constant R_Big 28 (1220703125) ∈ gws := tm 315 (by decide +kernel) rfl
theorem kM_Big_29 : Cond.methodLink R_Big 29 y_Big_timesPlus ∈ gws := tm 316 (by decide +kernel) rfl
theorem kM_Dec_73 : Cond.methodLink R_Dec 73 y_Fra_nearest ∈ gws := tm 317 (by decide +kernel) rfl
theorem kM_Fra_19 : Cond.methodLink R_Fra 19 y_Big_bitLength ∈ gws := tm 321 (by decide +kernel) rfl
theorem kM_Fra_23 : Cond.methodLink R_Fra 23 y_Big_shiftLeft ∈ gws := tm 326 (by decide +kernel) rfl
theorem kM_Fra_33 : Cond.methodLink R_Fra 33 y_Big_isAtLeast ∈ gws := tm 330 (by decide +kernel) rfl
theorem kM_Fra_37 : Cond.methodLink R_Fra 37 y_Big_subtract ∈ gws := tm 334 (by decide +kernel) rfl
theorem kM_Fra_41 : Cond.methodLink R_Fra 41 y_Big_timesPlus ∈ gws := tm 338 (by decide +kernel) rfl
theorem kM_Fra_45 : Cond.methodLink R_Fra 45 y_Big_isZero ∈ gws := tm 339 (by decide +kernel) rfl
theorem kM_Fra_49 : Cond.methodLink R_Fra 49 y_Kin_nearest ∈ gws := tm 343 (by decide +kernel) rfl
theorem kM_Rea_78 : Cond.methodLink R_Rea 78 y_Kin_signed ∈ gws := tm 344 (by decide +kernel) rfl
theorem kA_byte : Cond.arrayClass .byte ∈ gws := tm 348 (by decide +kernel) rfl
theorem kM_Law_35 : Cond.methodLink "NearestReaderLaw" 35 y_Rea_narrow ∈ gws := tm 349 (by decide +kernel) rfl
theorem kF_Rea_65 : Cond.fieldLink R_Rea 65 "NearestReader$Kind" "NARROW" "LNearestReader$Kind;" ∈ gws := tm 353 (by decide +kernel) rfl
theorem kM_Law_39 : Cond.methodLink "NearestReaderLaw" 39 y_Rea_bits ∈ gws := tm 355 (by decide +kernel) rfl
theorem kM_Law_44 : Cond.methodLink "NearestReaderLaw" 44 y_Rea_narrowed ∈ gws := tm 359 (by decide +kernel) rfl
theorem kM_Rea_68 : Cond.methodLink R_Rea 68 y_Rea_converted ∈ gws := tm 363 (by decide +kernel) rfl
theorem kM_Rea_99 : Cond.methodLink R_Rea 99 y_Kin_isNone ∈ gws := tm 366 (by decide +kernel) rfl
theorem kM_Kin_58 : Cond.methodLink R_Kin 58 y_Kin_sizeOf ∈ gws := tm 370 (by decide +kernel) rfl
theorem kM_Rea_144 : Cond.methodLink R_Rea 144 y_Kin_sizeOf ∈ gws := tm 374 (by decide +kernel) rfl
theorem kM_Rea_147 : Cond.methodLink R_Rea 147 y_Kin_isBelow ∈ gws := tm 375 (by decide +kernel) rfl
theorem kM_Law_49 : Cond.methodLink "NearestReaderLaw" 49 y_Rea_widened ∈ gws := tm 379 (by decide +kernel) rfl
theorem kM_Law_53 : Cond.methodLink "NearestReaderLaw" 53 y_Rea_quotient ∈ gws := tm 383 (by decide +kernel) rfl
theorem kM_Rea_86 : Cond.methodLink R_Rea 86 y_Big_set ∈ gws := tm 387 (by decide +kernel) rfl
theorem kM_Rea_95 : Cond.methodLink R_Rea 95 y_Fra_nearest ∈ gws := tm 388 (by decide +kernel) rfl
theorem kM_Law_58 : Cond.methodLink "NearestReaderLaw" 58 y_Rea_compare ∈ gws := tm 389 (by decide +kernel) rfl
theorem kM_Rea_103 : Cond.methodLink R_Rea 103 y_Kin_rank ∈ gws := tm 393 (by decide +kernel) rfl
theorem kM_Kin_62 : Cond.methodLink R_Kin 62 y_Kin_isBelow ∈ gws := tm 397 (by decide +kernel) rfl
theorem kM_Law_63 : Cond.methodLink "NearestReaderLaw" 63 y_Rea_readings ∈ gws := tm 398 (by decide +kernel) rfl
theorem kL_Law_10 : Cond.classLink "NearestReaderLaw" 10 R_Mod ∈ gws := tm 402 (by decide +kernel) rfl
theorem kH_Mod : Cond.instantiable R_Mod 8 ∈ gws := tm 403 (by decide +kernel) rfl
theorem kM_Law_12 : Cond.methodLink "NearestReaderLaw" 12 y_Mod_init ∈ gws := tm 404 (by decide +kernel) rfl
theorem kM_Mod_1 : Cond.methodLink R_Mod 1 objectInit ∈ gws := tm 407 (by decide +kernel) rfl
theorem kF_Mod_7 : Cond.fieldLink R_Mod 7 "NearestReaderModel" "text" "[I" ∈ gws := tm 408 (by decide +kernel) rfl
theorem kF_Mod_74 : Cond.fieldLink R_Mod 74 "NearestReaderModel" "length" "I" ∈ gws := tm 409 (by decide +kernel) rfl
theorem kF_Mod_97 : Cond.fieldLink R_Mod 97 "NearestReaderModel" "result" "J" ∈ gws := tm 410 (by decide +kernel) rfl
theorem kF_Mod_101 : Cond.fieldLink R_Mod 101 "NearestReaderModel" "readings" "I" ∈ gws := tm 411 (by decide +kernel) rfl
theorem kF_Mod_13 : Cond.fieldLink R_Mod 13 "NearestReaderModel" "m" "[I" ∈ gws := tm 412 (by decide +kernel) rfl
theorem kF_Mod_16 : Cond.fieldLink R_Mod 16 "NearestReaderModel" "n" "[I" ∈ gws := tm 413 (by decide +kernel) rfl
theorem kF_Mod_81 : Cond.fieldLink R_Mod 81 "NearestReaderModel" "at" "I" ∈ gws := tm 414 (by decide +kernel) rfl
theorem kF_Mod_78 : Cond.fieldLink R_Mod 78 "NearestReaderModel" "end" "I" ∈ gws := tm 415 (by decide +kernel) rfl
theorem kM_Law_19 : Cond.methodLink "NearestReaderLaw" 19 y_Mod_write ∈ gws := tm 433 (by decide +kernel) rfl
theorem kK_Mod_72 : Cond.constantLong R_Mod 72 (255) ∈ gws := tm 437 (by decide +kernel) rfl
theorem kM_Law_24 : Cond.methodLink "NearestReaderLaw" 24 y_Mod_keep ∈ gws := tm 438 (by decide +kernel) rfl
theorem kM_Law_29 : Cond.methodLink "NearestReaderLaw" 29 y_Mod_length ∈ gws := tm 442 (by decide +kernel) rfl
theorem kM_Law_34 : Cond.methodLink "NearestReaderLaw" 34 y_Mod_wide ∈ gws := tm 446 (by decide +kernel) rfl
theorem kM_Mod_159 : Cond.methodLink R_Mod 159 y_Mod_read ∈ gws := tm 450 (by decide +kernel) rfl
theorem kM_Mod_84 : Cond.methodLink R_Mod 84 y_Mod_look ∈ gws := tm 454 (by decide +kernel) rfl
theorem kM_Mod_90 : Cond.methodLink R_Mod 90 y_Mod_isWord ∈ gws := tm 458 (by decide +kernel) rfl
theorem kM_Mod_94 : Cond.methodLink R_Mod 94 y_Mod_none ∈ gws := tm 462 (by decide +kernel) rfl
theorem kK_Mod_34 : Cond.constantLong R_Mod 34 (9221120237041090560) ∈ gws := tm 465 (by decide +kernel) rfl
theorem kK_Mod_36 : Cond.constantLong R_Mod 36 (2143289344) ∈ gws := tm 466 (by decide +kernel) rfl
theorem kM_Mod_104 : Cond.methodLink R_Mod 104 y_Mod_isInfinity ∈ gws := tm 467 (by decide +kernel) rfl
theorem kM_Mod_46 : Cond.methodLink R_Mod 46 y_Mod_infinite ∈ gws := tm 471 (by decide +kernel) rfl
theorem kK_Mod_30 : Cond.constantLong R_Mod 30 (9218868437227405312) ∈ gws := tm 474 (by decide +kernel) rfl
theorem kK_Mod_32 : Cond.constantLong R_Mod 32 (2139095040) ∈ gws := tm 475 (by decide +kernel) rfl
theorem kM_Mod_108 : Cond.methodLink R_Mod 108 y_Mod_literal ∈ gws := tm 476 (by decide +kernel) rfl
theorem kM_Mod_116 : Cond.methodLink R_Mod 116 y_Mod_digits ∈ gws := tm 480 (by decide +kernel) rfl
theorem kM_Mod_87 : Cond.methodLink R_Mod 87 y_Mod_digitOf ∈ gws := tm 484 (by decide +kernel) rfl
theorem kM_Mod_119 : Cond.methodLink R_Mod 119 y_Mod_skips ∈ gws := tm 487 (by decide +kernel) rfl
theorem kK_Mod_123 : Cond.constantLong R_Mod 123 (-1) ∈ gws := tm 491 (by decide +kernel) rfl
theorem kK_Mod_125 : Cond.constantLong R_Mod 125 (10) ∈ gws := tm 492 (by decide +kernel) rfl
theorem kK_Mod_127 : Cond.constantLong R_Mod 127 (48) ∈ gws := tm 493 (by decide +kernel) rfl
theorem kK_Mod_129 : Cond.constantLong R_Mod 129 (100000000) ∈ gws := tm 494 (by decide +kernel) rfl
theorem kM_Mod_131 : Cond.methodLink R_Mod 131 y_Mod_sized16 ∈ gws := tm 495 (by decide +kernel) rfl
theorem kM_Mod_142 : Cond.methodLink R_Mod 142 y_Mod_gather ∈ gws := tm 499 (by decide +kernel) rfl
theorem kM_Mod_138 : Cond.methodLink R_Mod 138 y_Mod_set ∈ gws := tm 503 (by decide +kernel) rfl
theorem kK_Mod_19 : Cond.constantLong R_Mod 19 (65535) ∈ gws := tm 507 (by decide +kernel) rfl
theorem kM_Mod_21 : Cond.methodLink R_Mod 21 y_Mod_trim ∈ gws := tm 508 (by decide +kernel) rfl
theorem kM_Mod_26 : Cond.methodLink R_Mod 26 y_Mod_grow ∈ gws := tm 512 (by decide +kernel) rfl
theorem kK_Mod_25 : Cond.constant R_Mod 25 (65535) ∈ gws := tm 516 (by decide +kernel) rfl
theorem kK_Mod_146 : Cond.constantLong R_Mod 146 (4) ∈ gws := tm 517 (by decide +kernel) rfl
theorem kM_Mod_42 : Cond.methodLink R_Mod 42 y_Mod_bitsOf ∈ gws := tm 518 (by decide +kernel) rfl
theorem kK_Mod_148 : Cond.constantLong R_Mod 148 (-1200) ∈ gws := tm 522 (by decide +kernel) rfl
theorem kK_Mod_150 : Cond.constantLong R_Mod 150 (1200) ∈ gws := tm 523 (by decide +kernel) rfl
theorem kM_Mod_50 : Cond.methodLink R_Mod 50 y_Mod_raise ∈ gws := tm 524 (by decide +kernel) rfl
theorem kM_Mod_152 : Cond.methodLink R_Mod 152 y_Mod_nearest ∈ gws := tm 528 (by decide +kernel) rfl
theorem kM_Mod_53 : Cond.methodLink R_Mod 53 y_Mod_compareRows ∈ gws := tm 532 (by decide +kernel) rfl
theorem kM_Mod_57 : Cond.methodLink R_Mod 57 y_Mod_lessen ∈ gws := tm 536 (by decide +kernel) rfl
theorem kK_Mod_60 : Cond.constantLong R_Mod 60 (2) ∈ gws := tm 540 (by decide +kernel) rfl
theorem kM_Mod_62 : Cond.methodLink R_Mod 62 y_Mod_halve ∈ gws := tm 541 (by decide +kernel) rfl
theorem kM_Mod_66 : Cond.methodLink R_Mod 66 y_Mod_rounded ∈ gws := tm 545 (by decide +kernel) rfl
theorem kK_Mod_70 : Cond.constantLong R_Mod 70 (2047) ∈ gws := tm 549 (by decide +kernel) rfl
theorem kM_Mod_135 : Cond.methodLink R_Mod 135 y_Mod_sized10 ∈ gws := tm 550 (by decide +kernel) rfl
theorem kK_Mod_155 : Cond.constantLong R_Mod 155 (-400) ∈ gws := tm 554 (by decide +kernel) rfl
theorem kK_Mod_157 : Cond.constantLong R_Mod 157 (400) ∈ gws := tm 555 (by decide +kernel) rfl
theorem kM_Mod_112 : Cond.methodLink R_Mod 112 y_Mod_signed ∈ gws := tm 556 (by decide +kernel) rfl
theorem kK_Mod_38 : Cond.constantLong R_Mod 38 (-9223372036854775808) ∈ gws := tm 559 (by decide +kernel) rfl
theorem kK_Mod_40 : Cond.constantLong R_Mod 40 (2147483648) ∈ gws := tm 560 (by decide +kernel) rfl
theorem kM_Law_38 : Cond.methodLink "NearestReaderLaw" 38 y_Mod_narrow ∈ gws := tm 561 (by decide +kernel) rfl
theorem kM_Law_43 : Cond.methodLink "NearestReaderLaw" 43 y_Mod_bits ∈ gws := tm 565 (by decide +kernel) rfl
theorem kM_Law_66 : Cond.methodLink "NearestReaderLaw" 66 y_Mod_readings ∈ gws := tm 569 (by decide +kernel) rfl
theorem kM_Law_48 : Cond.methodLink "NearestReaderLaw" 48 y_Mod_narrowed ∈ gws := tm 573 (by decide +kernel) rfl
theorem kK_Mod_163 : Cond.constantLong R_Mod 163 (9223372036854775807) ∈ gws := tm 577 (by decide +kernel) rfl
theorem kM_Mod_165 : Cond.methodLink R_Mod 165 y_Mod_load ∈ gws := tm 578 (by decide +kernel) rfl
theorem kM_Law_52 : Cond.methodLink "NearestReaderLaw" 52 y_Mod_widened ∈ gws := tm 582 (by decide +kernel) rfl
theorem kK_Mod_169 : Cond.constantLong R_Mod 169 (2147483647) ∈ gws := tm 586 (by decide +kernel) rfl
theorem kM_Law_57 : Cond.methodLink "NearestReaderLaw" 57 y_Mod_quotient ∈ gws := tm 587 (by decide +kernel) rfl
theorem kM_Law_62 : Cond.methodLink "NearestReaderLaw" 62 y_Mod_compare ∈ gws := tm 591 (by decide +kernel) rfl
theorem kK_Law_13 : Cond.constantLong "NearestReaderLaw" 13 (4294967295) ∈ gws := tm 595 (by decide +kernel) rfl
theorem kF_Str_9 : Cond.fieldLink R_Str 9 "java/lang/String" "value" "[B" ∈ gws := tm 596 (by decide +kernel) rfl
theorem kF_Str_15 : Cond.fieldLink R_Str 15 "java/lang/String" "coder" "B" ∈ gws := tm 597 (by decide +kernel) rfl
theorem kF_Rea_72 : Cond.fieldLink R_Rea 72 "NearestReader$Kind" "none" "J" ∈ gws := tm 598 (by decide +kernel) rfl
theorem kF_Rea_75 : Cond.fieldLink R_Rea 75 "NearestReader$Kind" "infinite" "J" ∈ gws := tm 599 (by decide +kernel) rfl
theorem kF_Kin_29 : Cond.fieldLink R_Kin 29 "NearestReader$Kind" "precision" "I" ∈ gws := tm 600 (by decide +kernel) rfl
theorem kF_Kin_33 : Cond.fieldLink R_Kin 33 "NearestReader$Kind" "lowestUnit" "I" ∈ gws := tm 601 (by decide +kernel) rfl
theorem kF_Kin_36 : Cond.fieldLink R_Kin 36 "NearestReader$Kind" "highestUnit" "I" ∈ gws := tm 602 (by decide +kernel) rfl
theorem kF_Kin_48 : Cond.fieldLink R_Kin 48 "NearestReader$Kind" "infinite" "J" ∈ gws := tm 603 (by decide +kernel) rfl
theorem kF_Dec_26 : Cond.fieldLink R_Dec 26 "NearestReader$Kind" "mostDigits" "I" ∈ gws := tm 604 (by decide +kernel) rfl
theorem kF_Dec_44 : Cond.fieldLink R_Dec 44 "NearestReader$Kind" "lowestPlace" "I" ∈ gws := tm 605 (by decide +kernel) rfl
theorem kF_Dec_47 : Cond.fieldLink R_Dec 47 "NearestReader$Kind" "highestPlace" "I" ∈ gws := tm 606 (by decide +kernel) rfl
theorem kF_Dec_50 : Cond.fieldLink R_Dec 50 "NearestReader$Kind" "infinite" "J" ∈ gws := tm 607 (by decide +kernel) rfl
theorem kF_Fra_27 : Cond.fieldLink R_Fra 27 "NearestReader$Kind" "precision" "I" ∈ gws := tm 608 (by decide +kernel) rfl
theorem kF_Kin_55 : Cond.fieldLink R_Kin 55 "NearestReader$Kind" "signBit" "J" ∈ gws := tm 609 (by decide +kernel) rfl
theorem kF_Rea_150 : Cond.fieldLink R_Rea 150 "NearestReader$Kind" "precision" "I" ∈ gws := tm 610 (by decide +kernel) rfl
theorem kF_Rea_153 : Cond.fieldLink R_Rea 153 "NearestReader$Kind" "lowestUnit" "I" ∈ gws := tm 611 (by decide +kernel) rfl
theorem kI_object : Cond.instanceMethod objectInit ∈ gws := tm 20 (by decide +kernel) rfl
theorem kC_object : Cond.code objectInit ⟨#[0xb1]⟩ 1 none ∈ gws := tm 21 rfl rfl
set_option maxRecDepth 100000 in
theorem kC_mmax : Cond.code Lib.Math.max.name Lib.Math.max.code 2 (some .int) ∈ gws := tm 281 rfl rfl
theorem kT_mmax : Cond.static Lib.Math.max.name ∈ gws := tm 280 (by decide +kernel) rfl
set_option maxRecDepth 100000 in
theorem kC_mmin : Cond.code Lib.Math.min.name Lib.Math.min.code 2 (some .int) ∈ gws := tm 176 rfl rfl
theorem kT_mmin : Cond.static Lib.Math.min.name ∈ gws := tm 175 (by decide +kernel) rfl
end
section
theorem wb_tb (n : Nat) : (lN n).toBitVec = BitVec.ofNat 64 n := rfl
theorem wb_inj {a b : Int64} (h : a.toBitVec = b.toBitVec) : a = b := Int64.toBitVec_inj.mp h
theorem wb_tn {n : Nat} (h : n < 2 ^ 64) : (lN n).toBitVec.toNat = n := by rw [wb_tb, BitVec.toNat_ofNat, Nat.mod_eq_of_lt h]
theorem wb_of (x : Int64) : ∃ n, n < 2 ^ 64 ∧ x = lN n := ⟨x.toBitVec.toNat, x.toBitVec.isLt, wb_inj (by rw [wb_tb]; simp)⟩
theorem wb_of32 (x : Int32) : ∃ n, n < 2 ^ 32 ∧ x = nI n := ⟨x.toBitVec.toNat, x.toBitVec.isLt, Int32.toBitVec_inj.mp (by show _ = BitVec.ofNat 32 _; simp)⟩
theorem wb_c : ∀ k, k < 64 → ((nI k).toInt64 &&& 63) = lN k := by decide +kernel
theorem wb_cu : ∀ k, k < 64 → ((nI k).toInt64.toUInt64 &&& Int64.toUInt64 63) = UInt64.ofNat k := by decide +kernel
theorem wb_sm : ∀ k, k < 64 → (BitVec.ofNat 64 k).smod 64 = BitVec.ofNat 64 k := by decide +kernel
theorem wb_pw {a b : Nat} (h : a ≤ b) : 2 ^ b = 2 ^ a * 2 ^ (b - a) := by rw [← Nat.pow_add]; congr 1; omega
theorem wb_lt2 {a b : Nat} (h : a < b) : 2 ^ a < 2 ^ b := Nat.pow_lt_pow_right (by decide) h
theorem wb_mod (n : Nat) : lN n = lN (n % 2 ^ 64) := wb_inj (by rw [wb_tb, wb_tb]; apply BitVec.eq_of_toNat_eq; rw [BitVec.toNat_ofNat, BitVec.toNat_ofNat, Nat.mod_mod])
theorem wb_shr {n k : Nat} (hn : n < 2 ^ 64) (hk : k < 64) : ((lN n).toUInt64 >>> ((nI k).toInt64.toUInt64 &&& Int64.toUInt64 63)).toInt64 = lN (n / 2 ^ k) := by
  rw [wb_cu k hk]
  apply wb_inj
  apply BitVec.eq_of_toNat_eq
  show ((lN n).toUInt64 >>> UInt64.ofNat k).toNat = (BitVec.ofNat 64 _).toNat
  have h1 : (UInt64.ofNat k).toNat = k := by
    show (BitVec.ofNat 64 k).toNat = k
    rw [BitVec.toNat_ofNat, Nat.mod_eq_of_lt (by omega)]
  have h2 : (lN n).toUInt64.toNat = n := wb_tn hn
  rw [UInt64.toNat_shiftRight, h1, h2, Nat.mod_eq_of_lt hk, Nat.shiftRight_eq_div_pow, BitVec.toNat_ofNat, Nat.mod_eq_of_lt (Nat.lt_of_le_of_lt (Nat.div_le_self _ _) hn)]
theorem wb_shl (n : Nat) {k : Nat} (hk : k < 64) : lN n <<< ((nI k).toInt64 &&& 63) = lN (n * 2 ^ k) := by
  rw [wb_c k hk]
  apply wb_inj
  rw [Int64.toBitVec_shiftLeft, wb_tb, wb_tb, wb_tb, wb_sm k hk]
  apply BitVec.eq_of_toNat_eq
  rw [BitVec.shiftLeft_eq', BitVec.toNat_shiftLeft, BitVec.toNat_ofNat, BitVec.toNat_ofNat, BitVec.toNat_ofNat, Nat.mod_eq_of_lt (show k < 2 ^ 64 by omega), Nat.shiftLeft_eq, Nat.mul_mod, Nat.mod_mod, ← Nat.mul_mod]
theorem wb_and {a b : Nat} (ha : a < 2 ^ 64) (hb : b < 2 ^ 64) : lN a &&& lN b = lN (a &&& b) := by
  apply wb_inj
  rw [Int64.toBitVec_and, wb_tb, wb_tb, wb_tb]
  apply BitVec.eq_of_toNat_eq
  rw [BitVec.toNat_and, BitVec.toNat_ofNat, BitVec.toNat_ofNat, BitVec.toNat_ofNat, Nat.mod_eq_of_lt ha, Nat.mod_eq_of_lt hb, Nat.mod_eq_of_lt (Nat.and_lt_two_pow _ hb)]
theorem wb_or {a b : Nat} (ha : a < 2 ^ 64) (hb : b < 2 ^ 64) : lN a ||| lN b = lN (a ||| b) := by
  apply wb_inj
  rw [Int64.toBitVec_or, wb_tb, wb_tb, wb_tb]
  apply BitVec.eq_of_toNat_eq
  rw [BitVec.toNat_or, BitVec.toNat_ofNat, BitVec.toNat_ofNat, BitVec.toNat_ofNat, Nat.mod_eq_of_lt ha, Nat.mod_eq_of_lt hb, Nat.mod_eq_of_lt (Nat.or_lt_two_pow ha hb)]
theorem wb_mask {n k : Nat} (hn : n < 2 ^ 64) (hk : k < 64) : lN n &&& lN (2 ^ k - 1) = lN (n % 2 ^ k) := by
  rw [wb_and hn (by have := wb_lt2 hk; omega), Nat.and_two_pow_sub_one_eq_mod]
theorem wb_a1 {n : Nat} (hn : n < 2 ^ 64) : lN n &&& 1 = lN (n % 2) := wb_mask (k := 1) hn (by decide)
theorem wb_bit {n k : Nat} (hn : n < 2 ^ 64) (hk : k < 64) : ((lN n).toUInt64 >>> ((nI k).toInt64.toUInt64 &&& Int64.toUInt64 63)).toInt64 &&& 1 = lN (n / 2 ^ k % 2) := by
  rw [wb_shr hn hk, wb_a1 (Nat.lt_of_le_of_lt (Nat.div_le_self _ _) hn)]
end
section
/-! CONTRACTS IN ONE FORM: arguments, cells, array classes, surroundings (ev); their start, their ends, and a call of them -/
/-- the surroundings may be handed on to a callee, and don't see frames -/
def evOK (ev : (Nat → Prop) → State → Heap → Prop) : Prop :=
  (∀ (A B : Nat → Prop) (s U : State) (H H1 : Heap), ev A s H → (∀ a : Nat, a < H.size → ¬ A a → H1[a]? = H[a]?) → s.WarmedH U.vm → (∀ q, B q → A q) → ev B U H1) ∧ ∀ (A : Nat → Prop) (U : State) (g : JFrame) (mk : MethodId) (a : Array Value), ev A U U.heap → ev A (U.calling g mk a) (U.calling g mk a).heap
def ctP (D : va_G) (cl : List vw_C) (ev : (Nat → Prop) → State → Heap → Prop) (tys : List (ClassId × FieldType)) (cs : va_W) (sz : Nat) (U : State) : Prop :=
  U.heap.size = sz ∧ va_P D cl cs U.heap ∧ va_K D cl tys U ∧ va_D (fun _ => True) cs ∧ ev (va_A cs sz) U U.heap
def ctB (D : va_G) (cl : List vw_C) (tys : List (ClassId × FieldType)) (cs : va_W) (A : Nat → Prop) (t : State) : Prop :=
  va_P D cl cs t.heap ∧ va_K D cl tys t ∧ va_D A cs
def Cv {S : Type} (l : Launch) (y : MethodName) (ws : List Cond) (rm : Room) (D : va_G) (cl : List vw_C) (ev : (Nat → Prop) → State → Heap → Prop) (av : List Value) (tys : List (ClassId × FieldType)) (cs : va_W) (mc ms : Nat) (post : S → Prop) (tys' : S → List (ClassId × FieldType)) (cs' : S → va_W) : Prop :=
  ∀ sz : Nat, Met l y ws rm (va_Pc av (ctP D cl ev tys cs sz)) (va_Qv post (fun u t => ctB D cl (tys' u) (cs' u) (va_A cs sz) t) (va_A cs sz)) mc ms (va_A cs sz)
def Ci {S : Type} (l : Launch) (y : MethodName) (ws : List Cond) (rm : Room) (D : va_G) (cl : List vw_C) (ev : (Nat → Prop) → State → Heap → Prop) (av : List Value) (tys : List (ClassId × FieldType)) (cs : va_W) (mc ms : Nat) (post : Int32 → S → Prop) (tys' : S → List (ClassId × FieldType)) (cs' : S → va_W) : Prop :=
  ∀ sz : Nat, Met l y ws rm (va_Pc av (ctP D cl ev tys cs sz)) (va_Qi post (fun u t => ctB D cl (tys' u) (cs' u) (va_A cs sz) t) (va_A cs sz)) mc ms (va_A cs sz)
def Cl {S : Type} (l : Launch) (y : MethodName) (ws : List Cond) (rm : Room) (D : va_G) (cl : List vw_C) (ev : (Nat → Prop) → State → Heap → Prop) (av : List Value) (tys : List (ClassId × FieldType)) (cs : va_W) (mc ms : Nat) (post : Int64 → S → Prop) (tys' : S → List (ClassId × FieldType)) (cs' : S → va_W) : Prop :=
  ∀ sz : Nat, Met l y ws rm (va_Pc av (ctP D cl ev tys cs sz)) (va_Ql post (fun u t => ctB D cl (tys' u) (cs' u) (va_A cs sz) t) (va_A cs sz)) mc ms (va_A cs sz)
section CT
variable {p : Program} {l : Launch} {e : Env} {R : Room} {s : State} {m : MethodId} {args : Array Value} {below : List Frame} {meth : Method} {c : Code} {H : Heap} {locs : List Loc} {cells slots : Nat} {Q : State → Prop}
variable {cc : ByteArray} {pc : Nat} {ls : Array Slot} {rest st0 : List Value} {D : va_G} {cl : List vw_C} {A : Nat → Prop} {tys : List (ClassId × FieldType)} {ws : va_W} {ev : (Nat → Prop) → State → Heap → Prop}
theorem tv_i {x : Int32} (v : Int32) (h : x = v) (k : W p l e R s m args below meth c H locs cells slots Q (F0 m pc ls (.int v :: rest))) : W p l e R s m args below meth c H locs cells slots Q (F0 m pc ls (.int x :: rest)) := by
  subst h; exact k
theorem tv_l {x : Int64} (v : Int64) (h : x = v) (k : W p l e R s m args below meth c H locs cells slots Q (F0 m pc ls (.long v :: rest))) : W p l e R s m args below meth c H locs cells slots Q (F0 m pc ls (.long x :: rest)) := by
  subst h; exact k
theorem ct_blind {av : List Value} {cs : va_W} {sz : Nat} (hev : evOK ev) : FrameBlind (va_Pc av (ctP D cl ev tys cs sz)) := by
  intro a U g mk q
  obtain ⟨q0, q1, qP, qK, qD, qE⟩ := q
  exact ⟨q0, q1, qP, va_K.moved (u := U) (U := U.calling g mk a) (Vm.Alike.refl U.vm) qK, qD, hev.2 _ _ _ _ _ qE⟩
theorem ct_pre {av : List Value} {tysC : List (ClassId × FieldType)} {cs : va_W} (hev : evOK ev) (hP : va_P D cl ws H) (hK : va_K D cl tys s) (hD : va_D A ws) (hS : va_S A s.heap H locs) (hA : ∀ q : Nat, s.heap.size ≤ q → A q) (hE : ev A s s.heap) (isC : List Nat) (hC : isC.map (fun i => ws[i]?) = cs.map some) (hn : va_nd isC = true) (ity : List Nat) (hty : ity.filterMap (fun i => tys[i]?) = tysC) :
    ∀ U : State, U.heap = H → s.WarmedH U.vm → va_Pc av (ctP D cl ev tysC cs H.size) av.toArray U := by
  intro U hU hW
  have hPc : va_P D cl cs H := by
    intro k q hk
    have h1 : (isC.map (fun i => ws[i]?))[k]? = some (some q) := by rw [hC, List.getElem?_map, hk]; rfl
    rw [List.getElem?_map] at h1
    cases hi : isC[k]? with
    | none => rw [hi] at h1; cases h1
    | some i => rw [hi] at h1; exact hP i q (Option.some.inj h1)
  refine ⟨rfl, by rw [hU], by rw [hU]; exact hPc, va_K.moved hW.alike (hK.sub ity hty), (hD.sub isC hn hC).weaken (fun _ _ _ _ => trivial), ?_⟩
  exact hev.1 A _ s U s.heap U.heap hE (fun a h1 h2 => by rw [hU]; exact hS.2.1 a h1 h2) hW (va_free (wc := cs) hD hS hA isC hC)
theorem ct_of {y : MethodName} {wds wds' : List Cond} {rm : Room} {maxL : Nat} {ret : Option FieldType} {av : List Value} {cs : va_W} {mc ms : Nat} {Qc : (Nat → Prop) → Array Value → State → Outcome → State → Prop}
    (hy : plainName y.cls = true) (hw : wds = Cond.code y cc maxL ret :: wds') (hlen : (lg_sl av).length ≤ maxL)
    (body : ∀ (p : Program) (e : Env) (s : State) (m : MethodId) (below : List Frame) (meth : Method) (c : Code) (ls : Array Slot) (A : Nat → Prop) (H : Heap) (locs : List Loc), p.tables.exec = Jvm.exec → c.code = cc → c.maxLocals = maxL → meth.sig.returnType = ret → meth.locks = false → s.vm.findClass y.cls = some m.cls → meth.name = y.name → (∀ w ∈ wds, w.before av.toArray s = true) → (∀ q : Nat, s.heap.size ≤ q → A q) → va_P D cl cs H → va_K D cl tys s → va_D A cs → va_S A s.heap H locs → ev A s s.heap → lv_has ls maxL (lv_args 0 av) →
      W p l e rm s m av.toArray below meth c H locs 0 0 (MQ below (Qc A) av.toArray s mc ms A) (F0 m 0 ls [])) :
    ∀ sz : Nat, Met l y wds rm (va_Pc av (ctP D cl ev tys cs sz)) (Qc (va_A cs sz)) mc ms (va_A cs sz) := by
  intro sz
  refine Met.ofW (cc := cc) (maxL := maxL) (ret := ret) hy hw ?_
  intro p e s m args below meth c s₁ B hml hv
  obtain ⟨rfl, hsz, hP, hK, hD0, hE⟩ := hv
  subst hsz
  have hl := lv_entry av (n := maxL) hlen
  rw [lg_entry_eq]
  generalize (lg_sl av ++ List.replicate (maxL - (lg_sl av).length) Slot.unset).toArray = ls at hl ⊢
  exact body p e s m below meth c ls (va_A cs s.heap.size) s.heap [] B.exec B.bytes hml B.returns B.notSynchronized (findClass_of_methodNamed B.named) (name_of_methodNamed B.named B.method).1 (atoms_spec (ws := wds) B.pre) (fun q h => Or.inr h) hP hK (hD0.self (sz := s.heap.size)) va_S.rf hE hl
theorem rt_v {S : Type} {post : S → Prop} {tys' : S → List (ClassId × FieldType)} {cs' : S → va_W} (hx : p.tables.exec = Jvm.exec) (hb : c.code = cc) (hr : meth.sig.returnType = none) (hlocks : meth.locks = false) (u : S) (hp : post u) (hP : va_P D cl (cs' u) H) (hK : va_K D cl (tys' u) s) (hD : va_D A (cs' u)) (hS : va_S A s.heap H locs) (hdg : decode cc pc = .ok (.return_, 1)) :
    W p l e R s m args below meth c H locs cells slots (MQ below (va_Qv post (fun u t => ctB D cl (tys' u) (cs' u) A t) A) args s cells slots A) (F0 m pc ls []) :=
  W.vret hx hb hr (fun t ht hW => ⟨⟨u, rfl, hp, by rw [ht]; exact hP, va_K.moved hW.alike hK, hD⟩, hS.F ht⟩) hS.2.2 hdg hlocks
theorem rt_i {S : Type} {post : Int32 → S → Prop} {tys' : S → List (ClassId × FieldType)} {cs' : S → va_W} {v : Int32} {ty : FieldType} (hx : p.tables.exec = Jvm.exec) (hb : c.code = cc) (hr : meth.sig.returnType = some ty) (hlocks : meth.locks = false) (hn : narrow ty (.int v) = .int v) (u : S) (hp : post v u) (hP : va_P D cl (cs' u) H) (hK : va_K D cl (tys' u) s) (hD : va_D A (cs' u)) (hS : va_S A s.heap H locs) (hdg : decode cc pc = .ok (.ireturn, 1)) :
    W p l e R s m args below meth c H locs cells slots (MQ below (va_Qi post (fun u t => ctB D cl (tys' u) (cs' u) A t) A) args s cells slots A) (F0 m pc ls [.int v]) :=
  W.zret hx hb hr hn (fun t ht hW => ⟨⟨v, u, rfl, hp, by rw [ht]; exact hP, va_K.moved hW.alike hK, hD⟩, hS.F ht⟩) hS.2.2 hdg hlocks
theorem rt_l {S : Type} {post : Int64 → S → Prop} {tys' : S → List (ClassId × FieldType)} {cs' : S → va_W} {v : Int64} (hx : p.tables.exec = Jvm.exec) (hb : c.code = cc) (hr : meth.sig.returnType = some .long) (hlocks : meth.locks = false) (u : S) (hp : post v u) (hP : va_P D cl (cs' u) H) (hK : va_K D cl (tys' u) s) (hD : va_D A (cs' u)) (hS : va_S A s.heap H locs) (hdg : decode cc pc = .ok (.lreturn, 1)) :
    W p l e R s m args below meth c H locs cells slots (MQ below (va_Ql post (fun u t => ctB D cl (tys' u) (cs' u) A t) A) args s cells slots A) (F0 m pc ls [.long v]) :=
  W.lret hx hb hr (fun t ht hW => ⟨⟨v, u, rfl, hp, by rw [ht]; exact hP, va_K.moved hW.alike hK, hD⟩, hS.F ht⟩) hS.2.2 hdg hlocks
variable {a : Array Value} {mc ms : Nat} {wc : va_W}
theorem ca_v {S : Type} {post : S → Prop} {tys' : S → List (ClassId × FieldType)} {cs' : S → va_W} (wr : va_W) (hr : va_Run p l e R s m args below meth c H locs cells slots mc ms (F0 m pc ls st0) rest (va_Qv post (fun u t => ctB D cl (tys' u) (cs' u) (va_A wc H.size) t) (va_A wc H.size) a) (va_A wc H.size)) (hP : va_P D cl ws H) (hD : va_D A ws) (hS : va_S A s.heap H locs) (hA : ∀ q : Nat, s.heap.size ≤ q → A q)
    (isC isR : List Nat) (hC : isC.map (fun i => ws[i]?) = wc.map some) (hR : isR.map (fun i => ws[i]?) = wr.map some) (hn : va_nd isR = true) (hdis : ∀ i ∈ isR, i ∉ isC)
    (kk : ∀ (u : S) (H1 : Heap) (locs1 : List Loc), post u → va_P D cl (wr ++ cs' u) H1 → va_D A (wr ++ cs' u) → va_S A s.heap H1 locs1 → va_K D cl (tys' u) s → W p l e R s m args below meth c H1 locs1 (cells + mc) (slots + ms) Q (F0 m (pc + 3) ls rest)) : W p l e R s m args below meth c H locs cells slots Q (F0 m pc ls st0) := by
  have hF := va_free (wc := wc) hD hS hA isC hC
  refine va_callv hr hS (fun q _ h => hF q h) hF (fun u t H1 locs1 ht hvm hw hB hz1 hk1 hS1 => ?_)
  obtain ⟨hP1, hK1, hD1⟩ := hB
  rw [ht] at hP1
  obtain ⟨hP2, hD2⟩ := va_join (wr := wr) (w1 := cs' u) hP hD isC isR hC hR hn hdis hk1 hF hP1 hD1
  exact kk u H1 locs1 hw hP2 hD2 hS1 (va_K.moved hvm.symm hK1)
theorem ca_i {S : Type} {post : Int32 → S → Prop} {tys' : S → List (ClassId × FieldType)} {cs' : S → va_W} (wr : va_W) (hr : va_Run p l e R s m args below meth c H locs cells slots mc ms (F0 m pc ls st0) rest (va_Qi post (fun u t => ctB D cl (tys' u) (cs' u) (va_A wc H.size) t) (va_A wc H.size) a) (va_A wc H.size)) (hP : va_P D cl ws H) (hD : va_D A ws) (hS : va_S A s.heap H locs) (hA : ∀ q : Nat, s.heap.size ≤ q → A q)
    (isC isR : List Nat) (hC : isC.map (fun i => ws[i]?) = wc.map some) (hR : isR.map (fun i => ws[i]?) = wr.map some) (hn : va_nd isR = true) (hdis : ∀ i ∈ isR, i ∉ isC)
    (kk : ∀ (r : Int32) (u : S) (H1 : Heap) (locs1 : List Loc), post r u → va_P D cl (wr ++ cs' u) H1 → va_D A (wr ++ cs' u) → va_S A s.heap H1 locs1 → va_K D cl (tys' u) s → W p l e R s m args below meth c H1 locs1 (cells + mc) (slots + ms) Q (F0 m (pc + 3) ls (.int r :: rest))) : W p l e R s m args below meth c H locs cells slots Q (F0 m pc ls st0) := by
  have hF := va_free (wc := wc) hD hS hA isC hC
  refine va_calli hr hS (fun q _ h => hF q h) hF (fun r u t H1 locs1 ht hvm hw hB hz1 hk1 hS1 => ?_)
  obtain ⟨hP1, hK1, hD1⟩ := hB
  rw [ht] at hP1
  obtain ⟨hP2, hD2⟩ := va_join (wr := wr) (w1 := cs' u) hP hD isC isR hC hR hn hdis hk1 hF hP1 hD1
  exact kk r u H1 locs1 hw hP2 hD2 hS1 (va_K.moved hvm.symm hK1)
theorem ca_l {S : Type} {post : Int64 → S → Prop} {tys' : S → List (ClassId × FieldType)} {cs' : S → va_W} (wr : va_W) (hr : va_Run p l e R s m args below meth c H locs cells slots mc ms (F0 m pc ls st0) rest (va_Ql post (fun u t => ctB D cl (tys' u) (cs' u) (va_A wc H.size) t) (va_A wc H.size) a) (va_A wc H.size)) (hP : va_P D cl ws H) (hD : va_D A ws) (hS : va_S A s.heap H locs) (hA : ∀ q : Nat, s.heap.size ≤ q → A q)
    (isC isR : List Nat) (hC : isC.map (fun i => ws[i]?) = wc.map some) (hR : isR.map (fun i => ws[i]?) = wr.map some) (hn : va_nd isR = true) (hdis : ∀ i ∈ isR, i ∉ isC)
    (kk : ∀ (r : Int64) (u : S) (H1 : Heap) (locs1 : List Loc), post r u → va_P D cl (wr ++ cs' u) H1 → va_D A (wr ++ cs' u) → va_S A s.heap H1 locs1 → va_K D cl (tys' u) s → W p l e R s m args below meth c H1 locs1 (cells + mc) (slots + ms) Q (F0 m (pc + 3) ls (.long r :: rest))) : W p l e R s m args below meth c H locs cells slots Q (F0 m pc ls st0) := by
  have hF := va_free (wc := wc) hD hS hA isC hC
  refine va_calll hr hS (fun q _ h => hF q h) hF (fun r u t H1 locs1 ht hvm hw hB hz1 hk1 hS1 => ?_)
  obtain ⟨hP1, hK1, hD1⟩ := hB
  rw [ht] at hP1
  obtain ⟨hP2, hD2⟩ := va_join (wr := wr) (w1 := cs' u) hP hD isC isR hC hR hn hdis hk1 hF hP1 hD1
  exact kk r u H1 locs1 hw hP2 hD2 hS1 (va_K.moved hvm.symm hK1)
end CT
end
section
/-! ROUNDING: the nearest whole number, the nearest number of a kind (precision P, Z units above the lowest), in lowest units a / b -/
/-- how many bits -/
def bln (q : Nat) : Nat := if q = 0 then 0 else Nat.log2 q + 1
theorem bln_0 : bln 0 = 0 := rfl
theorem bln_lt (q : Nat) : q < 2 ^ bln q := by
  unfold bln
  by_cases h : q = 0
  · rw [if_pos h, h]; decide
  · rw [if_neg h]; exact (Nat.log2_lt h).mp (Nat.lt_succ_self _)
theorem bln_le {q : Nat} (h : q ≠ 0) : 2 ^ (bln q - 1) ≤ q := by
  unfold bln
  rw [if_neg h, Nat.add_sub_cancel]
  exact (Nat.le_log2 h).mp (Nat.le_refl _)
theorem bln_pos {q : Nat} (h : q ≠ 0) : 0 < bln q := by unfold bln; rw [if_neg h]; omega
theorem bln_eq {q k : Nat} (h1 : 2 ^ k ≤ q) (h2 : q < 2 ^ (k + 1)) : bln q = k + 1 := by
  have hq : q ≠ 0 := by have := Nat.two_pow_pos k; omega
  have a1 : k ≤ q.log2 := (Nat.le_log2 hq).mpr h1
  have a2 : q.log2 < k + 1 := (Nat.log2_lt hq).mpr h2
  unfold bln
  rw [if_neg hq]; omega
theorem bln_le_of {q k : Nat} (h : q < 2 ^ k) : bln q ≤ k := by
  unfold bln
  by_cases hq : q = 0
  · rw [if_pos hq]; omega
  · rw [if_neg hq]; exact (Nat.log2_lt hq).mpr h
theorem lt_bln {q k : Nat} (h : 2 ^ k ≤ q) : k < bln q := by
  have hq : q ≠ 0 := by have := Nat.two_pow_pos k; omega
  unfold bln
  rw [if_neg hq]
  have := (Nat.le_log2 hq).mpr h
  omega
/-- a / b to the nearest whole number, of two to the even one -/
def rne (a b : Nat) : Nat := if b < 2 * (a % b) ∨ (2 * (a % b) = b ∧ (a / b) % 2 = 1) then a / b + 1 else a / b
/-- how many units of the lowest, as a power of two, a number with q lowest units is told in -/
def ju (P q : Nat) : Nat := bln q - P
/-- the bits of the nearest number to a / b lowest units -/
def rn (P Z a b : Nat) : Nat := if Z < ju P (a / b) then (Z + 2) * 2 ^ (P - 1) else ju P (a / b) * 2 ^ (P - 1) + rne a (b * 2 ^ ju P (a / b))
theorem rne_scale {a b k : Nat} (hk : 0 < k) : rne (a * k) (b * k) = rne a b := by
  unfold rne
  rw [Nat.mul_div_mul_right a b hk, Nat.mul_mod_mul_right]
  have e1 : (b * k < 2 * (a % b * k)) ↔ b < 2 * (a % b) := by
    rw [← Nat.mul_assoc]; exact Nat.mul_lt_mul_right hk
  have e2 : (2 * (a % b * k) = b * k) ↔ 2 * (a % b) = b := by
    rw [← Nat.mul_assoc]; exact Nat.mul_left_inj (Nat.pos_iff_ne_zero.mp hk)
  simp only [e1, e2]
theorem rn_scale {P Z a b k : Nat} (hk : 0 < k) : rn P Z (a * k) (b * k) = rn P Z a b := by
  unfold rn
  rw [Nat.mul_div_mul_right a b hk]
  have e : b * k * 2 ^ ju P (a / b) = b * 2 ^ ju P (a / b) * k := by rw [Nat.mul_assoc, Nat.mul_comm k, ← Nat.mul_assoc]
  rw [e, rne_scale hk]
theorem rne_at {a b q r : Nat} (h : a = q * b + r) (hr : r < b) : rne a b = if b < 2 * r ∨ (2 * r = b ∧ q % 2 = 1) then q + 1 else q := by
  have hb : 0 < b := by omega
  have hd : a / b = q := by rw [h, Nat.mul_comm, Nat.mul_add_div hb, Nat.div_eq_of_lt hr]; omega
  have hm : a % b = r := by rw [h, Nat.mul_comm, Nat.mul_add_mod, Nat.mod_eq_of_lt hr]
  unfold rne
  rw [hd, hm]
theorem rne_exact {b q : Nat} (hb : 0 < b) : rne (q * b) b = q := by
  rw [rne_at (q := q) (r := 0) (by omega) hb]
  rw [if_neg (by omega)]
/-- a number that was cut off behind its d lowest bits, with 'more' behind it -/
def rd (lead d : Nat) (more : Bool) : Nat := if 2 ^ (d - 1) < lead % 2 ^ d ∨ (lead % 2 ^ d = 2 ^ (d - 1) ∧ (more = true ∨ (lead / 2 ^ d) % 2 = 1)) then lead / 2 ^ d + 1 else lead / 2 ^ d
theorem rne_rd {a c lead d : Nat} {more : Bool} (hd : 0 < d) (h1 : lead * c ≤ a) (h2 : a < (lead + 1) * c) (hm : more = true ↔ lead * c ≠ a) : rne a (c * 2 ^ d) = rd lead d more := by
  obtain ⟨q, hq⟩ : ∃ q, q = lead / 2 ^ d := ⟨_, rfl⟩
  obtain ⟨r, hr⟩ : ∃ r, r = lead % 2 ^ d := ⟨_, rfl⟩
  obtain ⟨e, he⟩ : ∃ e, e = a - lead * c := ⟨_, rfl⟩
  have hp : 2 ^ d = 2 * 2 ^ (d - 1) := by
    have : d = (d - 1) + 1 := by omega
    rw [this, Nat.pow_succ, Nat.mul_comm]; rfl
  obtain ⟨hf, hhf⟩ : ∃ hf, hf = 2 ^ (d - 1) := ⟨_, rfl⟩
  have hf0 : 0 < hf := by rw [hhf]; exact Nat.two_pow_pos _
  have hlead : lead = q * 2 ^ d + r := by rw [hq, hr, Nat.mul_comm]; exact (Nat.div_add_mod lead (2 ^ d)).symm
  have hrl : r < 2 ^ d := by rw [hr]; exact Nat.mod_lt _ (Nat.two_pow_pos d)
  have hec : e < c := by
    rw [Nat.add_mul, Nat.one_mul] at h2; omega
  have ha : a = lead * c + e := by omega
  have hrc : (r + 1) * c ≤ 2 ^ d * c := Nat.mul_le_mul_right c hrl
  have hrlt : r * c + e < c * 2 ^ d := by
    rw [Nat.add_mul, Nat.one_mul] at hrc
    rw [Nat.mul_comm c]; omega
  have ha2 : a = q * (c * 2 ^ d) + (r * c + e) := by
    rw [ha, hlead, Nat.add_mul, Nat.mul_assoc q, Nat.mul_comm (2 ^ d) c, Nat.add_assoc]
  rw [rne_at ha2 hrlt]
  unfold rd
  rw [← hq, ← hr, ← hhf]
  have hmm : more = true ↔ 0 < e := by
    rw [hm]; omega
  have hcd : c * 2 ^ d = 2 * (hf * c) := by rw [hp, ← hhf, Nat.mul_comm c, Nat.mul_assoc]
  have key : (c * 2 ^ d < 2 * (r * c + e) ∨ (2 * (r * c + e) = c * 2 ^ d ∧ q % 2 = 1)) ↔ (hf < r ∨ (r = hf ∧ (more = true ∨ q % 2 = 1))) := by
    rw [hmm, hcd]
    rcases Nat.lt_trichotomy r hf with h | h | h
    · have : (r + 1) * c ≤ hf * c := Nat.mul_le_mul_right c h
      rw [Nat.add_mul, Nat.one_mul] at this
      constructor
      · intro z; rcases z with z | z <;> omega
      · intro z; rcases z with z | z <;> omega
    · subst h
      constructor
      · intro z
        rcases z with z | z
        · exact Or.inr ⟨rfl, Or.inl (by omega)⟩
        · exact Or.inr ⟨rfl, Or.inr z.2⟩
      · intro z
        rcases z with z | z
        · omega
        · rcases z.2 with y | y
          · exact Or.inl (by omega)
          · by_cases h0 : 0 < e
            · exact Or.inl (by omega)
            · exact Or.inr ⟨by omega, y⟩
    · have : (hf + 1) * c ≤ r * c := Nat.mul_le_mul_right c h
      rw [Nat.add_mul, Nat.one_mul] at this
      have hc0 : 0 < c := by omega
      exact ⟨fun _ => Or.inl h, fun _ => Or.inl (by omega)⟩
  simp only [key]
/-- the bits of the nearest number to lead * 2^pe lowest units, or to a size above that and below (lead + 1) * 2^pe -/
def kn (P Z lead : Nat) (pe : Int) (more : Bool) : Nat :=
  if lead = 0 then 0 else
  if Z < (pe + bln lead - P).toNat then (Z + 2) * 2 ^ (P - 1) else
  (pe + bln lead - P).toNat * 2 ^ (P - 1) + (if ((pe + bln lead - P).toNat : Int) ≤ pe then lead * 2 ^ (pe - (pe + bln lead - P).toNat).toNat else rd lead ((pe + bln lead - P).toNat - pe).toNat more)
theorem two_pow_le {a b : Nat} (h : a ≤ b) : 2 ^ a ≤ 2 ^ b := Nat.pow_le_pow_right (by decide) h
/-- the unit of a size that lies in [lead, lead + 1) * 2^u / 2^v -/
theorem ju_of {P a b lead u v : Nat} {pe : Int} (hb : 0 < b) (hl : lead ≠ 0) (hpe : pe = (u : Int) - v) (h1 : lead * 2 ^ u * b ≤ a * 2 ^ v) (h2 : a * 2 ^ v < (lead + 1) * 2 ^ u * b) : ju P (a / b) = (pe + bln lead - P).toNat := by
  have l1 := bln_le hl
  have l2 := bln_lt lead
  have l0 := bln_pos hl
  -- a / b below 2^(bln lead + u - v), and not below half of it
  have up : a * 2 ^ v < 2 ^ (bln lead + u) * b := by
    refine Nat.lt_of_lt_of_le h2 ?_
    rw [Nat.pow_add]
    exact Nat.mul_le_mul_right b (Nat.mul_le_mul_right _ l2)
  have lo : 2 ^ (bln lead - 1 + u) * b ≤ a * 2 ^ v := by
    refine Nat.le_trans ?_ h1
    rw [Nat.pow_add]
    exact Nat.mul_le_mul_right b (Nat.mul_le_mul_right _ l1)
  unfold ju
  rcases Nat.lt_or_ge (bln lead + u) (v + 1) with hv | hv
  · -- the size is below 1
    have : a / b = 0 := by
      refine Nat.div_eq_of_lt ?_
      have h3 : 2 ^ (bln lead + u) ≤ 2 ^ v := two_pow_le (by omega)
      have h4 : a * 2 ^ v < b * 2 ^ v := Nat.lt_of_lt_of_le up (by rw [Nat.mul_comm]; exact Nat.mul_le_mul_left b h3)
      exact Nat.lt_of_mul_lt_mul_right h4
    rw [this, bln_0]; omega
  · have g1 : a / b < 2 ^ (bln lead + u - v) := by
      rw [Nat.div_lt_iff_lt_mul hb]
      have e : 2 ^ (bln lead + u) = 2 ^ (bln lead + u - v) * 2 ^ v := by rw [← Nat.pow_add]; congr 1; omega
      rw [e] at up
      have h4 : a * 2 ^ v < 2 ^ (bln lead + u - v) * b * 2 ^ v := by
        rw [Nat.mul_assoc, Nat.mul_comm b, ← Nat.mul_assoc]; exact up
      exact Nat.lt_of_mul_lt_mul_right h4
    have g2 : 2 ^ (bln lead - 1 + u - v) ≤ a / b := by
      rw [Nat.le_div_iff_mul_le hb]
      have e : 2 ^ (bln lead - 1 + u) = 2 ^ (bln lead - 1 + u - v) * 2 ^ v := by rw [← Nat.pow_add]; congr 1; omega
      rw [e] at lo
      have h4 : 2 ^ (bln lead - 1 + u - v) * b * 2 ^ v ≤ a * 2 ^ v := by
        rw [Nat.mul_assoc, Nat.mul_comm b, ← Nat.mul_assoc]; exact lo
      exact Nat.le_of_mul_le_mul_right h4 (Nat.two_pow_pos v)
    have e1 : bln lead - 1 + u - v + 1 = bln lead + u - v := by omega
    have := bln_eq g2 (by rw [e1]; exact g1)
    rw [this]; omega
/-- what is cut off with 'more' behind it is rounded as the whole is -/
theorem rn_kn {P Z a b lead u v : Nat} {pe : Int} {more : Bool} (hb : 0 < b) (hpe : pe = (u : Int) - v) (h1 : lead * 2 ^ u * b ≤ a * 2 ^ v) (h2 : a * 2 ^ v < (lead + 1) * 2 ^ u * b) (hm : more = true ↔ lead * 2 ^ u * b ≠ a * 2 ^ v) (hx : more = true → pe < ((pe + bln lead - P).toNat : Int)) : rn P Z a b = kn P Z lead pe more := by
  by_cases hl : lead = 0
  · subst hl
    unfold kn
    rw [if_pos rfl]
    rw [Nat.zero_add, Nat.one_mul] at h2
    rw [Nat.zero_mul, Nat.zero_mul] at hm
    have hz : 2 * a < b := by
      by_cases ha : a = 0
      · subst ha; omega
      · have hmt : more = true := hm.mpr (fun h => ha (by
          have := Nat.two_pow_pos v
          rcases Nat.mul_eq_zero.mp h.symm with z | z
          · exact z
          · omega))
        have hp := hx hmt
        rw [bln_0] at hp
        have huv : u + 1 ≤ v := by omega
        have e : 2 ^ v = 2 ^ (v - u) * 2 ^ u := by rw [← Nat.pow_add]; congr 1; omega
        have h3 : a * 2 ^ (v - u) * 2 ^ u < b * 2 ^ u := by
          rw [Nat.mul_assoc, ← e, Nat.mul_comm b]; exact h2
        have h4 := Nat.lt_of_mul_lt_mul_right h3
        have h5 : 2 ^ 1 ≤ 2 ^ (v - u) := two_pow_le (by omega)
        have h6 : a * 2 ≤ a * 2 ^ (v - u) := Nat.mul_le_mul_left a h5
        omega
    have hd : a / b = 0 := Nat.div_eq_of_lt (by omega)
    unfold rn
    have hj : ju P (a / b) = 0 := by unfold ju; rw [hd, bln_0]; omega
    rw [hj, if_neg (by omega), Nat.zero_mul, Nat.zero_add, Nat.pow_zero, Nat.mul_one]
    rw [rne_at (q := 0) (r := a) (by omega) (by omega)]
    rw [if_neg (by omega)]
  · have hj := ju_of (P := P) hb hl hpe h1 h2
    unfold rn kn
    rw [hj, if_neg hl]
    generalize (pe + (bln lead : Int) - P).toNat = j at hx ⊢
    by_cases hz : Z < j
    · rw [if_pos hz, if_pos hz]
    · rw [if_neg hz, if_neg hz]
      congr 1
      have e1 : rne a (b * 2 ^ j) = rne (a * 2 ^ v) (b * 2 ^ (j + v)) := by
        rw [Nat.pow_add, ← Nat.mul_assoc, rne_scale (Nat.two_pow_pos v)]
      rw [e1]
      by_cases hjp : (j : Int) ≤ pe
      · rw [if_pos hjp]
        have hmf : ¬ more = true := fun h => by have := hx h; omega
        have hea : lead * 2 ^ u * b = a * 2 ^ v := by
          by_cases h : lead * 2 ^ u * b = a * 2 ^ v
          · exact h
          · exact absurd (hm.mpr h) hmf
        have e2 : u = (pe - j).toNat + (j + v) := by omega
        have e3 : a * 2 ^ v = lead * 2 ^ (pe - j).toNat * (b * 2 ^ (j + v)) := by
          rw [← hea]
          conv => lhs; rw [e2]
          rw [Nat.pow_add, Nat.mul_comm b, ← Nat.mul_assoc, ← Nat.mul_assoc]
        rw [e3, rne_exact (Nat.mul_pos hb (Nat.two_pow_pos _))]
      · rw [if_neg hjp]
        have e2 : j + v = u + ((j : Int) - pe).toNat := by omega
        have e3 : b * 2 ^ (j + v) = (2 ^ u * b) * 2 ^ ((j : Int) - pe).toNat := by
          rw [e2, Nat.pow_add, Nat.mul_comm b, Nat.mul_assoc, Nat.mul_comm _ b, ← Nat.mul_assoc]
        rw [e3]
        refine rne_rd (by omega) ?_ ?_ ?_
        · rw [← Nat.mul_assoc]; exact h1
        · rw [← Nat.mul_assoc]; exact h2
        · rw [← Nat.mul_assoc]; exact hm
end
section
/-! WHOLE NUMBERS IN LIMBS of 32 bits, the lowest first -/
def w32 (x : Int32) : Nat := x.toBitVec.toNat
theorem w32_lt (x : Int32) : w32 x < 4294967296 := x.toBitVec.isLt
theorem w32_nI {n : Nat} (h : n < 4294967296) : w32 (nI n) = n := pk_tn h
theorem w32_0 : w32 0 = 0 := rfl
theorem w32_inj {x y : Int32} (h : w32 x = w32 y) : x = y := Int32.toBitVec_inj.mp (BitVec.eq_of_toNat_eq h)
theorem nI_w32 (x : Int32) : nI (w32 x) = x := w32_inj (w32_nI (w32_lt x))
theorem w32_ne {x : Int32} (h : x ≠ 0) : w32 x ≠ 0 := fun z => h (w32_inj (by rw [z, w32_0]))
/-- 2^(32 n) -/
def pw (n : Nat) : Nat := 4294967296 ^ n
theorem pw_s (n : Nat) : pw (n + 1) = pw n * 4294967296 := Nat.pow_succ 4294967296 n
theorem pw_0 : pw 0 = 1 := rfl
theorem pw_pos (n : Nat) : 0 < pw n := Nat.pow_pos (by decide)
theorem pw_le {a b : Nat} (h : a ≤ b) : pw a ≤ pw b := Nat.pow_le_pow_right (by decide) h
theorem pw_add (a b : Nat) : pw (a + b) = pw a * pw b := Nat.pow_add _ _ _
theorem pw_2 (n : Nat) : pw n = 2 ^ (32 * n) := by unfold pw; rw [Nat.pow_mul]
def bv (f : Nat → Int32) : Nat → Nat
  | 0 => 0
  | n + 1 => bv f n + w32 (f n) * pw n
theorem bv_0 (f : Nat → Int32) : bv f 0 = 0 := rfl
theorem bv_s (f : Nat → Int32) (n : Nat) : bv f (n + 1) = bv f n + w32 (f n) * pw n := rfl
theorem bv_congr {f g : Nat → Int32} {n : Nat} (h : ∀ j, j < n → f j = g j) : bv f n = bv g n := by
  induction n with
  | zero => rfl
  | succ n ih => rw [bv_s, bv_s, ih (fun j hj => h j (by omega)), h n (by omega)]
theorem bv_lt (f : Nat → Int32) (n : Nat) : bv f n < pw n := by
  induction n with
  | zero => exact Nat.one_pos
  | succ n ih =>
    rw [bv_s, pw_s]
    have h1 : (w32 (f n) + 1) * pw n ≤ 4294967296 * pw n := Nat.mul_le_mul_right _ (w32_lt (f n))
    rw [Nat.add_mul, Nat.one_mul] at h1
    rw [Nat.mul_comm (pw n)]; omega
theorem bv_upd {f : Nat → Int32} {n k : Nat} {x : Int32} (h : n ≤ k) : bv (upd f k x) n = bv f n := bv_congr (fun j hj => pk_un (by omega))
theorem bv_ge {f : Nat → Int32} {n : Nat} (h : f n ≠ 0) : pw n ≤ bv f (n + 1) := by
  rw [bv_s]
  have h1 : 1 * pw n ≤ w32 (f n) * pw n := Nat.mul_le_mul_right _ (Nat.pos_of_ne_zero (w32_ne h))
  omega
/-- n limbs f of 96 hold V, and the highest of them isn't 0 -/
def isB (f : Nat → Int32) (n V : Nat) : Prop := bv f n = V ∧ n ≤ 96 ∧ (n = 0 ∨ f (n - 1) ≠ 0)
theorem isB_lt {f : Nat → Int32} {n V : Nat} (h : isB f n V) : V < pw n := by rw [← h.1]; exact bv_lt f n
theorem isB_ge {f : Nat → Int32} {n V : Nat} (h : isB f (n + 1) V) : pw n ≤ V := by
  rw [← h.1]
  rcases h.2.2 with z | z
  · omega
  · exact bv_ge z
theorem isB_0 {f : Nat → Int32} {n V : Nat} (h : isB f n V) : n = 0 ↔ V = 0 := by
  constructor
  · intro z; subst z; exact h.1.symm
  · intro z
    cases n with
    | zero => rfl
    | succ n =>
      have := isB_ge h
      have := pw_pos n
      omega
theorem pw_lt_iff {a b : Nat} : pw a < pw b ↔ a < b := Nat.pow_lt_pow_iff_right (by decide)
/-- the number of limbs is told by the number -/
theorem isB_le {f g : Nat → Int32} {n k V U : Nat} (h : isB f n V) (h2 : isB g k U) (hVU : V ≤ U) : n ≤ k := by
  cases n with
  | zero => omega
  | succ n =>
    have h3 := isB_ge h
    have h4 := isB_lt h2
    have h5 : pw n < pw k := by omega
    have := pw_lt_iff.mp h5
    omega
theorem isB_n {f : Nat → Int32} {n V k : Nat} (h : isB f n V) (hV : V < pw k) : n ≤ k := by
  cases n with
  | zero => omega
  | succ n =>
    have h3 := isB_ge h
    have h5 : pw n < pw k := by omega
    have := pw_lt_iff.mp h5
    omega
/-- a step of times and plus -/
theorem tp_step {f g : Nat → Int32} {i k m cy : Nat} (hg : ∀ j, i ≤ j → g j = f j) (h : bv g i + cy * pw i = bv f i * k + m) :
    bv (upd g i (nI ((w32 (g i) * k + cy) % 4294967296))) (i + 1) + (w32 (g i) * k + cy) / 4294967296 * pw (i + 1) = bv f (i + 1) * k + m := by
  rw [bv_s, bv_upd (Nat.le_refl i), pk_us, w32_nI (Nat.mod_lt _ (by decide)), bv_s, ← hg i (Nat.le_refl i), pw_s]
  generalize hT : w32 (g i) * k + cy = T
  have e1 : T = T / 4294967296 * 4294967296 + T % 4294967296 := by omega
  have e2 : T * pw i = T / 4294967296 * (pw i * 4294967296) + T % 4294967296 * pw i := by
    conv => lhs; rw [e1]
    rw [Nat.add_mul, Nat.mul_assoc, Nat.mul_comm 4294967296]
  have e3 : T * pw i = w32 (g i) * k * pw i + cy * pw i := by rw [← hT, Nat.add_mul]
  have e4 : (bv f i + w32 (g i) * pw i) * k = bv f i * k + w32 (g i) * k * pw i := by
    rw [Nat.add_mul, Nat.mul_assoc, Nat.mul_comm (pw i), ← Nat.mul_assoc]
  rw [e4]
  omega
theorem tp_cy {w k cy : Nat} (hw : w < 4294967296) (hk : k < 2147483648) (hc : cy < 2147483648) : (w * k + cy) / 4294967296 < 2147483648 ∧ w * k + cy < 9223372036854775808 := by
  have h1 : w * k ≤ 4294967295 * 2147483647 := Nat.mul_le_mul (by omega) (by omega)
  omega
/-- the end of times and plus: a limb more, or none -/
theorem tp_end {f g : Nat → Int32} {n k m cy V : Nat} (hB : isB f n V) (hk : 0 < k) (h : bv g n + cy * pw n = V * k + m) (hc : cy < 4294967296) (hfit : V * k + m < pw 96) :
    (cy = 0 → isB g n (V * k + m)) ∧ (cy ≠ 0 → n < 96 ∧ isB (upd g n (nI cy)) (n + 1) (V * k + m)) := by
  constructor
  · intro z
    subst z
    rw [Nat.zero_mul, Nat.add_zero] at h
    refine ⟨h, hB.2.1, ?_⟩
    cases n with
    | zero => exact Or.inl rfl
    | succ n =>
      refine Or.inr (fun z => ?_)
      rw [Nat.add_sub_cancel] at z
      rw [bv_s, z, w32_0, Nat.zero_mul, Nat.add_zero] at h
      have h1 := isB_ge hB
      have h2 := bv_lt g n
      have h3 : V * 1 ≤ V * k := Nat.mul_le_mul_left V hk
      omega
  · intro z
    have h1 : 1 * pw n ≤ cy * pw n := Nat.mul_le_mul_right _ (Nat.pos_of_ne_zero z)
    have h2 : pw n < pw 96 := by omega
    have h3 := pw_lt_iff.mp h2
    refine ⟨h3, ?_, by omega, Or.inr ?_⟩
    · rw [bv_s, bv_upd (Nat.le_refl n), pk_us, w32_nI hc]; exact h
    · rw [Nat.add_sub_cancel, pk_us]
      intro y
      have := congrArg w32 y
      rw [w32_nI hc, w32_0] at this
      exact z this
/-- a step of taking away: b taken and borrowed; x is left, c borrowed from the next -/
theorem sb_step {f g o : Nat → Int32} {i b x c : Nat} (t : Nat) (hg : ∀ j, i ≤ j → g j = f j) (hx : x < 4294967296) (h : bv g i + bv o i = bv f i + b * pw i) (ho : t = w32 (o i)) (e : w32 (g i) + c * 4294967296 = x + t + b) :
    bv (upd g i (nI x)) (i + 1) + bv o (i + 1) = bv f (i + 1) + c * pw (i + 1) := by
  rw [bv_s, bv_upd (Nat.le_refl i), pk_us, w32_nI hx, bv_s, bv_s, ← hg i (Nat.le_refl i), ← ho, pw_s]
  have e2 : (w32 (g i) + c * 4294967296) * pw i = (x + t + b) * pw i := by rw [e]
  rw [Nat.add_mul, Nat.add_mul, Nat.add_mul, Nat.mul_assoc c, Nat.mul_comm 4294967296] at e2
  omega
/-- two numbers of as many limbs, of which those above i are the same: the limbs at i decide -/
theorem cp_at {f g : Nat → Int32} {n i : Nat} (hi : i < n) (he : ∀ j, i < j → j < n → f j = g j) (hl : w32 (g i) < w32 (f i)) : bv g n < bv f n := by
  induction n with
  | zero => omega
  | succ n ih =>
    rcases Nat.lt_or_ge i n with h | h
    · rw [bv_s, bv_s, he n h (by omega)]
      have := ih h (fun j h1 h2 => he j h1 (by omega))
      omega
    · have : i = n := by omega
      subst this
      rw [bv_s, bv_s]
      have h1 := bv_lt g i
      have h2 : (w32 (g i) + 1) * pw i ≤ w32 (f i) * pw i := Nat.mul_le_mul_right _ hl
      rw [Nat.add_mul, Nat.one_mul] at h2
      omega
theorem cp_n {f g : Nat → Int32} {n k V U : Nat} (h : isB f n V) (h2 : isB g k U) (hn : k < n) : U < V := by
  rcases Nat.lt_or_ge U V with z | z
  · exact z
  · have := isB_le h h2 z
    omega
/-- limbs that are 0 at the top may go -/
theorem dz_step {f : Nat → Int32} {n : Nat} (h : f n = 0) : bv f (n + 1) = bv f n := by rw [bv_s, h, w32_0]; omega
/-- limb k of a number of n limbs that is moved up by p bits, p below 32 -/
def sh_hi (f : Nat → Int32) (n k : Nat) : Nat := if k < n then w32 (f k) else 0
def sh_lo (f : Nat → Int32) (k : Nat) : Nat := if 0 < k then w32 (f (k - 1)) else 0
def sh_nw (f : Nat → Int32) (n p k : Nat) : Nat := (sh_hi f n k * 4294967296 + sh_lo f k) * 2 ^ p / 4294967296 % 4294967296
def sh_f (f : Nat → Int32) (n p : Nat) : Nat → Int32 := fun k => nI (sh_nw f n p k)
theorem sh_nw_eq {f : Nat → Int32} {n p k : Nat} (hp : p < 32) : sh_nw f n p k = sh_hi f n k * 2 ^ p % 4294967296 + sh_lo f k * 2 ^ p / 4294967296 := by
  unfold sh_nw
  have hlo : sh_lo f k < 4294967296 := by
    unfold sh_lo
    split
    · exact w32_lt _
    · decide
  obtain ⟨q, hq⟩ : ∃ q, q = 2 ^ p := ⟨_, rfl⟩
  have hq0 : 0 < q := by rw [hq]; exact Nat.two_pow_pos p
  have hqd : q * 2 ^ (32 - p) = 4294967296 := by rw [hq, ← Nat.pow_add]; have : p + (32 - p) = 32 := by omega
                                                 rw [this]
  rw [← hq]
  have e1 : (sh_hi f n k * 4294967296 + sh_lo f k) * q = sh_lo f k * q + 4294967296 * (sh_hi f n k * q) := by
    rw [Nat.add_mul, Nat.add_comm, Nat.mul_assoc, Nat.mul_left_comm]
  rw [e1, Nat.add_mul_div_left _ _ (by decide)]
  have h1 : sh_lo f k * q / 4294967296 < q := by
    rw [Nat.div_lt_iff_lt_mul (by decide), Nat.mul_comm q]
    exact Nat.mul_lt_mul_of_pos_right hlo hq0
  -- the part from above is a multiple of q below 2^32
  obtain ⟨t, ht⟩ : ∃ t, sh_hi f n k * q % 4294967296 = t * q := by
    refine ⟨sh_hi f n k % 2 ^ (32 - p), ?_⟩
    rw [← hqd, Nat.mul_comm q, Nat.mul_mod_mul_right]
  have h2 : sh_hi f n k * q % 4294967296 < 4294967296 := Nat.mod_lt _ (by decide)
  have h3 : t < 2 ^ (32 - p) := by
    rw [ht, ← hqd, Nat.mul_comm q] at h2
    exact Nat.lt_of_mul_lt_mul_right h2
  have h4 : (t + 1) * q ≤ 2 ^ (32 - p) * q := Nat.mul_le_mul_right q h3
  rw [Nat.add_mul, Nat.one_mul, Nat.mul_comm (2 ^ (32 - p)) q, hqd] at h4
  rw [Nat.add_comm, Nat.add_mod, Nat.mod_eq_of_lt (show sh_lo f k * q / 4294967296 < 4294967296 by omega), ht, Nat.mod_eq_of_lt (by omega)]
theorem sh_sum {f : Nat → Int32} {n p : Nat} (hp : p < 32) : ∀ i, i ≤ n → bv (sh_f f n p) i + sh_lo f i * 2 ^ p / 4294967296 * pw i = bv f i * 2 ^ p := by
  intro i
  induction i with
  | zero => intro _; simp [bv_0, sh_lo]
  | succ i ih =>
    intro hi
    have h := ih (by omega)
    rw [bv_s, bv_s]
    have e0 : w32 (sh_f f n p i) = sh_nw f n p i := w32_nI (Nat.mod_lt _ (by decide))
    have e1 : sh_hi f n i = w32 (f i) := by unfold sh_hi; rw [if_pos (by omega)]
    have e2 : sh_lo f (i + 1) = w32 (f i) := by unfold sh_lo; rw [if_pos (by omega), Nat.add_sub_cancel]
    rw [e0, sh_nw_eq hp, e1, e2, pw_s]
    generalize hT : w32 (f i) * 2 ^ p = T
    generalize hc : sh_lo f i * 2 ^ p / 4294967296 = cy at h ⊢
    have e3 : (bv f i + w32 (f i) * pw i) * 2 ^ p = bv f i * 2 ^ p + T * pw i := by
      rw [Nat.add_mul, ← hT, Nat.mul_assoc, Nat.mul_comm (pw i), ← Nat.mul_assoc]
    have e4 : T * pw i = T / 4294967296 * (pw i * 4294967296) + T % 4294967296 * pw i := by
      have : T = T / 4294967296 * 4294967296 + T % 4294967296 := by omega
      conv => lhs; rw [this]
      rw [Nat.add_mul, Nat.mul_assoc, Nat.mul_comm 4294967296]
    rw [e3, e4, Nat.add_mul]
    omega
theorem sh_all {f : Nat → Int32} {n p : Nat} (hp : p < 32) : bv (sh_f f n p) (n + 1) = bv f n * 2 ^ p := by
  rw [bv_s]
  have e0 : w32 (sh_f f n p n) = sh_nw f n p n := w32_nI (Nat.mod_lt _ (by decide))
  have e1 : sh_hi f n n = 0 := by unfold sh_hi; rw [if_neg (by omega)]
  rw [e0, sh_nw_eq hp, e1, Nat.zero_mul, Nat.zero_mod, Nat.zero_add]
  exact sh_sum hp n (Nat.le_refl n)
theorem bv_move {g h : Nat → Int32} {w : Nat} (h0 : ∀ j, j < w → g j = 0) : ∀ n, (∀ k, k < n → g (k + w) = h k) → bv g (n + w) = bv h n * pw w := by
  intro n
  induction n with
  | zero =>
    intro hq
    rw [Nat.zero_add, bv_0, Nat.zero_mul]
    clear hq h
    induction w with
    | zero => rfl
    | succ w ih => rw [bv_s, h0 w (by omega), w32_0, ih (fun j hj => h0 j (by omega))]; omega
  | succ n ih =>
    intro hk
    have e : n + 1 + w = n + w + 1 := by omega
    rw [e, bv_s, ih (fun k h => hk k (by omega)), hk n (by omega), bv_s, Nat.add_mul, pw_add, Nat.mul_assoc]
end
section
/-! NUMBERS OF THE MACHINE: signed ints as whole numbers, limbs as longs -/
def zI (z : Int) : Int32 := Int32.ofInt z
theorem zI_nI (n : Nat) : zI (n : Int) = nI n := Int32.ofInt_eq_ofNat
theorem zI_add (a b : Int) : zI a + zI b = zI (a + b) := (Int32.ofInt_add a b).symm
theorem zI_sub (a b : Int) : zI a - zI b = zI (a - b) := (Int32.ofInt_sub a b).symm
theorem zI_mul (a b : Int) : zI a * zI b = zI (a * b) := (Int32.ofInt_mul a b).symm
theorem zI_neg (a : Int) : -zI a = zI (-a) := (Int32.ofInt_neg a).symm
theorem zI_ti {a : Int} (h1 : -2147483648 ≤ a) (h2 : a < 2147483648) : (zI a).toInt = a := Int32.toInt_ofInt_of_le (by omega) (by omega)
theorem zI_lt {a b : Int} (h1 : -2147483648 ≤ a) (h2 : a < 2147483648) (h3 : -2147483648 ≤ b) (h4 : b < 2147483648) : zI a < zI b ↔ a < b := by
  rw [Int32.lt_iff_toInt_lt, zI_ti h1 h2, zI_ti h3 h4]
theorem zI_le {a b : Int} (h1 : -2147483648 ≤ a) (h2 : a < 2147483648) (h3 : -2147483648 ≤ b) (h4 : b < 2147483648) : zI a ≤ zI b ↔ a ≤ b := by
  rw [Int32.le_iff_toInt_le, zI_ti h1 h2, zI_ti h3 h4]
theorem zI_eq {a b : Int} (h1 : -2147483648 ≤ a) (h2 : a < 2147483648) (h3 : -2147483648 ≤ b) (h4 : b < 2147483648) : zI a = zI b ↔ a = b := by
  constructor
  · intro h
    have := congrArg Int32.toInt h
    rwa [zI_ti h1 h2, zI_ti h3 h4] at this
  · intro h; rw [h]
theorem zI_of (x : Int32) : ∃ z : Int, -2147483648 ≤ z ∧ z < 2147483648 ∧ x = zI z := by
  refine ⟨x.toInt, ?_, ?_, (Int32.ofInt_toInt x).symm⟩
  · have := x.le_toInt; omega
  · have := x.toInt_lt; omega
theorem zI_l {n : Nat} (h : n < 2147483648) : (zI (n : Int)).toInt64 = lN n := by rw [zI_nI]; exact nI_l h
/-- a limb as a long -/
theorem lim (x : Int32) : x.toInt64 &&& 4294967295 = lN (w32 x) := by
  apply Int64.toBitVec_inj.mp
  apply BitVec.eq_of_toNat_eq
  rw [Int64.toBitVec_and, BitVec.toNat_and]
  show (x.toBitVec.signExtend 64).toNat &&& (2 ^ 32 - 1) = (BitVec.ofNat 64 (w32 x)).toNat
  rw [Nat.and_two_pow_sub_one_eq_mod, BitVec.toNat_signExtend, BitVec.toNat_ofNat]
  have h := x.toBitVec.isLt
  have e : (x.toBitVec.setWidth 64).toNat = x.toBitVec.toNat := by
    rw [BitVec.toNat_setWidth]; exact Nat.mod_eq_of_lt (by omega)
  rw [e]
  unfold w32
  by_cases hm : x.toBitVec.msb = true
  · rw [if_pos hm]; omega
  · rw [if_neg hm]; omega
/-- a long that isn't below 0 -/
theorem lN_pos {n : Nat} (h : n < 9223372036854775808) : ¬ lN n < 0 := by
  rw [Int64.lt_iff_toInt_lt, pk_lT h]
  show ¬ (n : Int) < 0
  omega
theorem lN_0 : lN 0 = 0 := rfl
theorem lN_ne0 {n : Nat} (h : n < 18446744073709551616) : lN n = 0 ↔ n = 0 := by
  constructor
  · intro z
    have h1 := congrArg (fun y : Int64 => y.toBitVec.toNat) z
    have h2 : (lN n).toBitVec.toNat = n := by show (BitVec.ofNat 64 n).toNat = n; rw [BitVec.toNat_ofNat]; exact Nat.mod_eq_of_lt h
    have h1 : (lN n).toBitVec.toNat = (0 : Int64).toBitVec.toNat := h1
    rw [h2] at h1
    exact h1
  · intro z; rw [z]; rfl
theorem nI_dec {k : Nat} (h : 0 < k) : nI k - 1 = nI (k - 1) := by
  obtain ⟨j, rfl⟩ : ∃ j, k = j + 1 := ⟨k - 1, by omega⟩
  rw [Nat.add_sub_cancel]; exact nI_pred j
theorem nI_le0 {k : Nat} (h : k < 2147483648) : nI k ≤ 0 ↔ k = 0 := by
  rw [Int32.le_iff_toInt_le, nI_toInt h]
  show (k : Int) ≤ 0 ↔ k = 0
  omega
theorem nI_eq0 {k : Nat} (h : k < 4294967296) : nI k = 0 ↔ k = 0 := by
  constructor
  · intro z
    have := congrArg w32 z
    rw [w32_nI h, w32_0] at this
    exact this
  · intro z; rw [z]; rfl
theorem nI_mod (n : Nat) : nI (n % 4294967296) = nI n := by
  apply w32_inj
  rw [w32_nI (Nat.mod_lt _ (by decide))]
  show n % 4294967296 = (BitVec.ofNat 32 n).toNat
  rw [BitVec.toNat_ofNat]
theorem lN_wrap (n : Nat) : lN (n + 18446744073709551616) = lN n := by
  apply Int64.toBitVec_inj.mp
  apply BitVec.eq_of_toNat_eq
  show (BitVec.ofNat 64 _).toNat = (BitVec.ofNat 64 _).toNat
  rw [BitVec.toNat_ofNat, BitVec.toNat_ofNat]; omega
theorem nI_same {a b : Nat} (h : a % 4294967296 = b % 4294967296) : nI a = nI b := by rw [← nI_mod a, ← nI_mod b, h]
/-- a limb less another and a borrow: what is left, what is borrowed -/
theorem sub_bits {w t b : Nat} (hw : w < 4294967296) (ht : t < 4294967296) (hb : b ≤ 1) : ∃ x c : Nat, x < 4294967296 ∧ c ≤ 1 ∧ w + c * 4294967296 = x + t + b ∧ (lN w - lN t - lN b).toInt32 = nI x ∧ ((lN w - lN t - lN b).toUInt64 >>> ((63 : Int32).toInt64.toUInt64 &&& Int64.toUInt64 63)).toInt64 = lN c := by
  rcases Nat.lt_or_ge w (t + b) with h | h
  · refine ⟨w + 4294967296 - t - b, 1, by omega, by omega, by omega, ?_⟩
    have e : lN w - lN t - lN b = lN (w + 18446744073709551616 - t - b) := by
      rw [← lN_wrap w, lN_sub (by omega), lN_sub (by omega)]
    rw [e]
    constructor
    · rw [lN_i]; exact nI_same (by omega)
    · have h2 := wb_shr (n := w + 18446744073709551616 - t - b) (k := 63) (by omega) (by decide)
      have e3 : (w + 18446744073709551616 - t - b) / 2 ^ 63 = 1 := by omega
      rw [e3] at h2
      exact h2
  · refine ⟨w - t - b, 0, by omega, by omega, by omega, ?_⟩
    have e : lN w - lN t - lN b = lN (w - t - b) := by
      rw [lN_sub (by omega), lN_sub (by omega)]
    rw [e]
    constructor
    · rw [lN_i]
    · have h2 := wb_shr (n := w - t - b) (k := 63) (by omega) (by decide)
      have e3 : (w - t - b) / 2 ^ 63 = 0 := by omega
      rw [e3] at h2
      exact h2
theorem nI_dn {k : Nat} (h : 0 < k) : nI k - 1 + Int32.ofInt (-1) = nI (k - 1) - 1 := by
  rw [nI_dec h, Int32.sub_eq_add_neg]; rfl
theorem nI_m1lt {k : Nat} (h : k < 2147483648) : nI k - 1 < 0 ↔ k = 0 := by
  cases k with
  | zero => exact iff_of_true (by decide) rfl
  | succ k =>
    rw [nI_pred]
    exact iff_of_false (nI_pos (by omega)) (by omega)
/-- limbs of which none is looked at from n on -/
def ext0 (o : Nat → Int32) (n : Nat) : Nat → Int32 := fun j => if j < n then o j else 0
theorem ext0_in {o : Nat → Int32} {n j : Nat} (h : j < n) : ext0 o n j = o j := if_pos h
theorem ext0_out {o : Nat → Int32} {n j : Nat} (h : n ≤ j) : ext0 o n j = 0 := if_neg (by omega)
theorem bv_ext0 {o : Nat → Int32} {n : Nat} : ∀ k, n ≤ k → bv (ext0 o n) k = bv o n := by
  intro k
  induction k with
  | zero => intro h; have : n = 0 := by omega
            subst this; rfl
  | succ k ih =>
    intro h
    rcases Nat.lt_or_ge k n with g | g
    · have : n = k + 1 := by omega
      subst this
      exact bv_congr (fun j hj => ext0_in hj)
    · rw [bv_s, ih g, ext0_out g, w32_0]; omega
end
section
/-! WHERE NO HALF WAY LIES BETWEEN, the nearest number is the same; digits behind the last that matters -/
theorem ju_mono {P q q' : Nat} (h : q ≤ q') : ju P q ≤ ju P q' := by
  unfold ju
  by_cases hq : q = 0
  · rw [hq, bln_0]; omega
  · have h1 := bln_le hq
    have h2 : bln q - 1 < bln q' := lt_bln (Nat.le_trans h1 h)
    have := bln_pos hq
    omega
theorem rn_gap {P Z a a' b : Nat} (hb : 0 < b) (h : a ≤ a') (hno : ∀ n j : Nat, j ≤ Z → n ≤ 2 ^ (P + 1) → 2 * a ≤ n * 2 ^ j * b → ¬ n * 2 ^ j * b ≤ 2 * a') : rn P Z a b = rn P Z a' b := by
  have hq : a / b ≤ a' / b := Nat.div_le_div_right h
  by_cases hz : Z < ju P (a / b)
  · have hz' : Z < ju P (a' / b) := Nat.lt_of_lt_of_le hz (ju_mono hq)
    unfold rn
    rw [if_pos hz, if_pos hz']
  · obtain ⟨j, hj⟩ : ∃ j, j = ju P (a / b) := ⟨_, rfl⟩
    rw [← hj] at hz
    have hc : 0 < 2 ^ j * b := Nat.mul_pos (Nat.two_pow_pos j) hb
    obtain ⟨lead, hld⟩ : ∃ lead, lead = 2 * a / (2 ^ j * b) := ⟨_, rfl⟩
    have h1 : lead * (2 ^ j * b) ≤ 2 * a := by rw [hld]; exact Nat.div_mul_le_self _ _
    have h2 : 2 * a < (lead + 1) * (2 ^ j * b) := by rw [hld]; exact (Nat.div_lt_iff_lt_mul hc).mp (Nat.lt_succ_self _)
    have hq2 : a / b < 2 ^ (P + j) := by
      refine Nat.lt_of_lt_of_le (bln_lt _) (two_pow_le ?_)
      rw [hj]; unfold ju; omega
    have h3 : a < 2 ^ (P + j) * b := (Nat.div_lt_iff_lt_mul hb).mp hq2
    have h4 : lead < 2 ^ (P + 1) := by
      have e : 2 ^ (P + 1) * (2 ^ j * b) = 2 * (2 ^ (P + j) * b) := by
        rw [Nat.pow_add, Nat.pow_add, Nat.pow_one]
        rw [Nat.mul_comm (2 ^ P) 2, Nat.mul_assoc, ← Nat.mul_assoc (2 ^ P)]
      have h5 : lead * (2 ^ j * b) < 2 ^ (P + 1) * (2 ^ j * b) := by rw [e]; omega
      exact Nat.lt_of_mul_lt_mul_right h5
    have n1 : lead * 2 ^ j * b < 2 * a := by
      rcases Nat.lt_or_ge (lead * 2 ^ j * b) (2 * a) with z | z
      · exact z
      · exact absurd (by rw [Nat.mul_assoc]; omega) (hno lead j (by omega) (by omega) z)
    have n2 : 2 * a' < (lead + 1) * 2 ^ j * b := by
      have z := hno (lead + 1) j (by omega) (by omega) (by rw [Nat.mul_assoc]; omega)
      omega
    have hx : (j : Int) - 1 < (((j : Int) - 1 + bln lead - P).toNat : Int) := by
      rcases Nat.eq_zero_or_pos j with z | z
      · omega
      · have hql : 2 ^ (P + j - 1) ≤ a / b := by
          have hne : a / b ≠ 0 := by
            intro y
            rw [y] at hj; unfold ju at hj; rw [bln_0] at hj; omega
          have := bln_le hne
          have e : bln (a / b) = P + j := by rw [hj]; unfold ju; unfold ju at hj; omega
          rw [e] at this
          exact this
        have h5 : 2 ^ (P + j - 1) * b ≤ a := (Nat.le_div_iff_mul_le hb).mp hql
        have h6 : 2 ^ P * (2 ^ j * b) ≤ 2 * a := by
          have e : P + j = (P + j - 1) + 1 := by omega
          rw [← Nat.mul_assoc, ← Nat.pow_add, e, Nat.pow_succ, Nat.mul_assoc, Nat.mul_comm 2 b, ← Nat.mul_assoc]
          omega
        have h7 : 2 ^ P < lead + 1 := Nat.lt_of_mul_lt_mul_right (Nat.lt_of_le_of_lt h6 h2)
        have h8 : P < bln lead := lt_bln (by omega)
        omega
    have k1 : rn P Z a b = kn P Z lead ((j : Int) - 1) true := by
      refine rn_kn (u := j) (v := 1) hb (by omega) ?_ ?_ ?_ (fun _ => hx)
      · rw [Nat.pow_one]; omega
      · rw [Nat.pow_one, Nat.mul_assoc]; omega
      · rw [Nat.pow_one]; constructor
        · intro _; omega
        · intro _; rfl
    have k2 : rn P Z a' b = kn P Z lead ((j : Int) - 1) true := by
      refine rn_kn (u := j) (v := 1) hb (by omega) ?_ ?_ ?_ (fun _ => hx)
      · rw [Nat.pow_one]; omega
      · rw [Nat.pow_one]; omega
      · rw [Nat.pow_one]; constructor
        · intro _; omega
        · intro _; rfl
    rw [k1, k2]
/-- M * 10^q to the nearest number of a kind whose lowest unit is 2^-Lw -/
def dec (P Z Lw M : Nat) (q : Int) : Nat := rn P Z (M * 10 ^ q.toNat * 2 ^ Lw) (10 ^ (-q).toNat)
theorem ten_pos (n : Nat) : 0 < 10 ^ n := Nat.pow_pos (by decide)
theorem dec_at {P Z Lw M : Nat} {q : Int} (E : Nat) (hE : -q ≤ E) : dec P Z Lw M q = rn P Z (M * 10 ^ (q + E).toNat * 2 ^ Lw) (10 ^ E) := by
  unfold dec
  have h1 : (q + E).toNat = q.toNat + (E - (-q).toNat) := by omega
  have h2 : E = (-q).toNat + (E - (-q).toNat) := by omega
  have e1 : M * 10 ^ (q + E).toNat * 2 ^ Lw = M * 10 ^ q.toNat * 2 ^ Lw * 10 ^ (E - (-q).toNat) := by
    rw [h1, Nat.pow_add, ← Nat.mul_assoc, Nat.mul_assoc _ _ (2 ^ Lw), Nat.mul_comm _ (2 ^ Lw), ← Nat.mul_assoc]
  have e2 : 10 ^ E = 10 ^ (-q).toNat * 10 ^ (E - (-q).toNat) := by
    rw [← Nat.pow_add, ← h2]
  rw [e1, e2, rn_scale (ten_pos _)]
/-- no half way has so many digits -/
theorem no_half {P Z e md T n j kp kn : Nat} (hT : 10 ^ (md - 1) ≤ T) (N1 : 2 ^ (P + 1 + Z) ≤ 10 ^ (md - 1) * 2 ^ e) (N2 : 2 ^ (P + 1) * 5 ^ (e - 1) ≤ 2 * 10 ^ (md - 1)) (hj : j ≤ Z) (hn : n ≤ 2 ^ (P + 1)) (h1 : T * 10 ^ kp * 2 ^ e < n * 2 ^ j * 10 ^ kn) (h2 : n * 2 ^ j * 10 ^ kn < (T + 1) * 10 ^ kp * 2 ^ e) : False := by
  rcases Nat.lt_or_ge kp kn with hk | hk
  · obtain ⟨K, hK⟩ : ∃ K, kn = kp + K := ⟨kn - kp, by omega⟩
    have hp := ten_pos kp
    have g1 : T * 2 ^ e < n * 2 ^ j * 10 ^ K := by
      refine Nat.lt_of_mul_lt_mul_right (a := 10 ^ kp) ?_
      rw [Nat.mul_assoc, Nat.mul_comm (2 ^ e), ← Nat.mul_assoc, Nat.mul_assoc _ (10 ^ K), Nat.mul_comm (10 ^ K), ← Nat.pow_add, ← hK]
      exact h1
    have g2 : n * 2 ^ j * 10 ^ K < (T + 1) * 2 ^ e := by
      refine Nat.lt_of_mul_lt_mul_right (a := 10 ^ kp) ?_
      rw [Nat.mul_assoc (T + 1), Nat.mul_comm (2 ^ e), ← Nat.mul_assoc (T + 1), Nat.mul_assoc _ (10 ^ K), Nat.mul_comm (10 ^ K), ← Nat.pow_add, ← hK]
      exact h2
    have e10 : 10 ^ K = 5 ^ K * 2 ^ K := by rw [← Nat.mul_pow]
    have e1 : n * 2 ^ j * 10 ^ K = n * 5 ^ K * 2 ^ (j + K) := by
      rw [e10, Nat.pow_add, Nat.mul_assoc n, ← Nat.mul_assoc (2 ^ j), Nat.mul_comm (2 ^ j) (5 ^ K), Nat.mul_assoc (5 ^ K), ← Nat.mul_assoc n]
    rw [e1] at g1 g2
    rcases Nat.lt_or_ge (j + K) e with hs | hs
    · have e2 : 2 ^ e = 2 ^ (e - (j + K)) * 2 ^ (j + K) := by rw [← Nat.pow_add]; congr 1; omega
      have g3 : T * 2 ^ (e - (j + K)) < n * 5 ^ K := by
        refine Nat.lt_of_mul_lt_mul_right (a := 2 ^ (j + K)) ?_
        rw [Nat.mul_assoc, ← e2]; exact g1
      have g4 : 2 ^ 1 ≤ 2 ^ (e - (j + K)) := two_pow_le (by omega)
      have g5 : T * 2 ^ 1 ≤ T * 2 ^ (e - (j + K)) := Nat.mul_le_mul_left T g4
      have g6 : 5 ^ K ≤ 5 ^ (e - 1) := Nat.pow_le_pow_right (by decide) (by omega)
      have g7 : n * 5 ^ K ≤ 2 ^ (P + 1) * 5 ^ (e - 1) := Nat.mul_le_mul hn g6
      rw [Nat.pow_one] at g5
      omega
    · have e2 : 2 ^ (j + K) = 2 ^ (j + K - e) * 2 ^ e := by rw [← Nat.pow_add]; congr 1; omega
      rw [e2, ← Nat.mul_assoc] at g1 g2
      have g3 := Nat.lt_of_mul_lt_mul_right g1
      have g4 := Nat.lt_of_mul_lt_mul_right g2
      omega
  · obtain ⟨K, hK⟩ : ∃ K, kp = kn + K := ⟨kp - kn, by omega⟩
    have g1 : T * 10 ^ K * 2 ^ e < n * 2 ^ j := by
      refine Nat.lt_of_mul_lt_mul_right (a := 10 ^ kn) ?_
      have : T * 10 ^ K * 2 ^ e * 10 ^ kn = T * 10 ^ kp * 2 ^ e := by
        rw [hK, Nat.pow_add, Nat.mul_assoc _ (2 ^ e), Nat.mul_comm (2 ^ e), ← Nat.mul_assoc, Nat.mul_assoc T, Nat.mul_comm (10 ^ K)]
      rw [this]; exact h1
    have g2 : n * 2 ^ j ≤ 2 ^ (P + 1) * 2 ^ Z := Nat.mul_le_mul hn (two_pow_le hj)
    rw [← Nat.pow_add] at g2
    have g3 : 10 ^ (md - 1) * 2 ^ e ≤ T * 10 ^ K * 2 ^ e := by
      refine Nat.mul_le_mul_right _ (Nat.le_trans hT ?_)
      exact Nat.le_mul_of_pos_right T (ten_pos K)
    omega
/-- behind md digits a 1 stands for all the rest that isn't 0 -/
theorem dec_sticky {P Z Lw md T r t : Nat} {q : Int} (hT : 10 ^ (md - 1) ≤ T) (N1 : 2 ^ (P + 1 + Z) ≤ 10 ^ (md - 1) * 2 ^ (Lw + 1)) (N2 : 2 ^ (P + 1) * 5 ^ (Lw + 1 - 1) ≤ 2 * 10 ^ (md - 1)) (ht0 : 0 < t) (ht : t < 10 ^ r) : dec P Z Lw (T * 10 ^ r + t) q = dec P Z Lw (T * 10 + 1) (q + r - 1) := by
  obtain ⟨E, hE⟩ : ∃ E : Nat, E = q.natAbs + r + 2 := ⟨_, rfl⟩
  have hr : 0 < r := by
    rcases Nat.eq_zero_or_pos r with z | z
    · subst z; rw [Nat.pow_zero] at ht; omega
    · exact z
  rw [dec_at E (by omega), dec_at E (by omega)]
  obtain ⟨c, hc⟩ : ∃ c : Nat, c = (q + E).toNat := ⟨_, rfl⟩
  have e2 : (q + r - 1 + E).toNat = c + r - 1 := by omega
  rw [e2, ← hc]
  have hcp := ten_pos c
  have e3 : 10 ^ (c + r) = 10 ^ r * 10 ^ c := by rw [Nat.add_comm, Nat.pow_add]
  have e4 : 10 ^ (c + r) = 10 * 10 ^ (c + r - 1) := by
    have : c + r = (c + r - 1) + 1 := by omega
    rw [this, Nat.pow_succ, Nat.mul_comm]; rfl
  have hpp := ten_pos (c + r - 1)
  -- both lie between T and T + 1 times 10^(c + r)
  have x1 : T * 10 ^ (c + r) < (T * 10 ^ r + t) * 10 ^ c := by
    rw [e3, Nat.add_mul, Nat.mul_assoc]
    have := Nat.mul_pos ht0 hcp
    omega
  have x2 : (T * 10 ^ r + t) * 10 ^ c < (T + 1) * 10 ^ (c + r) := by
    have h : T * 10 ^ r + t < (T + 1) * 10 ^ r := by rw [Nat.add_mul, Nat.one_mul]; omega
    rw [e3, ← Nat.mul_assoc]
    exact Nat.mul_lt_mul_of_pos_right h hcp
  have x3 : T * 10 ^ (c + r) < (T * 10 + 1) * 10 ^ (c + r - 1) := by
    rw [e4, ← Nat.mul_assoc, Nat.add_mul, Nat.one_mul]; omega
  have x4 : (T * 10 + 1) * 10 ^ (c + r - 1) < (T + 1) * 10 ^ (c + r) := by
    rw [e4, ← Nat.mul_assoc]
    refine Nat.mul_lt_mul_of_pos_right ?_ hpp
    omega
  have h2 := Nat.two_pow_pos Lw
  have e5 : ∀ y : Nat, 2 * (y * 2 ^ Lw) = y * 2 ^ (Lw + 1) := fun y => by rw [Nat.pow_succ]; ac_rfl
  have gap : ∀ y y' : Nat, T * 10 ^ (c + r) < y → y ≤ y' → y' < (T + 1) * 10 ^ (c + r) → rn P Z (y * 2 ^ Lw) (10 ^ E) = rn P Z (y' * 2 ^ Lw) (10 ^ E) := by
    intro y y' hy hyy hy'
    refine rn_gap (ten_pos E) (Nat.mul_le_mul_right _ hyy) (fun n j hj hn z1 z2 => ?_)
    rw [e5] at z1 z2
    have hl : T * 10 ^ (c + r) * 2 ^ (Lw + 1) < y * 2 ^ (Lw + 1) := Nat.mul_lt_mul_of_pos_right hy (Nat.two_pow_pos _)
    have hu : y' * 2 ^ (Lw + 1) < (T + 1) * 10 ^ (c + r) * 2 ^ (Lw + 1) := Nat.mul_lt_mul_of_pos_right hy' (Nat.two_pow_pos _)
    exact no_half (kp := c + r) (kn := E) hT N1 N2 hj hn (by omega) (by omega)
  rcases Nat.le_total ((T * 10 ^ r + t) * 10 ^ c) ((T * 10 + 1) * 10 ^ (c + r - 1)) with h | h
  · exact gap _ _ x1 h x4
  · exact (gap _ _ x3 h x2).symm
theorem N1w : 2 ^ (53 + 1 + 2045) ≤ 10 ^ (770 - 1) * 2 ^ (1074 + 1) := by decide +kernel
theorem N2w : 2 ^ (53 + 1) * 5 ^ (1074 + 1 - 1) ≤ 2 * 10 ^ (770 - 1) := by decide +kernel
theorem N1n : 2 ^ (24 + 1 + 253) ≤ 10 ^ (115 - 1) * 2 ^ (149 + 1) := by decide +kernel
theorem N2n : 2 ^ (24 + 1) * 5 ^ (149 + 1 - 1) ≤ 2 * 10 ^ (115 - 1) := by decide +kernel
end
section
/-! DIVIDING BIT BY BIT -/
/-- N / D * 2^w lowest-unit-scaled: the bits of the nearest number of a kind whose lowest unit is 2^-Lw -/
def frn (P Z Lw N D : Nat) (w : Int) : Nat := rn P Z (N * 2 ^ (w + Lw).toNat) (D * 2 ^ (-(w + Lw)).toNat)
/-- a step: twice lead and a bit, twice what is left -/
theorem fd_step {N D i lead t : Nat} (h : N * 2 ^ i = 2 * (lead * D) + t) (ht : t < 2 * D) :
    (D ≤ t → N * 2 ^ (i + 1) = 2 * ((2 * lead + 1) * D) + (t - D) * 2 ∧ (t - D) * 2 < 2 * D) ∧ (¬ D ≤ t → N * 2 ^ (i + 1) = 2 * (2 * lead * D) + t * 2 ∧ t * 2 < 2 * D) := by
  have e : N * 2 ^ (i + 1) = 2 * (2 * (lead * D) + t) := by rw [Nat.pow_succ, ← Nat.mul_assoc, h, Nat.mul_comm]
  constructor
  · intro g
    refine ⟨?_, by omega⟩
    rw [e, Nat.add_mul, Nat.one_mul, Nat.mul_assoc]; omega
  · intro g
    refine ⟨?_, by omega⟩
    rw [e, Nat.mul_assoc 2 lead]; omega
/-- what the bits say: N of n bits, D of d bits, moved to the same length; S = P + 2 steps -/
theorem fd_end {P Z Lw N D s1 s2 lead t : Nat} {w : Int} {more : Bool} (hN : N ≠ 0) (hD : D ≠ 0) (hb : bln N + s1 = bln D + s2) (h : N * 2 ^ s1 * 2 ^ (P + 2) = 2 * (lead * (D * 2 ^ s2)) + t) (ht : t < 2 * (D * 2 ^ s2)) (hm : more = true ↔ t ≠ 0) :
    frn P Z Lw N D w = kn P Z lead (w + ((s2 : Int) - s1) - ((P : Int) + 1) + Lw) more ∧ lead < 2 ^ (P + 2) := by
  have n1 := bln_le hN
  have n2 := bln_lt N
  have d1 := bln_le hD
  have d2 := bln_lt D
  have n0 := bln_pos hN
  have d0 := bln_pos hD
  obtain ⟨X, hX⟩ : ∃ X, X = N * 2 ^ s1 := ⟨_, rfl⟩
  obtain ⟨Y, hY⟩ : ∃ Y, Y = D * 2 ^ s2 := ⟨_, rfl⟩
  rw [← hX, ← hY] at h
  rw [← hY] at ht
  have x1 : 2 ^ (bln N + s1 - 1) ≤ X := by
    have e : bln N + s1 - 1 = (bln N - 1) + s1 := by omega
    rw [hX, e, Nat.pow_add]; exact Nat.mul_le_mul_right _ n1
  have x2 : X < 2 ^ (bln N + s1) := by
    rw [hX, Nat.pow_add]; exact Nat.mul_lt_mul_of_pos_right n2 (Nat.two_pow_pos _)
  have y1 : 2 ^ (bln N + s1 - 1) ≤ Y := by
    have e : bln N + s1 - 1 = (bln D - 1) + s2 := by omega
    rw [hY, e, Nat.pow_add]; exact Nat.mul_le_mul_right _ d1
  have y2 : Y < 2 ^ (bln N + s1) := by
    rw [hb, hY, Nat.pow_add]; exact Nat.mul_lt_mul_of_pos_right d2 (Nat.two_pow_pos _)
  have e2 : 2 ^ (bln N + s1) = 2 * 2 ^ (bln N + s1 - 1) := by
    have : bln N + s1 = (bln N + s1 - 1) + 1 := by omega
    conv => lhs; rw [this]
    rw [Nat.pow_succ, Nat.mul_comm]
  have xy : X < 2 * Y := by omega
  have yx : Y < 2 * X := by omega
  have hY0 : 0 < Y := by have := Nat.two_pow_pos (bln N + s1 - 1); omega
  have pS : 2 ^ (P + 2) = 2 * 2 ^ (P + 1) := by rw [Nat.pow_succ, Nat.mul_comm]
  have h' : X * 2 ^ (P + 1) = lead * Y + t / 2 ∧ t % 2 = 0 := by
    have e3 : X * 2 ^ (P + 2) = 2 * (X * 2 ^ (P + 1)) := by rw [pS, Nat.mul_left_comm]
    omega
  obtain ⟨h', ht2⟩ := h'
  have l1 : lead * Y ≤ X * 2 ^ (P + 1) := by omega
  have l2 : X * 2 ^ (P + 1) < (lead + 1) * Y := by rw [Nat.add_mul, Nat.one_mul]; omega
  have lm : more = true ↔ lead * Y ≠ X * 2 ^ (P + 1) := by rw [hm]; omega
  have up : lead < 2 ^ (P + 2) := by
    have g : lead * Y < 2 ^ (P + 2) * Y := by
      refine Nat.lt_of_le_of_lt l1 ?_
      rw [pS, Nat.mul_assoc, Nat.mul_comm _ Y, ← Nat.mul_assoc]
      exact Nat.mul_lt_mul_of_pos_right xy (Nat.two_pow_pos _)
    exact Nat.lt_of_mul_lt_mul_right g
  have lo : 2 ^ P ≤ lead := by
    have pP : 2 ^ (P + 1) = 2 * 2 ^ P := by rw [Nat.pow_succ, Nat.mul_comm]
    have g : 2 ^ P * Y < (lead + 1) * Y := by
      refine Nat.lt_of_le_of_lt ?_ l2
      rw [pP, ← Nat.mul_assoc, Nat.mul_comm _ Y]
      exact Nat.mul_le_mul_right _ (by omega)
    have := Nat.lt_of_mul_lt_mul_right g
    omega
  refine ⟨?_, up⟩
  unfold frn
  -- exponents: u - v is the power that lead stands at
  obtain ⟨a1, ha1⟩ : ∃ a1 : Nat, a1 = (w + Lw).toNat := ⟨_, rfl⟩
  obtain ⟨b1, hb1⟩ : ∃ b1 : Nat, b1 = (-(w + Lw)).toNat := ⟨_, rfl⟩
  rw [← ha1, ← hb1]
  refine rn_kn (u := a1 + s2) (v := s1 + b1 + (P + 1)) (Nat.mul_pos (Nat.pos_of_ne_zero hD) (Nat.two_pow_pos _)) (by omega) ?_ ?_ ?_ (fun _ => ?_)
  · have el : lead * 2 ^ (a1 + s2) * (D * 2 ^ b1) = lead * Y * (2 ^ a1 * 2 ^ b1) := by
      rw [hY, Nat.pow_add]; ac_rfl
    have er : N * 2 ^ a1 * 2 ^ (s1 + b1 + (P + 1)) = X * 2 ^ (P + 1) * (2 ^ a1 * 2 ^ b1) := by
      rw [hX, Nat.pow_add, Nat.pow_add]; ac_rfl
    rw [el, er]; exact Nat.mul_le_mul_right _ l1
  · have el : (lead + 1) * 2 ^ (a1 + s2) * (D * 2 ^ b1) = (lead + 1) * Y * (2 ^ a1 * 2 ^ b1) := by
      rw [hY, Nat.pow_add]; ac_rfl
    have er : N * 2 ^ a1 * 2 ^ (s1 + b1 + (P + 1)) = X * 2 ^ (P + 1) * (2 ^ a1 * 2 ^ b1) := by
      rw [hX, Nat.pow_add, Nat.pow_add]; ac_rfl
    rw [el, er]; exact Nat.mul_lt_mul_of_pos_right l2 (Nat.mul_pos (Nat.two_pow_pos _) (Nat.two_pow_pos _))
  · have el : lead * 2 ^ (a1 + s2) * (D * 2 ^ b1) = lead * Y * (2 ^ a1 * 2 ^ b1) := by
      rw [hY, Nat.pow_add]; ac_rfl
    have er : N * 2 ^ a1 * 2 ^ (s1 + b1 + (P + 1)) = X * 2 ^ (P + 1) * (2 ^ a1 * 2 ^ b1) := by
      rw [hX, Nat.pow_add, Nat.pow_add]; ac_rfl
    rw [el, er, lm]
    have hp : 0 < 2 ^ a1 * 2 ^ b1 := Nat.mul_pos (Nat.two_pow_pos _) (Nat.two_pow_pos _)
    constructor
    · intro z y; exact z (Nat.eq_of_mul_eq_mul_right hp y)
    · intro z y; exact z (by rw [y])
  · have : P < bln lead := lt_bln lo
    omega
end
section
/-! DECIMALS: out of fives and twos; too small and too large ones -/
theorem dec_frn {P Z Lw T : Nat} {t : Int} : dec P Z Lw T t = frn P Z Lw (T * 5 ^ t.toNat) (5 ^ (-t).toNat) t := by
  have e10 : ∀ n : Nat, 10 ^ n = 5 ^ n * 2 ^ n := fun n => by rw [← Nat.mul_pow]
  unfold dec frn
  rcases Int.le_total 0 t with h | h
  · obtain ⟨k, hk⟩ := Int.eq_ofNat_of_zero_le h
    subst hk
    have a1 : ((k : Int)).toNat = k := by omega
    have a2 : (-(k : Int)).toNat = 0 := by omega
    have a3 : ((k : Int) + Lw).toNat = k + Lw := by omega
    have a4 : (-((k : Int) + Lw)).toNat = 0 := by omega
    rw [a1, a2, a3, a4, e10 k]
    have : T * (5 ^ k * 2 ^ k) * 2 ^ Lw = T * 5 ^ k * 2 ^ (k + Lw) := by rw [Nat.pow_add]; ac_rfl
    rw [this]
  · obtain ⟨k, hk⟩ := Int.eq_ofNat_of_zero_le (show 0 ≤ -t by omega)
    have ht : t = -(k : Int) := by omega
    subst ht
    have a1 : (-(k : Int)).toNat = 0 := by omega
    have a2 : (- -(k : Int)).toNat = k := by omega
    rw [a1, a2, e10 k]
    rcases Nat.le_total k Lw with g | g
    · have a3 : (-(k : Int) + Lw).toNat = Lw - k := by omega
      have a4 : (-(-(k : Int) + Lw)).toNat = 0 := by omega
      rw [a3, a4]
      have e1 : T * 10 ^ 0 * 2 ^ Lw = T * 5 ^ 0 * 2 ^ (Lw - k) * 2 ^ k := by
        rw [Nat.mul_assoc _ (2 ^ (Lw - k)), ← Nat.pow_add]; congr 2; omega
      have e2 : 5 ^ k * 2 ^ k = 5 ^ k * 2 ^ 0 * 2 ^ k := by rw [Nat.pow_zero, Nat.mul_one]
      rw [e1, e2, rn_scale (Nat.two_pow_pos k)]
    · have a3 : (-(k : Int) + Lw).toNat = 0 := by omega
      have a4 : (-(-(k : Int) + Lw)).toNat = k - Lw := by omega
      rw [a3, a4]
      have e1 : T * 10 ^ 0 * 2 ^ Lw = T * 5 ^ 0 * 2 ^ 0 * 2 ^ Lw := by simp
      have e2 : 5 ^ k * 2 ^ k = 5 ^ k * 2 ^ (k - Lw) * 2 ^ Lw := by
        rw [Nat.mul_assoc, ← Nat.pow_add]; congr 2; omega
      rw [e1, e2, rn_scale (Nat.two_pow_pos Lw)]
theorem rn_small {P Z a b : Nat} (h : 2 * a < b) : rn P Z a b = 0 := by
  have hd : a / b = 0 := Nat.div_eq_of_lt (by omega)
  have hj : ju P (a / b) = 0 := by unfold ju; rw [hd, bln_0]; omega
  unfold rn
  rw [hj, if_neg (by omega), Nat.zero_mul, Nat.zero_add, Nat.pow_zero, Nat.mul_one]
  rw [rne_at (q := 0) (r := a) (by omega) (by omega)]
  rw [if_neg (by omega)]
theorem rn_large {P Z a b : Nat} (hb : 0 < b) (h : 2 ^ (P + Z) * b ≤ a) : rn P Z a b = (Z + 2) * 2 ^ (P - 1) := by
  have h1 : 2 ^ (P + Z) ≤ a / b := (Nat.le_div_iff_mul_le hb).mpr h
  have h2 : P + Z < bln (a / b) := lt_bln h1
  unfold rn
  rw [if_pos (by unfold ju; omega)]
theorem dec_0 {P Z Lw : Nat} {q : Int} : dec P Z Lw 0 q = 0 := by
  unfold dec
  rw [Nat.zero_mul, Nat.zero_mul]
  exact rn_small (by have := ten_pos (-q).toNat; omega)
/-- a size below 10^-h, h not below h0 -/
theorem dec_small {P Z Lw M c h0 : Nat} {q : Int} (N : 2 ^ (Lw + 1) ≤ 10 ^ h0) (hM : M < 10 ^ c) (h : (c : Int) + q ≤ -(h0 : Int)) : dec P Z Lw M q = 0 := by
  unfold dec
  have a1 : q.toNat = 0 := by omega
  obtain ⟨k, hk⟩ : ∃ k : Nat, (-q).toNat = c + h0 + k := ⟨(-q).toNat - (c + h0), by omega⟩
  rw [a1, hk, Nat.pow_zero, Nat.mul_one]
  refine rn_small ?_
  have e1 : 2 * (M * 2 ^ Lw) = M * 2 ^ (Lw + 1) := by rw [Nat.pow_succ]; ac_rfl
  rw [e1, Nat.pow_add 10 (c + h0) k, Nat.pow_add 10 c h0]
  have h1 : M * 2 ^ (Lw + 1) < 10 ^ c * 10 ^ h0 := Nat.lt_of_lt_of_le (Nat.mul_lt_mul_of_pos_right hM (Nat.two_pow_pos _)) (Nat.mul_le_mul_left _ N)
  exact Nat.lt_of_lt_of_le h1 (Nat.le_mul_of_pos_right _ (ten_pos k))
/-- a size not below 10^h, h not below h1 -/
theorem dec_large {P Z Lw M c h1 : Nat} {q : Int} (N : 2 ^ (P + Z) ≤ 10 ^ h1 * 2 ^ Lw) (hM : 10 ^ c ≤ M) (h : (h1 : Int) ≤ (c : Int) + q) : dec P Z Lw M q = (Z + 2) * 2 ^ (P - 1) := by
  unfold dec
  refine rn_large (ten_pos _) ?_
  have e : 10 ^ h1 * 10 ^ (-q).toNat ≤ M * 10 ^ q.toNat := by
    refine Nat.le_trans ?_ (Nat.mul_le_mul_right _ hM)
    rw [← Nat.pow_add, ← Nat.pow_add]
    exact Nat.pow_le_pow_right (by decide) (by omega)
  calc 2 ^ (P + Z) * 10 ^ (-q).toNat ≤ 10 ^ h1 * 2 ^ Lw * 10 ^ (-q).toNat := Nat.mul_le_mul_right _ N
    _ = 10 ^ h1 * 10 ^ (-q).toNat * 2 ^ Lw := by ac_rfl
    _ ≤ M * 10 ^ q.toNat * 2 ^ Lw := Nat.mul_le_mul_right _ e
theorem N3w : 2 ^ (1074 + 1) ≤ 10 ^ 324 := by decide +kernel
theorem N3n : 2 ^ (149 + 1) ≤ 10 ^ 46 := by decide +kernel
theorem N4w : 2 ^ (53 + 2045) ≤ 10 ^ 309 * 2 ^ 1074 := by decide +kernel
theorem N4n : 2 ^ (24 + 253) ≤ 10 ^ 39 * 2 ^ 149 := by decide +kernel
end
section
/-! THE SURROUNDINGS: the links within the nest, the two kinds, the two words; and calls by the tables' words -/
abbrev evD : Type := (Nat → Nat) × (Nat → Nat) × (Nat → Nat)
def kF : List (String × String × String × List Int32) := [(R_Kin, "precision", "I", [53, 24]), (R_Kin, "lowestUnit", "I", [-1074, -149]), (R_Kin, "highestUnit", "I", [971, 104]), (R_Kin, "mostDigits", "I", [770, 115]), (R_Kin, "lowestPlace", "I", [-323, -45]), (R_Kin, "highestPlace", "I", [309, 39])]
def kSign : Nat → Int64 := fun i => if i = 0 then -9223372036854775808 else 2147483648
def kInf : Nat → Int64 := fun i => if i = 0 then 9218868437227405312 else 2139095040
def kNon : Nat → Int64 := fun i => if i = 0 then 9221120237041090560 else 2143289344
def sLen : List Nat := [3, 8]
def sByt : List (List Int32) := [[78, 97, 78], [73, 110, 102, 105, 110, 105, 116, 121]]
def ev1 (E : evD) (A : Nat → Prop) (U : State) (H : Heap) : Prop :=
  (va_Nw (.methodLinkNest R_Num 87 y_Rea_digitOf R_Rea) U ∧ va_Nw (.methodLinkNest R_Kin 66 y_Rea_bitLengthOf R_Rea) U ∧ va_Nw (.methodLinkNest R_Big 22 y_Rea_bitLengthOf R_Rea) U) ∧
  va_En R_Kin "LNearestReader$Kind;" ["WIDE", "NARROW"] kF E.1 A U H ∧ va_Ef 2 R_Kin "signBit" "J" (fun i => .long (kSign i)) E.1 A U H ∧ va_Ef 2 R_Kin "infinite" "J" (fun i => .long (kInf i)) E.1 A U H ∧ va_Ef 2 R_Kin "none" "J" (fun i => .long (kNon i)) E.1 A U H ∧
  (vk_R R_Num 29 "NaN" (E.2.1 0) U ∧ vk_R R_Num 38 "Infinity" (E.2.1 1) U) ∧ vk_S 2 sLen sByt E.2.1 E.2.2 A U H ∧ va_Z R_Str "COMPACT_STRINGS" "Z" (.int 1) A U H ∧
  ∃ v : Value, (v = .null ∨ ∃ a, v = .ref a) ∧ va_Z R_Pre "SIOOBE_FORMATTER" "Ljava/util/function/BiFunction;" v A U H
theorem ev1_ok (E : evD) : evOK (ev1 E) := by
  refine ⟨fun A B s U H H1 h hq hW hAB => ?_, fun A U g mk a h => ?_⟩
  · obtain ⟨⟨n1, n2, n3⟩, e1, f1, f2, f3, ⟨r1, r2⟩, s1, z1, zv, zo, z2⟩ := h
    exact ⟨⟨n1.warmM hW, n2.warmM hW, n3.warmM hW⟩, ((e1.kept hq).moved hW.alike).narrow hAB, ((f1.kept hq).moved hW.alike).narrow hAB, ((f2.kept hq).moved hW.alike).narrow hAB, ((f3.kept hq).moved hW.alike).narrow hAB, ⟨r1.warm hW, r2.warm hW⟩, ((s1.kept hq).moved hW.alike).narrow hAB, ((z1.kept hq).moved hW.alike).narrow hAB, zv, zo, ((z2.kept hq).moved hW.alike).narrow hAB⟩
  · obtain ⟨⟨n1, n2, n3⟩, e1, f1, f2, f3, ⟨r1, r2⟩, s1, z1, zv, zo, z2⟩ := h
    have hv : U.vm.Alike (U.calling g mk a).vm := Vm.Alike.refl U.vm
    exact ⟨⟨va_Nw.same rfl rfl n1, va_Nw.same rfl rfl n2, va_Nw.same rfl rfl n3⟩, va_En.moved (u := U) hv e1, va_Ef.moved (u := U) hv f1, va_Ef.moved (u := U) hv f2, va_Ef.moved (u := U) hv f3, ⟨vk_R.same (u := U) rfl r1, vk_R.same (u := U) rfl r2⟩, vk_S.moved (u := U) hv s1, va_Z.moved (u := U) hv z1, zv, zo, va_Z.moved (u := U) hv z2⟩
section XC
variable {R : Room} {s : State} {args : Array Value} {own C host : String} {index maxL mc ms : Nat} {y : MethodName} {bytes : ByteArray} {ret : Option FieldType} {rm : Room}
theorem xV (n : Nat) (hg : ∀ w ∈ gws, w.before args s = true) (hc : Cond.code y bytes maxL ret ∈ gws) (hl : Cond.methodLink own index y ∈ gws) (hi : Cond.instanceMethod y ∈ gws) (hs : Cond.selects C y y ∈ gws) (hn : Cond.initialized y.cls ∈ gws) (hrc : rm.cells = mc) (hrs : rm.slots = ms)
    (hd : y.cls ≠ "java/lang/invoke/MethodHandle" ∧ y.cls ≠ "java/lang/invoke/VarHandle" ∧ (parseMethodDescriptor y.desc).map (fun d => d.parameters.length) = some n) (hR : rm.frames + 1 ≤ R.frames ∧ 8 + (maxL + 11) + rm.locals ≤ R.locals) : CallW R s args own C index y bytes maxL ret (wz y bytes maxL ret) rm mc ms n :=
  ⟨callB_of n hg (wz_good hc) rfl hrc hrs (hg _ hn) (hg _ hl) hd hR, hg _ hi, hg _ hs⟩
theorem xS (n : Nat) (hg : ∀ w ∈ gws, w.before args s = true) (hc : Cond.code y bytes maxL ret ∈ gws) (hl : Cond.methodLink own index y ∈ gws) (hi : Cond.static y ∈ gws) (hn : Cond.initialized y.cls ∈ gws) (hrc : rm.cells = mc) (hrs : rm.slots = ms)
    (hd : y.cls ≠ "java/lang/invoke/MethodHandle" ∧ y.cls ≠ "java/lang/invoke/VarHandle" ∧ (parseMethodDescriptor y.desc).map (fun d => d.parameters.length) = some n) (hR : rm.frames + 1 ≤ R.frames ∧ 8 + (maxL + 11) + rm.locals ≤ R.locals) : CallB R s args own index y bytes maxL ret (wz y bytes maxL ret) rm mc ms n ∧ (Cond.static y).before args s = true :=
  ⟨callB_of n hg (wz_good hc) rfl hrc hrs (hg _ hn) (hg _ hl) hd hR, hg _ hi⟩
theorem xI (n : Nat) (hg : ∀ w ∈ gws, w.before args s = true) (hc : Cond.code y bytes maxL none ∈ gws) (hl : Cond.methodLink own index y ∈ gws) (hi : Cond.instanceMethod y ∈ gws) (hn : Cond.initialized y.cls ∈ gws) (hy : y.name = "<init>") (hrc : rm.cells = mc) (hrs : rm.slots = ms)
    (hd : y.cls ≠ "java/lang/invoke/MethodHandle" ∧ y.cls ≠ "java/lang/invoke/VarHandle" ∧ (parseMethodDescriptor y.desc).map (fun d => d.parameters.length) = some n) (hR : rm.frames + 1 ≤ R.frames ∧ 8 + (maxL + 11) + rm.locals ≤ R.locals) : CallB R s args own index y bytes maxL none (wz y bytes maxL none) rm mc ms n ∧ y.name = "<init>" ∧ (Cond.instanceMethod y).before args s = true :=
  ⟨callB_of n hg (wz_good hc) rfl hrc hrs (hg _ hn) (hg _ hl) hd hR, hy, hg _ hi⟩
theorem xSN (n : Nat) (hg : ∀ w ∈ gws, w.before args s = true) (hc : Cond.code y bytes maxL ret ∈ gws) (hl : va_Nw (.methodLinkNest own index y host) s) (hi : Cond.static y ∈ gws) (hn : Cond.initialized y.cls ∈ gws) (hrc : rm.cells = mc) (hrs : rm.slots = ms)
    (hd : y.cls ≠ "java/lang/invoke/MethodHandle" ∧ y.cls ≠ "java/lang/invoke/VarHandle" ∧ (parseMethodDescriptor y.desc).map (fun d => d.parameters.length) = some n) (hR : rm.frames + 1 ≤ R.frames ∧ 8 + (maxL + 11) + rm.locals ≤ R.locals) : va_CN R s args own index y host bytes maxL ret (wz y bytes maxL ret) rm mc ms n ∧ (Cond.static y).before args s = true ∧ True :=
  ⟨va_cnB n hg (wz_good hc) rfl hrc hrs hl (hg _ hn) hd hR, hg _ hi, trivial⟩
theorem wz_g {args : Array Value} {s : State} {y : MethodName} {b : ByteArray} {n : Nat} {r : Option FieldType} (h : ∀ w ∈ wz y b n r, w.before args s = true) : ∀ w ∈ gws, w.before args s = true := fun w hw => h w (List.mem_cons_of_mem _ hw)
end XC
end
section
theorem d_Big_init_0 : decode b_Big_init 0 = .ok (.aload_n 0, 1) := by decide +kernel
theorem d_Big_init_1 : decode b_Big_init 1 = .ok (.invokespecial 1, 3) := by decide +kernel
theorem d_Big_init_4 : decode b_Big_init 4 = .ok (.aload_n 0, 1) := by decide +kernel
theorem d_Big_init_5 : decode b_Big_init 5 = .ok (.bipush 96, 2) := by decide +kernel
theorem d_Big_init_7 : decode b_Big_init 7 = .ok (.newarray .int, 2) := by decide +kernel
theorem d_Big_init_9 : decode b_Big_init 9 = .ok (.putfield 9, 3) := by decide +kernel
theorem d_Big_init_12 : decode b_Big_init 12 = .ok (.aload_n 0, 1) := by decide +kernel
theorem d_Big_init_13 : decode b_Big_init 13 = .ok (.iconst 0, 1) := by decide +kernel
theorem d_Big_init_14 : decode b_Big_init 14 = .ok (.putfield 13, 3) := by decide +kernel
theorem d_Big_init_17 : decode b_Big_init 17 = .ok (.return_, 1) := by decide +kernel
theorem d_Big_set_0 : decode b_Big_set 0 = .ok (.aload_n 0, 1) := by decide +kernel
theorem d_Big_set_1 : decode b_Big_set 1 = .ok (.getfield 9, 3) := by decide +kernel
theorem d_Big_set_4 : decode b_Big_set 4 = .ok (.iconst 0, 1) := by decide +kernel
theorem d_Big_set_5 : decode b_Big_set 5 = .ok (.lload_n 1, 1) := by decide +kernel
theorem d_Big_set_6 : decode b_Big_set 6 = .ok (.l2i, 1) := by decide +kernel
theorem d_Big_set_7 : decode b_Big_set 7 = .ok (.iastore, 1) := by decide +kernel
theorem d_Big_set_8 : decode b_Big_set 8 = .ok (.aload_n 0, 1) := by decide +kernel
theorem d_Big_set_9 : decode b_Big_set 9 = .ok (.getfield 9, 3) := by decide +kernel
theorem d_Big_set_12 : decode b_Big_set 12 = .ok (.iconst 1, 1) := by decide +kernel
theorem d_Big_set_13 : decode b_Big_set 13 = .ok (.lload_n 1, 1) := by decide +kernel
theorem d_Big_set_14 : decode b_Big_set 14 = .ok (.bipush 32, 2) := by decide +kernel
theorem d_Big_set_16 : decode b_Big_set 16 = .ok (.lushr, 1) := by decide +kernel
theorem d_Big_set_17 : decode b_Big_set 17 = .ok (.l2i, 1) := by decide +kernel
theorem d_Big_set_18 : decode b_Big_set 18 = .ok (.iastore, 1) := by decide +kernel
theorem d_Big_set_19 : decode b_Big_set 19 = .ok (.aload_n 0, 1) := by decide +kernel
theorem d_Big_set_20 : decode b_Big_set 20 = .ok (.iconst 2, 1) := by decide +kernel
theorem d_Big_set_21 : decode b_Big_set 21 = .ok (.putfield 13, 3) := by decide +kernel
theorem d_Big_set_24 : decode b_Big_set 24 = .ok (.aload_n 0, 1) := by decide +kernel
theorem d_Big_set_25 : decode b_Big_set 25 = .ok (.invokevirtual 17, 3) := by decide +kernel
theorem d_Big_set_28 : decode b_Big_set 28 = .ok (.return_, 1) := by decide +kernel
theorem d_Big_isZero_0 : decode b_Big_isZero 0 = .ok (.aload_n 0, 1) := by decide +kernel
theorem d_Big_isZero_1 : decode b_Big_isZero 1 = .ok (.getfield 13, 3) := by decide +kernel
theorem d_Big_isZero_4 : decode b_Big_isZero 4 = .ok (.ifCond .ne 7, 3) := by decide +kernel
theorem d_Big_isZero_7 : decode b_Big_isZero 7 = .ok (.iconst 1, 1) := by decide +kernel
theorem d_Big_isZero_8 : decode b_Big_isZero 8 = .ok (.goto 4, 3) := by decide +kernel
theorem d_Big_isZero_11 : decode b_Big_isZero 11 = .ok (.iconst 0, 1) := by decide +kernel
theorem d_Big_isZero_12 : decode b_Big_isZero 12 = .ok (.ireturn, 1) := by decide +kernel
theorem d_Big_bitLength_0 : decode b_Big_bitLength 0 = .ok (.aload_n 0, 1) := by decide +kernel
theorem d_Big_bitLength_1 : decode b_Big_bitLength 1 = .ok (.getfield 13, 3) := by decide +kernel
theorem d_Big_bitLength_4 : decode b_Big_bitLength 4 = .ok (.ifCond .ne 7, 3) := by decide +kernel
theorem d_Big_bitLength_7 : decode b_Big_bitLength 7 = .ok (.iconst 0, 1) := by decide +kernel
theorem d_Big_bitLength_8 : decode b_Big_bitLength 8 = .ok (.goto 33, 3) := by decide +kernel
theorem d_Big_bitLength_11 : decode b_Big_bitLength 11 = .ok (.aload_n 0, 1) := by decide +kernel
theorem d_Big_bitLength_12 : decode b_Big_bitLength 12 = .ok (.getfield 13, 3) := by decide +kernel
theorem d_Big_bitLength_15 : decode b_Big_bitLength 15 = .ok (.bipush 32, 2) := by decide +kernel
theorem d_Big_bitLength_17 : decode b_Big_bitLength 17 = .ok (.imul, 1) := by decide +kernel
theorem d_Big_bitLength_18 : decode b_Big_bitLength 18 = .ok (.bipush 32, 2) := by decide +kernel
theorem d_Big_bitLength_20 : decode b_Big_bitLength 20 = .ok (.isub, 1) := by decide +kernel
theorem d_Big_bitLength_21 : decode b_Big_bitLength 21 = .ok (.aload_n 0, 1) := by decide +kernel
theorem d_Big_bitLength_22 : decode b_Big_bitLength 22 = .ok (.getfield 9, 3) := by decide +kernel
theorem d_Big_bitLength_25 : decode b_Big_bitLength 25 = .ok (.aload_n 0, 1) := by decide +kernel
theorem d_Big_bitLength_26 : decode b_Big_bitLength 26 = .ok (.getfield 13, 3) := by decide +kernel
theorem d_Big_bitLength_29 : decode b_Big_bitLength 29 = .ok (.iconst 1, 1) := by decide +kernel
theorem d_Big_bitLength_30 : decode b_Big_bitLength 30 = .ok (.isub, 1) := by decide +kernel
theorem d_Big_bitLength_31 : decode b_Big_bitLength 31 = .ok (.iaload, 1) := by decide +kernel
theorem d_Big_bitLength_32 : decode b_Big_bitLength 32 = .ok (.i2l, 1) := by decide +kernel
theorem d_Big_bitLength_33 : decode b_Big_bitLength 33 = .ok (.ldc2_w 20, 3) := by decide +kernel
theorem d_Big_bitLength_36 : decode b_Big_bitLength 36 = .ok (.land, 1) := by decide +kernel
theorem d_Big_bitLength_37 : decode b_Big_bitLength 37 = .ok (.invokestatic 22, 3) := by decide +kernel
theorem d_Big_bitLength_40 : decode b_Big_bitLength 40 = .ok (.iadd, 1) := by decide +kernel
theorem d_Big_bitLength_41 : decode b_Big_bitLength 41 = .ok (.ireturn, 1) := by decide +kernel
theorem d_Big_timesPlus_0 : decode b_Big_timesPlus 0 = .ok (.iload_n 2, 1) := by decide +kernel
theorem d_Big_timesPlus_1 : decode b_Big_timesPlus 1 = .ok (.i2l, 1) := by decide +kernel
theorem d_Big_timesPlus_2 : decode b_Big_timesPlus 2 = .ok (.lstore_n 3, 1) := by decide +kernel
theorem d_Big_timesPlus_3 : decode b_Big_timesPlus 3 = .ok (.iconst 0, 1) := by decide +kernel
theorem d_Big_timesPlus_4 : decode b_Big_timesPlus 4 = .ok (.istore 5, 2) := by decide +kernel
theorem d_Big_timesPlus_6 : decode b_Big_timesPlus 6 = .ok (.iload 5, 2) := by decide +kernel
theorem d_Big_timesPlus_8 : decode b_Big_timesPlus 8 = .ok (.aload_n 0, 1) := by decide +kernel
theorem d_Big_timesPlus_9 : decode b_Big_timesPlus 9 = .ok (.getfield 13, 3) := by decide +kernel
theorem d_Big_timesPlus_12 : decode b_Big_timesPlus 12 = .ok (.if_icmp .ge 41, 3) := by decide +kernel
theorem d_Big_timesPlus_15 : decode b_Big_timesPlus 15 = .ok (.lload_n 3, 1) := by decide +kernel
theorem d_Big_timesPlus_16 : decode b_Big_timesPlus 16 = .ok (.aload_n 0, 1) := by decide +kernel
theorem d_Big_timesPlus_17 : decode b_Big_timesPlus 17 = .ok (.getfield 9, 3) := by decide +kernel
theorem d_Big_timesPlus_20 : decode b_Big_timesPlus 20 = .ok (.iload 5, 2) := by decide +kernel
theorem d_Big_timesPlus_22 : decode b_Big_timesPlus 22 = .ok (.iaload, 1) := by decide +kernel
theorem d_Big_timesPlus_23 : decode b_Big_timesPlus 23 = .ok (.i2l, 1) := by decide +kernel
theorem d_Big_timesPlus_24 : decode b_Big_timesPlus 24 = .ok (.ldc2_w 20, 3) := by decide +kernel
theorem d_Big_timesPlus_27 : decode b_Big_timesPlus 27 = .ok (.land, 1) := by decide +kernel
theorem d_Big_timesPlus_28 : decode b_Big_timesPlus 28 = .ok (.iload_n 1, 1) := by decide +kernel
theorem d_Big_timesPlus_29 : decode b_Big_timesPlus 29 = .ok (.i2l, 1) := by decide +kernel
theorem d_Big_timesPlus_30 : decode b_Big_timesPlus 30 = .ok (.lmul, 1) := by decide +kernel
theorem d_Big_timesPlus_31 : decode b_Big_timesPlus 31 = .ok (.ladd, 1) := by decide +kernel
theorem d_Big_timesPlus_32 : decode b_Big_timesPlus 32 = .ok (.lstore_n 3, 1) := by decide +kernel
theorem d_Big_timesPlus_33 : decode b_Big_timesPlus 33 = .ok (.aload_n 0, 1) := by decide +kernel
theorem d_Big_timesPlus_34 : decode b_Big_timesPlus 34 = .ok (.getfield 9, 3) := by decide +kernel
theorem d_Big_timesPlus_37 : decode b_Big_timesPlus 37 = .ok (.iload 5, 2) := by decide +kernel
theorem d_Big_timesPlus_39 : decode b_Big_timesPlus 39 = .ok (.lload_n 3, 1) := by decide +kernel
theorem d_Big_timesPlus_40 : decode b_Big_timesPlus 40 = .ok (.l2i, 1) := by decide +kernel
theorem d_Big_timesPlus_41 : decode b_Big_timesPlus 41 = .ok (.iastore, 1) := by decide +kernel
theorem d_Big_timesPlus_42 : decode b_Big_timesPlus 42 = .ok (.lload_n 3, 1) := by decide +kernel
theorem d_Big_timesPlus_43 : decode b_Big_timesPlus 43 = .ok (.bipush 32, 2) := by decide +kernel
theorem d_Big_timesPlus_45 : decode b_Big_timesPlus 45 = .ok (.lushr, 1) := by decide +kernel
theorem d_Big_timesPlus_46 : decode b_Big_timesPlus 46 = .ok (.lstore_n 3, 1) := by decide +kernel
theorem d_Big_timesPlus_47 : decode b_Big_timesPlus 47 = .ok (.iinc 5 1, 3) := by decide +kernel
theorem d_Big_timesPlus_50 : decode b_Big_timesPlus 50 = .ok (.goto (-44), 3) := by decide +kernel
theorem d_Big_timesPlus_53 : decode b_Big_timesPlus 53 = .ok (.lload_n 3, 1) := by decide +kernel
theorem d_Big_timesPlus_54 : decode b_Big_timesPlus 54 = .ok (.lconst 0, 1) := by decide +kernel
theorem d_Big_timesPlus_55 : decode b_Big_timesPlus 55 = .ok (.lcmp, 1) := by decide +kernel
theorem d_Big_timesPlus_56 : decode b_Big_timesPlus 56 = .ok (.ifCond .eq 36, 3) := by decide +kernel
theorem d_Big_timesPlus_59 : decode b_Big_timesPlus 59 = .ok (.aload_n 0, 1) := by decide +kernel
theorem d_Big_timesPlus_60 : decode b_Big_timesPlus 60 = .ok (.getfield 13, 3) := by decide +kernel
theorem d_Big_timesPlus_63 : decode b_Big_timesPlus 63 = .ok (.aload_n 0, 1) := by decide +kernel
theorem d_Big_timesPlus_64 : decode b_Big_timesPlus 64 = .ok (.getfield 9, 3) := by decide +kernel
theorem d_Big_timesPlus_67 : decode b_Big_timesPlus 67 = .ok (.arraylength, 1) := by decide +kernel
theorem d_Big_timesPlus_68 : decode b_Big_timesPlus 68 = .ok (.if_icmp .ge 24, 3) := by decide +kernel
theorem d_Big_timesPlus_71 : decode b_Big_timesPlus 71 = .ok (.aload_n 0, 1) := by decide +kernel
theorem d_Big_timesPlus_72 : decode b_Big_timesPlus 72 = .ok (.getfield 9, 3) := by decide +kernel
theorem d_Big_timesPlus_75 : decode b_Big_timesPlus 75 = .ok (.aload_n 0, 1) := by decide +kernel
theorem d_Big_timesPlus_76 : decode b_Big_timesPlus 76 = .ok (.getfield 13, 3) := by decide +kernel
theorem d_Big_timesPlus_79 : decode b_Big_timesPlus 79 = .ok (.lload_n 3, 1) := by decide +kernel
theorem d_Big_timesPlus_80 : decode b_Big_timesPlus 80 = .ok (.l2i, 1) := by decide +kernel
theorem d_Big_timesPlus_81 : decode b_Big_timesPlus 81 = .ok (.iastore, 1) := by decide +kernel
theorem d_Big_timesPlus_82 : decode b_Big_timesPlus 82 = .ok (.aload_n 0, 1) := by decide +kernel
theorem d_Big_timesPlus_83 : decode b_Big_timesPlus 83 = .ok (.dup, 1) := by decide +kernel
theorem d_Big_timesPlus_84 : decode b_Big_timesPlus 84 = .ok (.getfield 13, 3) := by decide +kernel
theorem d_Big_timesPlus_87 : decode b_Big_timesPlus 87 = .ok (.iconst 1, 1) := by decide +kernel
theorem d_Big_timesPlus_88 : decode b_Big_timesPlus 88 = .ok (.iadd, 1) := by decide +kernel
theorem d_Big_timesPlus_89 : decode b_Big_timesPlus 89 = .ok (.putfield 13, 3) := by decide +kernel
theorem d_Big_timesPlus_92 : decode b_Big_timesPlus 92 = .ok (.return_, 1) := by decide +kernel
theorem d_Big_timesFives_0 : decode b_Big_timesFives 0 = .ok (.iload_n 1, 1) := by decide +kernel
theorem d_Big_timesFives_1 : decode b_Big_timesFives 1 = .ok (.istore_n 2, 1) := by decide +kernel
theorem d_Big_timesFives_2 : decode b_Big_timesFives 2 = .ok (.iload_n 2, 1) := by decide +kernel
theorem d_Big_timesFives_3 : decode b_Big_timesFives 3 = .ok (.bipush 13, 2) := by decide +kernel
theorem d_Big_timesFives_5 : decode b_Big_timesFives 5 = .ok (.if_icmp .lt 16, 3) := by decide +kernel
theorem d_Big_timesFives_8 : decode b_Big_timesFives 8 = .ok (.aload_n 0, 1) := by decide +kernel
theorem d_Big_timesFives_9 : decode b_Big_timesFives 9 = .ok (.ldc 28, 2) := by decide +kernel
theorem d_Big_timesFives_11 : decode b_Big_timesFives 11 = .ok (.iconst 0, 1) := by decide +kernel
theorem d_Big_timesFives_12 : decode b_Big_timesFives 12 = .ok (.invokevirtual 29, 3) := by decide +kernel
theorem d_Big_timesFives_15 : decode b_Big_timesFives 15 = .ok (.iinc 2 (-13), 3) := by decide +kernel
theorem d_Big_timesFives_18 : decode b_Big_timesFives 18 = .ok (.goto (-16), 3) := by decide +kernel
theorem d_Big_timesFives_21 : decode b_Big_timesFives 21 = .ok (.iload_n 2, 1) := by decide +kernel
theorem d_Big_timesFives_22 : decode b_Big_timesFives 22 = .ok (.ifCond .le 15, 3) := by decide +kernel
theorem d_Big_timesFives_25 : decode b_Big_timesFives 25 = .ok (.aload_n 0, 1) := by decide +kernel
theorem d_Big_timesFives_26 : decode b_Big_timesFives 26 = .ok (.iconst 5, 1) := by decide +kernel
theorem d_Big_timesFives_27 : decode b_Big_timesFives 27 = .ok (.iconst 0, 1) := by decide +kernel
theorem d_Big_timesFives_28 : decode b_Big_timesFives 28 = .ok (.invokevirtual 29, 3) := by decide +kernel
theorem d_Big_timesFives_31 : decode b_Big_timesFives 31 = .ok (.iinc 2 (-1), 3) := by decide +kernel
theorem d_Big_timesFives_34 : decode b_Big_timesFives 34 = .ok (.goto (-13), 3) := by decide +kernel
theorem d_Big_timesFives_37 : decode b_Big_timesFives 37 = .ok (.return_, 1) := by decide +kernel
theorem d_Big_shiftLeft_0 : decode b_Big_shiftLeft 0 = .ok (.iload_n 1, 1) := by decide +kernel
theorem d_Big_shiftLeft_1 : decode b_Big_shiftLeft 1 = .ok (.iconst 5, 1) := by decide +kernel
theorem d_Big_shiftLeft_2 : decode b_Big_shiftLeft 2 = .ok (.ishr, 1) := by decide +kernel
theorem d_Big_shiftLeft_3 : decode b_Big_shiftLeft 3 = .ok (.istore_n 2, 1) := by decide +kernel
theorem d_Big_shiftLeft_4 : decode b_Big_shiftLeft 4 = .ok (.iload_n 1, 1) := by decide +kernel
theorem d_Big_shiftLeft_5 : decode b_Big_shiftLeft 5 = .ok (.bipush 31, 2) := by decide +kernel
theorem d_Big_shiftLeft_7 : decode b_Big_shiftLeft 7 = .ok (.iand, 1) := by decide +kernel
theorem d_Big_shiftLeft_8 : decode b_Big_shiftLeft 8 = .ok (.istore_n 3, 1) := by decide +kernel
theorem d_Big_shiftLeft_9 : decode b_Big_shiftLeft 9 = .ok (.iload_n 1, 1) := by decide +kernel
theorem d_Big_shiftLeft_10 : decode b_Big_shiftLeft 10 = .ok (.ifCond .le 17, 3) := by decide +kernel
theorem d_Big_shiftLeft_13 : decode b_Big_shiftLeft 13 = .ok (.aload_n 0, 1) := by decide +kernel
theorem d_Big_shiftLeft_14 : decode b_Big_shiftLeft 14 = .ok (.getfield 13, 3) := by decide +kernel
theorem d_Big_shiftLeft_17 : decode b_Big_shiftLeft 17 = .ok (.iload_n 2, 1) := by decide +kernel
theorem d_Big_shiftLeft_18 : decode b_Big_shiftLeft 18 = .ok (.iadd, 1) := by decide +kernel
theorem d_Big_shiftLeft_19 : decode b_Big_shiftLeft 19 = .ok (.aload_n 0, 1) := by decide +kernel
theorem d_Big_shiftLeft_20 : decode b_Big_shiftLeft 20 = .ok (.getfield 9, 3) := by decide +kernel
theorem d_Big_shiftLeft_23 : decode b_Big_shiftLeft 23 = .ok (.arraylength, 1) := by decide +kernel
theorem d_Big_shiftLeft_24 : decode b_Big_shiftLeft 24 = .ok (.if_icmp .lt 4, 3) := by decide +kernel
theorem d_Big_shiftLeft_27 : decode b_Big_shiftLeft 27 = .ok (.return_, 1) := by decide +kernel
theorem d_Big_shiftLeft_28 : decode b_Big_shiftLeft 28 = .ok (.aload_n 0, 1) := by decide +kernel
theorem d_Big_shiftLeft_29 : decode b_Big_shiftLeft 29 = .ok (.getfield 13, 3) := by decide +kernel
theorem d_Big_shiftLeft_32 : decode b_Big_shiftLeft 32 = .ok (.istore 4, 2) := by decide +kernel
theorem d_Big_shiftLeft_34 : decode b_Big_shiftLeft 34 = .ok (.iload 4, 2) := by decide +kernel
theorem d_Big_shiftLeft_36 : decode b_Big_shiftLeft 36 = .ok (.ifCond .lt 84, 3) := by decide +kernel
theorem d_Big_shiftLeft_39 : decode b_Big_shiftLeft 39 = .ok (.iload 4, 2) := by decide +kernel
theorem d_Big_shiftLeft_41 : decode b_Big_shiftLeft 41 = .ok (.aload_n 0, 1) := by decide +kernel
theorem d_Big_shiftLeft_42 : decode b_Big_shiftLeft 42 = .ok (.getfield 13, 3) := by decide +kernel
theorem d_Big_shiftLeft_45 : decode b_Big_shiftLeft 45 = .ok (.if_icmp .ge 18, 3) := by decide +kernel
theorem d_Big_shiftLeft_48 : decode b_Big_shiftLeft 48 = .ok (.aload_n 0, 1) := by decide +kernel
theorem d_Big_shiftLeft_49 : decode b_Big_shiftLeft 49 = .ok (.getfield 9, 3) := by decide +kernel
theorem d_Big_shiftLeft_52 : decode b_Big_shiftLeft 52 = .ok (.iload 4, 2) := by decide +kernel
theorem d_Big_shiftLeft_54 : decode b_Big_shiftLeft 54 = .ok (.iaload, 1) := by decide +kernel
theorem d_Big_shiftLeft_55 : decode b_Big_shiftLeft 55 = .ok (.i2l, 1) := by decide +kernel
theorem d_Big_shiftLeft_56 : decode b_Big_shiftLeft 56 = .ok (.ldc2_w 20, 3) := by decide +kernel
theorem d_Big_shiftLeft_59 : decode b_Big_shiftLeft 59 = .ok (.land, 1) := by decide +kernel
theorem d_Big_shiftLeft_60 : decode b_Big_shiftLeft 60 = .ok (.goto 4, 3) := by decide +kernel
theorem d_Big_shiftLeft_63 : decode b_Big_shiftLeft 63 = .ok (.lconst 0, 1) := by decide +kernel
theorem d_Big_shiftLeft_64 : decode b_Big_shiftLeft 64 = .ok (.lstore 5, 2) := by decide +kernel
theorem d_Big_shiftLeft_66 : decode b_Big_shiftLeft 66 = .ok (.iload 4, 2) := by decide +kernel
theorem d_Big_shiftLeft_68 : decode b_Big_shiftLeft 68 = .ok (.ifCond .le 20, 3) := by decide +kernel
theorem d_Big_shiftLeft_71 : decode b_Big_shiftLeft 71 = .ok (.aload_n 0, 1) := by decide +kernel
theorem d_Big_shiftLeft_72 : decode b_Big_shiftLeft 72 = .ok (.getfield 9, 3) := by decide +kernel
theorem d_Big_shiftLeft_75 : decode b_Big_shiftLeft 75 = .ok (.iload 4, 2) := by decide +kernel
theorem d_Big_shiftLeft_77 : decode b_Big_shiftLeft 77 = .ok (.iconst 1, 1) := by decide +kernel
theorem d_Big_shiftLeft_78 : decode b_Big_shiftLeft 78 = .ok (.isub, 1) := by decide +kernel
theorem d_Big_shiftLeft_79 : decode b_Big_shiftLeft 79 = .ok (.iaload, 1) := by decide +kernel
theorem d_Big_shiftLeft_80 : decode b_Big_shiftLeft 80 = .ok (.i2l, 1) := by decide +kernel
theorem d_Big_shiftLeft_81 : decode b_Big_shiftLeft 81 = .ok (.ldc2_w 20, 3) := by decide +kernel
theorem d_Big_shiftLeft_84 : decode b_Big_shiftLeft 84 = .ok (.land, 1) := by decide +kernel
theorem d_Big_shiftLeft_85 : decode b_Big_shiftLeft 85 = .ok (.goto 4, 3) := by decide +kernel
theorem d_Big_shiftLeft_88 : decode b_Big_shiftLeft 88 = .ok (.lconst 0, 1) := by decide +kernel
theorem d_Big_shiftLeft_89 : decode b_Big_shiftLeft 89 = .ok (.lstore 7, 2) := by decide +kernel
theorem d_Big_shiftLeft_91 : decode b_Big_shiftLeft 91 = .ok (.aload_n 0, 1) := by decide +kernel
theorem d_Big_shiftLeft_92 : decode b_Big_shiftLeft 92 = .ok (.getfield 9, 3) := by decide +kernel
theorem d_Big_shiftLeft_95 : decode b_Big_shiftLeft 95 = .ok (.iload 4, 2) := by decide +kernel
theorem d_Big_shiftLeft_97 : decode b_Big_shiftLeft 97 = .ok (.iload_n 2, 1) := by decide +kernel
theorem d_Big_shiftLeft_98 : decode b_Big_shiftLeft 98 = .ok (.iadd, 1) := by decide +kernel
theorem d_Big_shiftLeft_99 : decode b_Big_shiftLeft 99 = .ok (.lload 5, 2) := by decide +kernel
theorem d_Big_shiftLeft_101 : decode b_Big_shiftLeft 101 = .ok (.bipush 32, 2) := by decide +kernel
theorem d_Big_shiftLeft_103 : decode b_Big_shiftLeft 103 = .ok (.lshl, 1) := by decide +kernel
theorem d_Big_shiftLeft_104 : decode b_Big_shiftLeft 104 = .ok (.lload 7, 2) := by decide +kernel
theorem d_Big_shiftLeft_106 : decode b_Big_shiftLeft 106 = .ok (.lor, 1) := by decide +kernel
theorem d_Big_shiftLeft_107 : decode b_Big_shiftLeft 107 = .ok (.iload_n 3, 1) := by decide +kernel
theorem d_Big_shiftLeft_108 : decode b_Big_shiftLeft 108 = .ok (.lshl, 1) := by decide +kernel
theorem d_Big_shiftLeft_109 : decode b_Big_shiftLeft 109 = .ok (.bipush 32, 2) := by decide +kernel
theorem d_Big_shiftLeft_111 : decode b_Big_shiftLeft 111 = .ok (.lushr, 1) := by decide +kernel
theorem d_Big_shiftLeft_112 : decode b_Big_shiftLeft 112 = .ok (.l2i, 1) := by decide +kernel
theorem d_Big_shiftLeft_113 : decode b_Big_shiftLeft 113 = .ok (.iastore, 1) := by decide +kernel
theorem d_Big_shiftLeft_114 : decode b_Big_shiftLeft 114 = .ok (.iinc 4 (-1), 3) := by decide +kernel
theorem d_Big_shiftLeft_117 : decode b_Big_shiftLeft 117 = .ok (.goto (-83), 3) := by decide +kernel
theorem d_Big_shiftLeft_120 : decode b_Big_shiftLeft 120 = .ok (.iconst 0, 1) := by decide +kernel
theorem d_Big_shiftLeft_121 : decode b_Big_shiftLeft 121 = .ok (.istore 4, 2) := by decide +kernel
theorem d_Big_shiftLeft_123 : decode b_Big_shiftLeft 123 = .ok (.iload 4, 2) := by decide +kernel
theorem d_Big_shiftLeft_125 : decode b_Big_shiftLeft 125 = .ok (.iload_n 2, 1) := by decide +kernel
theorem d_Big_shiftLeft_126 : decode b_Big_shiftLeft 126 = .ok (.if_icmp .ge 17, 3) := by decide +kernel
theorem d_Big_shiftLeft_129 : decode b_Big_shiftLeft 129 = .ok (.aload_n 0, 1) := by decide +kernel
theorem d_Big_shiftLeft_130 : decode b_Big_shiftLeft 130 = .ok (.getfield 9, 3) := by decide +kernel
theorem d_Big_shiftLeft_133 : decode b_Big_shiftLeft 133 = .ok (.iload 4, 2) := by decide +kernel
theorem d_Big_shiftLeft_135 : decode b_Big_shiftLeft 135 = .ok (.iconst 0, 1) := by decide +kernel
theorem d_Big_shiftLeft_136 : decode b_Big_shiftLeft 136 = .ok (.iastore, 1) := by decide +kernel
theorem d_Big_shiftLeft_137 : decode b_Big_shiftLeft 137 = .ok (.iinc 4 1, 3) := by decide +kernel
theorem d_Big_shiftLeft_140 : decode b_Big_shiftLeft 140 = .ok (.goto (-17), 3) := by decide +kernel
theorem d_Big_shiftLeft_143 : decode b_Big_shiftLeft 143 = .ok (.aload_n 0, 1) := by decide +kernel
theorem d_Big_shiftLeft_144 : decode b_Big_shiftLeft 144 = .ok (.dup, 1) := by decide +kernel
theorem d_Big_shiftLeft_145 : decode b_Big_shiftLeft 145 = .ok (.getfield 13, 3) := by decide +kernel
theorem d_Big_shiftLeft_148 : decode b_Big_shiftLeft 148 = .ok (.iload_n 2, 1) := by decide +kernel
theorem d_Big_shiftLeft_149 : decode b_Big_shiftLeft 149 = .ok (.iconst 1, 1) := by decide +kernel
theorem d_Big_shiftLeft_150 : decode b_Big_shiftLeft 150 = .ok (.iadd, 1) := by decide +kernel
theorem d_Big_shiftLeft_151 : decode b_Big_shiftLeft 151 = .ok (.iadd, 1) := by decide +kernel
theorem d_Big_shiftLeft_152 : decode b_Big_shiftLeft 152 = .ok (.putfield 13, 3) := by decide +kernel
theorem d_Big_shiftLeft_155 : decode b_Big_shiftLeft 155 = .ok (.aload_n 0, 1) := by decide +kernel
theorem d_Big_shiftLeft_156 : decode b_Big_shiftLeft 156 = .ok (.invokevirtual 17, 3) := by decide +kernel
theorem d_Big_shiftLeft_159 : decode b_Big_shiftLeft 159 = .ok (.return_, 1) := by decide +kernel
theorem d_Big_isAtLeast_0 : decode b_Big_isAtLeast 0 = .ok (.aload_n 0, 1) := by decide +kernel
theorem d_Big_isAtLeast_1 : decode b_Big_isAtLeast 1 = .ok (.getfield 13, 3) := by decide +kernel
theorem d_Big_isAtLeast_4 : decode b_Big_isAtLeast 4 = .ok (.aload_n 1, 1) := by decide +kernel
theorem d_Big_isAtLeast_5 : decode b_Big_isAtLeast 5 = .ok (.getfield 13, 3) := by decide +kernel
theorem d_Big_isAtLeast_8 : decode b_Big_isAtLeast 8 = .ok (.if_icmp .eq 20, 3) := by decide +kernel
theorem d_Big_isAtLeast_11 : decode b_Big_isAtLeast 11 = .ok (.aload_n 0, 1) := by decide +kernel
theorem d_Big_isAtLeast_12 : decode b_Big_isAtLeast 12 = .ok (.getfield 13, 3) := by decide +kernel
theorem d_Big_isAtLeast_15 : decode b_Big_isAtLeast 15 = .ok (.aload_n 1, 1) := by decide +kernel
theorem d_Big_isAtLeast_16 : decode b_Big_isAtLeast 16 = .ok (.getfield 13, 3) := by decide +kernel
theorem d_Big_isAtLeast_19 : decode b_Big_isAtLeast 19 = .ok (.if_icmp .le 7, 3) := by decide +kernel
theorem d_Big_isAtLeast_22 : decode b_Big_isAtLeast 22 = .ok (.iconst 1, 1) := by decide +kernel
theorem d_Big_isAtLeast_23 : decode b_Big_isAtLeast 23 = .ok (.goto 4, 3) := by decide +kernel
theorem d_Big_isAtLeast_26 : decode b_Big_isAtLeast 26 = .ok (.iconst 0, 1) := by decide +kernel
theorem d_Big_isAtLeast_27 : decode b_Big_isAtLeast 27 = .ok (.ireturn, 1) := by decide +kernel
theorem d_Big_isAtLeast_28 : decode b_Big_isAtLeast 28 = .ok (.aload_n 0, 1) := by decide +kernel
theorem d_Big_isAtLeast_29 : decode b_Big_isAtLeast 29 = .ok (.getfield 13, 3) := by decide +kernel
theorem d_Big_isAtLeast_32 : decode b_Big_isAtLeast 32 = .ok (.iconst 1, 1) := by decide +kernel
theorem d_Big_isAtLeast_33 : decode b_Big_isAtLeast 33 = .ok (.isub, 1) := by decide +kernel
theorem d_Big_isAtLeast_34 : decode b_Big_isAtLeast 34 = .ok (.istore_n 2, 1) := by decide +kernel
theorem d_Big_isAtLeast_35 : decode b_Big_isAtLeast 35 = .ok (.iload_n 2, 1) := by decide +kernel
theorem d_Big_isAtLeast_36 : decode b_Big_isAtLeast 36 = .ok (.ifCond .lt 56, 3) := by decide +kernel
theorem d_Big_isAtLeast_39 : decode b_Big_isAtLeast 39 = .ok (.aload_n 0, 1) := by decide +kernel
theorem d_Big_isAtLeast_40 : decode b_Big_isAtLeast 40 = .ok (.getfield 9, 3) := by decide +kernel
theorem d_Big_isAtLeast_43 : decode b_Big_isAtLeast 43 = .ok (.iload_n 2, 1) := by decide +kernel
theorem d_Big_isAtLeast_44 : decode b_Big_isAtLeast 44 = .ok (.iaload, 1) := by decide +kernel
theorem d_Big_isAtLeast_45 : decode b_Big_isAtLeast 45 = .ok (.aload_n 1, 1) := by decide +kernel
theorem d_Big_isAtLeast_46 : decode b_Big_isAtLeast 46 = .ok (.getfield 9, 3) := by decide +kernel
theorem d_Big_isAtLeast_49 : decode b_Big_isAtLeast 49 = .ok (.iload_n 2, 1) := by decide +kernel
theorem d_Big_isAtLeast_50 : decode b_Big_isAtLeast 50 = .ok (.iaload, 1) := by decide +kernel
theorem d_Big_isAtLeast_51 : decode b_Big_isAtLeast 51 = .ok (.if_icmp .eq 35, 3) := by decide +kernel
theorem d_Big_isAtLeast_54 : decode b_Big_isAtLeast 54 = .ok (.aload_n 0, 1) := by decide +kernel
theorem d_Big_isAtLeast_55 : decode b_Big_isAtLeast 55 = .ok (.getfield 9, 3) := by decide +kernel
theorem d_Big_isAtLeast_58 : decode b_Big_isAtLeast 58 = .ok (.iload_n 2, 1) := by decide +kernel
theorem d_Big_isAtLeast_59 : decode b_Big_isAtLeast 59 = .ok (.iaload, 1) := by decide +kernel
theorem d_Big_isAtLeast_60 : decode b_Big_isAtLeast 60 = .ok (.i2l, 1) := by decide +kernel
theorem d_Big_isAtLeast_61 : decode b_Big_isAtLeast 61 = .ok (.ldc2_w 20, 3) := by decide +kernel
theorem d_Big_isAtLeast_64 : decode b_Big_isAtLeast 64 = .ok (.land, 1) := by decide +kernel
theorem d_Big_isAtLeast_65 : decode b_Big_isAtLeast 65 = .ok (.aload_n 1, 1) := by decide +kernel
theorem d_Big_isAtLeast_66 : decode b_Big_isAtLeast 66 = .ok (.getfield 9, 3) := by decide +kernel
theorem d_Big_isAtLeast_69 : decode b_Big_isAtLeast 69 = .ok (.iload_n 2, 1) := by decide +kernel
theorem d_Big_isAtLeast_70 : decode b_Big_isAtLeast 70 = .ok (.iaload, 1) := by decide +kernel
theorem d_Big_isAtLeast_71 : decode b_Big_isAtLeast 71 = .ok (.i2l, 1) := by decide +kernel
theorem d_Big_isAtLeast_72 : decode b_Big_isAtLeast 72 = .ok (.ldc2_w 20, 3) := by decide +kernel
theorem d_Big_isAtLeast_75 : decode b_Big_isAtLeast 75 = .ok (.land, 1) := by decide +kernel
theorem d_Big_isAtLeast_76 : decode b_Big_isAtLeast 76 = .ok (.lcmp, 1) := by decide +kernel
theorem d_Big_isAtLeast_77 : decode b_Big_isAtLeast 77 = .ok (.ifCond .le 7, 3) := by decide +kernel
theorem d_Big_isAtLeast_80 : decode b_Big_isAtLeast 80 = .ok (.iconst 1, 1) := by decide +kernel
theorem d_Big_isAtLeast_81 : decode b_Big_isAtLeast 81 = .ok (.goto 4, 3) := by decide +kernel
theorem d_Big_isAtLeast_84 : decode b_Big_isAtLeast 84 = .ok (.iconst 0, 1) := by decide +kernel
theorem d_Big_isAtLeast_85 : decode b_Big_isAtLeast 85 = .ok (.ireturn, 1) := by decide +kernel
theorem d_Big_isAtLeast_86 : decode b_Big_isAtLeast 86 = .ok (.iinc 2 (-1), 3) := by decide +kernel
theorem d_Big_isAtLeast_89 : decode b_Big_isAtLeast 89 = .ok (.goto (-54), 3) := by decide +kernel
theorem d_Big_isAtLeast_92 : decode b_Big_isAtLeast 92 = .ok (.iconst 1, 1) := by decide +kernel
theorem d_Big_isAtLeast_93 : decode b_Big_isAtLeast 93 = .ok (.ireturn, 1) := by decide +kernel
theorem d_Big_subtract_0 : decode b_Big_subtract 0 = .ok (.lconst 0, 1) := by decide +kernel
theorem d_Big_subtract_1 : decode b_Big_subtract 1 = .ok (.lstore_n 2, 1) := by decide +kernel
theorem d_Big_subtract_2 : decode b_Big_subtract 2 = .ok (.iconst 0, 1) := by decide +kernel
theorem d_Big_subtract_3 : decode b_Big_subtract 3 = .ok (.istore 4, 2) := by decide +kernel
theorem d_Big_subtract_5 : decode b_Big_subtract 5 = .ok (.iload 4, 2) := by decide +kernel
theorem d_Big_subtract_7 : decode b_Big_subtract 7 = .ok (.aload_n 0, 1) := by decide +kernel
theorem d_Big_subtract_8 : decode b_Big_subtract 8 = .ok (.getfield 13, 3) := by decide +kernel
theorem d_Big_subtract_11 : decode b_Big_subtract 11 = .ok (.if_icmp .ge 71, 3) := by decide +kernel
theorem d_Big_subtract_14 : decode b_Big_subtract 14 = .ok (.iload 4, 2) := by decide +kernel
theorem d_Big_subtract_16 : decode b_Big_subtract 16 = .ok (.aload_n 1, 1) := by decide +kernel
theorem d_Big_subtract_17 : decode b_Big_subtract 17 = .ok (.getfield 13, 3) := by decide +kernel
theorem d_Big_subtract_20 : decode b_Big_subtract 20 = .ok (.if_icmp .ge 18, 3) := by decide +kernel
theorem d_Big_subtract_23 : decode b_Big_subtract 23 = .ok (.aload_n 1, 1) := by decide +kernel
theorem d_Big_subtract_24 : decode b_Big_subtract 24 = .ok (.getfield 9, 3) := by decide +kernel
theorem d_Big_subtract_27 : decode b_Big_subtract 27 = .ok (.iload 4, 2) := by decide +kernel
theorem d_Big_subtract_29 : decode b_Big_subtract 29 = .ok (.iaload, 1) := by decide +kernel
theorem d_Big_subtract_30 : decode b_Big_subtract 30 = .ok (.i2l, 1) := by decide +kernel
theorem d_Big_subtract_31 : decode b_Big_subtract 31 = .ok (.ldc2_w 20, 3) := by decide +kernel
theorem d_Big_subtract_34 : decode b_Big_subtract 34 = .ok (.land, 1) := by decide +kernel
theorem d_Big_subtract_35 : decode b_Big_subtract 35 = .ok (.goto 4, 3) := by decide +kernel
theorem d_Big_subtract_38 : decode b_Big_subtract 38 = .ok (.lconst 0, 1) := by decide +kernel
theorem d_Big_subtract_39 : decode b_Big_subtract 39 = .ok (.lstore 5, 2) := by decide +kernel
theorem d_Big_subtract_41 : decode b_Big_subtract 41 = .ok (.aload_n 0, 1) := by decide +kernel
theorem d_Big_subtract_42 : decode b_Big_subtract 42 = .ok (.getfield 9, 3) := by decide +kernel
theorem d_Big_subtract_45 : decode b_Big_subtract 45 = .ok (.iload 4, 2) := by decide +kernel
theorem d_Big_subtract_47 : decode b_Big_subtract 47 = .ok (.iaload, 1) := by decide +kernel
theorem d_Big_subtract_48 : decode b_Big_subtract 48 = .ok (.i2l, 1) := by decide +kernel
theorem d_Big_subtract_49 : decode b_Big_subtract 49 = .ok (.ldc2_w 20, 3) := by decide +kernel
theorem d_Big_subtract_52 : decode b_Big_subtract 52 = .ok (.land, 1) := by decide +kernel
theorem d_Big_subtract_53 : decode b_Big_subtract 53 = .ok (.lload 5, 2) := by decide +kernel
theorem d_Big_subtract_55 : decode b_Big_subtract 55 = .ok (.lsub, 1) := by decide +kernel
theorem d_Big_subtract_56 : decode b_Big_subtract 56 = .ok (.lload_n 2, 1) := by decide +kernel
theorem d_Big_subtract_57 : decode b_Big_subtract 57 = .ok (.lsub, 1) := by decide +kernel
theorem d_Big_subtract_58 : decode b_Big_subtract 58 = .ok (.lstore 7, 2) := by decide +kernel
theorem d_Big_subtract_60 : decode b_Big_subtract 60 = .ok (.aload_n 0, 1) := by decide +kernel
theorem d_Big_subtract_61 : decode b_Big_subtract 61 = .ok (.getfield 9, 3) := by decide +kernel
theorem d_Big_subtract_64 : decode b_Big_subtract 64 = .ok (.iload 4, 2) := by decide +kernel
theorem d_Big_subtract_66 : decode b_Big_subtract 66 = .ok (.lload 7, 2) := by decide +kernel
theorem d_Big_subtract_68 : decode b_Big_subtract 68 = .ok (.l2i, 1) := by decide +kernel
theorem d_Big_subtract_69 : decode b_Big_subtract 69 = .ok (.iastore, 1) := by decide +kernel
theorem d_Big_subtract_70 : decode b_Big_subtract 70 = .ok (.lload 7, 2) := by decide +kernel
theorem d_Big_subtract_72 : decode b_Big_subtract 72 = .ok (.bipush 63, 2) := by decide +kernel
theorem d_Big_subtract_74 : decode b_Big_subtract 74 = .ok (.lushr, 1) := by decide +kernel
theorem d_Big_subtract_75 : decode b_Big_subtract 75 = .ok (.lstore_n 2, 1) := by decide +kernel
theorem d_Big_subtract_76 : decode b_Big_subtract 76 = .ok (.iinc 4 1, 3) := by decide +kernel
theorem d_Big_subtract_79 : decode b_Big_subtract 79 = .ok (.goto (-74), 3) := by decide +kernel
theorem d_Big_subtract_82 : decode b_Big_subtract 82 = .ok (.aload_n 0, 1) := by decide +kernel
theorem d_Big_subtract_83 : decode b_Big_subtract 83 = .ok (.invokevirtual 17, 3) := by decide +kernel
theorem d_Big_subtract_86 : decode b_Big_subtract 86 = .ok (.return_, 1) := by decide +kernel
theorem d_Big_dropZeros_0 : decode b_Big_dropZeros 0 = .ok (.aload_n 0, 1) := by decide +kernel
theorem d_Big_dropZeros_1 : decode b_Big_dropZeros 1 = .ok (.getfield 13, 3) := by decide +kernel
theorem d_Big_dropZeros_4 : decode b_Big_dropZeros 4 = .ok (.ifCond .le 30, 3) := by decide +kernel
theorem d_Big_dropZeros_7 : decode b_Big_dropZeros 7 = .ok (.aload_n 0, 1) := by decide +kernel
theorem d_Big_dropZeros_8 : decode b_Big_dropZeros 8 = .ok (.getfield 9, 3) := by decide +kernel
theorem d_Big_dropZeros_11 : decode b_Big_dropZeros 11 = .ok (.aload_n 0, 1) := by decide +kernel
theorem d_Big_dropZeros_12 : decode b_Big_dropZeros 12 = .ok (.getfield 13, 3) := by decide +kernel
theorem d_Big_dropZeros_15 : decode b_Big_dropZeros 15 = .ok (.iconst 1, 1) := by decide +kernel
theorem d_Big_dropZeros_16 : decode b_Big_dropZeros 16 = .ok (.isub, 1) := by decide +kernel
theorem d_Big_dropZeros_17 : decode b_Big_dropZeros 17 = .ok (.iaload, 1) := by decide +kernel
theorem d_Big_dropZeros_18 : decode b_Big_dropZeros 18 = .ok (.ifCond .ne 16, 3) := by decide +kernel
theorem d_Big_dropZeros_21 : decode b_Big_dropZeros 21 = .ok (.aload_n 0, 1) := by decide +kernel
theorem d_Big_dropZeros_22 : decode b_Big_dropZeros 22 = .ok (.dup, 1) := by decide +kernel
theorem d_Big_dropZeros_23 : decode b_Big_dropZeros 23 = .ok (.getfield 13, 3) := by decide +kernel
theorem d_Big_dropZeros_26 : decode b_Big_dropZeros 26 = .ok (.iconst 1, 1) := by decide +kernel
theorem d_Big_dropZeros_27 : decode b_Big_dropZeros 27 = .ok (.isub, 1) := by decide +kernel
theorem d_Big_dropZeros_28 : decode b_Big_dropZeros 28 = .ok (.putfield 13, 3) := by decide +kernel
theorem d_Big_dropZeros_31 : decode b_Big_dropZeros 31 = .ok (.goto (-31), 3) := by decide +kernel
theorem d_Big_dropZeros_34 : decode b_Big_dropZeros 34 = .ok (.return_, 1) := by decide +kernel
end
section
set_option maxHeartbeats 4000000 in
set_option maxRecDepth 100000 in
theorem c_Big_dropZeros (l : Launch) (D : va_G) (E : evD) (h a : Nat) (cA : ClassId) (f : Nat → Int32) (n : Nat) (hn : n ≤ 96) : Cv (S := Nat) l y_Big_dropZeros (wz y_Big_dropZeros b_Big_dropZeros 1 none) ({ frames := 0, cells := 0, slots := 0, locals := 0 }) D vcl (ev1 E) [.ref h] [(cA, .int)] [(h, .inr (0, [.ref a, .int (nI n)])), (a, .inl (cA, 96, .inl f))] 0 0 (fun u : Nat => bv f u = bv f n ∧ u ≤ n ∧ (u = 0 ∨ f (u - 1) ≠ 0)) (fun _ => [(cA, .int)]) (fun u : Nat => [(h, .inr (0, [.ref a, .int (nI u)])), (a, .inl (cA, 96, .inl f))]) := by
  have hev := ev1_ok E
  unfold Cv
  refine ct_of (y := y_Big_dropZeros) (av := [.ref h]) (cc := b_Big_dropZeros) (maxL := 1) (ret := none) (Qc := fun A => va_Qv (S := Nat) (fun u : Nat => bv f u = bv f n ∧ u ≤ n ∧ (u = 0 ∨ f (u - 1) ≠ 0)) (fun u t => ctB D vcl ((fun _ => [(cA, .int)]) u) ((fun u : Nat => [(h, .inr (0, [.ref a, .int (nI u)])), (a, .inl (cA, 96, .inl f))]) u) A t) A) (by decide) rfl (Nat.le_of_ble_eq_true rfl) ?_
  intro p e s m below meth cde ls A H locs hx hb hml hrt hlocks hown hin hts hA hP hK hD hS hE hl
  have hown : s.vm.findClass R_Big = some m.cls := hown
  have hts := wz_g hts
  have hl : lv_has ls 1 [(0, .ref h)] := hl
  have L0 : ∀ (kk : Nat) (k : Nat), k < kk → (k ≤ n) → (bv f k = bv f n) → ∀ (H : Heap) (locs : List Loc) (ls : Array Slot), va_P D vcl [(h, .inr (0, [.ref a, .int (nI k)])), (a, .inl (cA, 96, .inl f))] H → va_D A [(h, .inr (0, [.ref a, .int (nI k)])), (a, .inl (cA, 96, .inl f))] → va_S A s.heap H locs → lv_has ls 1 [(0, .ref h)] → W p l e ({ frames := 0, cells := 0, slots := 0, locals := 0 }) s m ([.ref h] : List Value).toArray below meth cde H locs 0 0 (MQ below (va_Qv (S := Nat) (fun u : Nat => bv f u = bv f n ∧ u ≤ n ∧ (u = 0 ∨ f (u - 1) ≠ 0)) (fun u t => ctB D vcl ((fun _ => [(cA, .int)]) u) ((fun u : Nat => [(h, .inr (0, [.ref a, .int (nI u)])), (a, .inl (cA, 96, .inl f))]) u) A t) A) ([.ref h] : List Value).toArray s 0 0 A) (F0 m 0 ls []) := by
    intro kk
    induction kk with
    | zero => intro k hmz; exact absurd hmz (Nat.not_lt_zero _)
    | succ kk ih =>
      intro k hmz hk hv H locs ls hP hD hS hl
      refine lv_aload_n hx hb d_Big_dropZeros_0 rfl (lv_at hl 0 rfl) ?_
      refine va_get (D := D) (ci := 0) (v := .int (nI k)) (C := R_Big) (T := F_Big) (N := 2) hx hb hts w_Big hown hK hP 0 rfl rfl 1 (by decide) (hts _ kF_Big_13) (fun _ h9 => h9) rfl d_Big_dropZeros_1 ?_
      refine lv_if_le (tgt := 34) hx hb d_Big_dropZeros_4 (by decide) (fun c4 => ?_) (fun c4 => ?_)
      · have e4 : k = 0 := (nI_le0 (by omega)).mp c4
        exact rt_v hx hb hrt hlocks (k) (⟨hv, hk, Or.inl e4⟩) (hP.sub [0, 1] rfl) (hK.sub [0] rfl) (hD.sub [0, 1] (by decide) rfl) hS d_Big_dropZeros_34
      · have e4 : 0 < k := Nat.pos_of_ne_zero (fun z => c4 ((nI_le0 (by omega)).mpr z))
        refine lv_aload_n hx hb d_Big_dropZeros_7 rfl (lv_at hl 0 rfl) ?_
        refine va_get (D := D) (ci := 0) (v := .ref a) (C := R_Big) (T := F_Big) (N := 2) hx hb hts w_Big hown hK hP 0 rfl rfl 0 (by decide) (hts _ kF_Big_9) (fun _ h9 => h9) rfl d_Big_dropZeros_8 ?_
        refine lv_aload_n hx hb d_Big_dropZeros_11 rfl (lv_at hl 0 rfl) ?_
        refine va_get (D := D) (ci := 0) (v := .int (nI k)) (C := R_Big) (T := F_Big) (N := 2) hx hb hts w_Big hown hK hP 0 rfl rfl 1 (by decide) (hts _ kF_Big_13) (fun _ h9 => h9) rfl d_Big_dropZeros_12 ?_
        refine lv_iconst (v := 1) hx hb d_Big_dropZeros_15 (by decide) ?_
        refine lv_isub hx hb d_Big_dropZeros_16 ?_
        refine tv_i (nI (k - 1)) (nI_dec e4) ?_
        refine va_iald hx hb hK hP 1 0 rfl rfl (i := nI (k - 1)) (vp_in_nI (show k - 1 < 96 by omega) (by decide)) d_Big_dropZeros_17 ?_
        refine tv_i (f (k - 1)) (by rw [nI_clamp (by omega)]) ?_
        refine lv_if_ne (tgt := 34) hx hb d_Big_dropZeros_18 (by decide) (fun c18 => ?_) (fun c18 => ?_)
        · exact rt_v hx hb hrt hlocks (k) (⟨hv, hk, Or.inr c18⟩) (hP.sub [0, 1] rfl) (hK.sub [0] rfl) (hD.sub [0, 1] (by decide) rfl) hS d_Big_dropZeros_34
        · refine lv_aload_n hx hb d_Big_dropZeros_21 rfl (lv_at hl 0 rfl) ?_
          refine lv_dup hx hb d_Big_dropZeros_22 rfl ?_
          refine va_get (D := D) (ci := 0) (v := .int (nI k)) (C := R_Big) (T := F_Big) (N := 2) hx hb hts w_Big hown hK hP 0 rfl rfl 1 (by decide) (hts _ kF_Big_13) (fun _ h9 => h9) rfl d_Big_dropZeros_23 ?_
          refine lv_iconst (v := 1) hx hb d_Big_dropZeros_26 (by decide) ?_
          refine lv_isub hx hb d_Big_dropZeros_27 ?_
          refine tv_i (nI (k - 1)) (nI_dec e4) ?_
          refine va_put (D := D) (ci := 0) (v := .int (nI (k - 1))) (ty := .int) (C := R_Big) (T := F_Big) (N := 2) hx hb hts w_Big t_Big tk_Big n_Big hown hK hP hD hS 0 rfl rfl 1 (by decide) (hts _ kF_Big_13) (fun _ h9 => h9) rfl (by decide +kernel) (rfl) (rfl) (Nat.le_of_ble_eq_true rfl) d_Big_dropZeros_28 (fun H locs hP hD hS => ?_)
          have hP : va_P D vcl [(h, .inr (0, [.ref a, .int (nI (k - 1))])), (a, .inl (cA, 96, .inl f))] H := hP
          have hD : va_D A [(h, .inr (0, [.ref a, .int (nI (k - 1))])), (a, .inl (cA, 96, .inl f))] := hD
          refine lv_goto (tgt := 0) hx hb d_Big_dropZeros_31 (by decide) ?_
          exact ih (k - 1) (by omega) (by omega) (by have h9 := dz_step (f := f) (n := k - 1) c18; rw [show k - 1 + 1 = k by omega] at h9; rw [← h9]; exact hv) _ _ _ (hP.sub [0, 1] rfl) (hD.sub [0, 1] (by decide) rfl) hS (lv_sub hl [0] rfl)
  exact L0 (n + 1) n (by omega) (Nat.le_refl n) (rfl) _ _ _ (hP.sub [0, 1] rfl) (hD.sub [0, 1] (by decide) rfl) hS (lv_sub hl [0] rfl)

set_option maxHeartbeats 4000000 in
set_option maxRecDepth 100000 in
theorem c_Big_isZero (l : Launch) (D : va_G) (E : evD) (h a : Nat) (cA : ClassId) (f : Nat → Int32) (n : Nat) (V : Nat) (hB : isB f n V) : Ci (S := Unit) l y_Big_isZero (wz y_Big_isZero b_Big_isZero 1 (some .boolean)) ({ frames := 0, cells := 0, slots := 0, locals := 0 }) D vcl (ev1 E) [.ref h] [(cA, .int)] [(h, .inr (0, [.ref a, .int (nI n)])), (a, .inl (cA, 96, .inl f))] 0 0 (fun (r : Int32) (_ : Unit) => (r = 1 ∨ r = 0) ∧ (r = 1 ↔ V = 0)) (fun _ => [(cA, .int)]) (fun _ : Unit => [(h, .inr (0, [.ref a, .int (nI n)])), (a, .inl (cA, 96, .inl f))]) := by
  have hev := ev1_ok E
  unfold Ci
  refine ct_of (y := y_Big_isZero) (av := [.ref h]) (cc := b_Big_isZero) (maxL := 1) (ret := (some .boolean)) (Qc := fun A => va_Qi (S := Unit) (fun (r : Int32) (_ : Unit) => (r = 1 ∨ r = 0) ∧ (r = 1 ↔ V = 0)) (fun u t => ctB D vcl ((fun _ => [(cA, .int)]) u) ((fun _ : Unit => [(h, .inr (0, [.ref a, .int (nI n)])), (a, .inl (cA, 96, .inl f))]) u) A t) A) (by decide) rfl (Nat.le_of_ble_eq_true rfl) ?_
  intro p e s m below meth cde ls A H locs hx hb hml hrt hlocks hown hin hts hA hP hK hD hS hE hl
  have hown : s.vm.findClass R_Big = some m.cls := hown
  have hts := wz_g hts
  have hl : lv_has ls 1 [(0, .ref h)] := hl
  refine lv_aload_n hx hb d_Big_isZero_0 rfl (lv_at hl 0 rfl) ?_
  refine va_get (D := D) (ci := 0) (v := .int (nI n)) (C := R_Big) (T := F_Big) (N := 2) hx hb hts w_Big hown hK hP 0 rfl rfl 1 (by decide) (hts _ kF_Big_13) (fun _ h9 => h9) rfl d_Big_isZero_1 ?_
  refine lv_if_ne (tgt := 11) hx hb d_Big_isZero_4 (by decide) (fun c4 => ?_) (fun c4 => ?_)
  · refine lv_iconst (v := 0) hx hb d_Big_isZero_11 (by decide) ?_
    exact rt_i hx hb hrt hlocks (rfl) (()) (⟨Or.inr rfl, iff_of_false (by decide) (fun z => c4 ((nI_eq0 (by have := hB.2.1; omega)).mpr ((isB_0 hB).mpr z)))⟩) (hP.sub [0, 1] rfl) (hK.sub [0] rfl) (hD.sub [0, 1] (by decide) rfl) hS d_Big_isZero_12
  · refine lv_iconst (v := 1) hx hb d_Big_isZero_7 (by decide) ?_
    refine lv_goto (tgt := 12) hx hb d_Big_isZero_8 (by decide) ?_
    exact rt_i hx hb hrt hlocks (rfl) (()) (⟨Or.inl rfl, iff_of_true rfl ((isB_0 hB).mp ((nI_eq0 (by have := hB.2.1; omega)).mp c4))⟩) (hP.sub [0, 1] rfl) (hK.sub [0] rfl) (hD.sub [0, 1] (by decide) rfl) hS d_Big_isZero_12

set_option maxHeartbeats 4000000 in
set_option maxRecDepth 100000 in
theorem c_Big_timesPlus (l : Launch) (D : va_G) (E : evD) (h a : Nat) (cA : ClassId) (f : Nat → Int32) (n : Nat) (V k mo : Nat) (hB : isB f n V) (hk0 : 0 < k) (hk1 : k < 2147483648) (hm : mo < 2147483648) (hfit : V * k + mo < pw 96) : Cv (S := (Nat → Int32) × Nat) l y_Big_timesPlus (wz y_Big_timesPlus b_Big_timesPlus 6 none) ({ frames := 0, cells := 0, slots := 0, locals := 0 }) D vcl (ev1 E) [.ref h, .int (nI k), .int (nI mo)] [(cA, .int)] [(h, .inr (0, [.ref a, .int (nI n)])), (a, .inl (cA, 96, .inl f))] 0 0 (fun u : (Nat → Int32) × Nat => isB u.1 u.2 (V * k + mo)) (fun _ => [(cA, .int)]) (fun u : (Nat → Int32) × Nat => [(h, .inr (0, [.ref a, .int (nI u.2)])), (a, .inl (cA, 96, .inl u.1))]) := by
  have hev := ev1_ok E
  unfold Cv
  refine ct_of (y := y_Big_timesPlus) (av := [.ref h, .int (nI k), .int (nI mo)]) (cc := b_Big_timesPlus) (maxL := 6) (ret := none) (Qc := fun A => va_Qv (S := (Nat → Int32) × Nat) (fun u : (Nat → Int32) × Nat => isB u.1 u.2 (V * k + mo)) (fun u t => ctB D vcl ((fun _ => [(cA, .int)]) u) ((fun u : (Nat → Int32) × Nat => [(h, .inr (0, [.ref a, .int (nI u.2)])), (a, .inl (cA, 96, .inl u.1))]) u) A t) A) (by decide) rfl (Nat.le_of_ble_eq_true rfl) ?_
  intro p e s m below meth cde ls A H locs hx hb hml hrt hlocks hown hin hts hA hP hK hD hS hE hl
  have hown : s.vm.findClass R_Big = some m.cls := hown
  have hts := wz_g hts
  have hl : lv_has ls 6 [(0, .ref h), (1, .int (nI k)), (2, .int (nI mo))] := hl
  have hn96 := hB.2.1
  refine lv_iload_n hx hb d_Big_timesPlus_0 rfl (lv_at hl 2 rfl) ?_
  refine lv_i2l (v := (nI mo).toInt64) hx hb d_Big_timesPlus_1 (rfl) ?_
  refine tv_l (lN mo) (nI_l hm) ?_
  refine lv_lstore_n (lv' := [(3, .long (lN mo)), (0, .ref h), (1, .int (nI k)), (2, .int (nI mo))]) hx hb d_Big_timesPlus_2 rfl hl (by decide) rfl (fun ls hl => ?_)
  refine lv_iconst (v := 0) hx hb d_Big_timesPlus_3 (by decide) ?_
  refine lv_istore (lv' := [(5, .int 0), (3, .long (lN mo)), (0, .ref h), (1, .int (nI k)), (2, .int (nI mo))]) hx hb d_Big_timesPlus_4 hl (by decide) rfl (fun ls hl => ?_)
  have L6 : ∀ (kk : Nat) (i : Nat) (cy : Nat) (g : Nat → Int32), n - i < kk → (i ≤ n) → (cy < 2147483648) → (∀ j, i ≤ j → g j = f j) → (bv g i + cy * pw i = bv f i * k + mo) → ∀ (H : Heap) (locs : List Loc) (ls : Array Slot), va_P D vcl [(h, .inr (0, [.ref a, .int (nI n)])), (a, .inl (cA, 96, .inl g))] H → va_D A [(h, .inr (0, [.ref a, .int (nI n)])), (a, .inl (cA, 96, .inl g))] → va_S A s.heap H locs → lv_has ls 6 [(0, .ref h), (1, .int (nI k)), (3, .long (lN cy)), (5, .int (nI i))] → W p l e ({ frames := 0, cells := 0, slots := 0, locals := 0 }) s m ([.ref h, .int (nI k), .int (nI mo)] : List Value).toArray below meth cde H locs 0 0 (MQ below (va_Qv (S := (Nat → Int32) × Nat) (fun u : (Nat → Int32) × Nat => isB u.1 u.2 (V * k + mo)) (fun u t => ctB D vcl ((fun _ => [(cA, .int)]) u) ((fun u : (Nat → Int32) × Nat => [(h, .inr (0, [.ref a, .int (nI u.2)])), (a, .inl (cA, 96, .inl u.1))]) u) A t) A) ([.ref h, .int (nI k), .int (nI mo)] : List Value).toArray s 0 0 A) (F0 m 6 ls []) := by
    intro kk
    induction kk with
    | zero => intro i cy g hmz; exact absurd hmz (Nat.not_lt_zero _)
    | succ kk ih =>
      intro i cy g hmz hi hc hg hv H locs ls hP hD hS hl
      refine lv_iload hx hb d_Big_timesPlus_6 (lv_at hl 3 rfl) ?_
      refine lv_aload_n hx hb d_Big_timesPlus_8 rfl (lv_at hl 0 rfl) ?_
      refine va_get (D := D) (ci := 0) (v := .int (nI n)) (C := R_Big) (T := F_Big) (N := 2) hx hb hts w_Big hown hK hP 0 rfl rfl 1 (by decide) (hts _ kF_Big_13) (fun _ h9 => h9) rfl d_Big_timesPlus_9 ?_
      refine lv_icmp_ge (tgt := 53) hx hb d_Big_timesPlus_12 (by decide) (fun c12 => ?_) (fun c12 => ?_)
      · have e12 : i = n := by have := (nI_leI (by omega) (by omega)).mp c12; omega
        rw [e12] at hv
        obtain ⟨hz, hnz⟩ := tp_end hB hk0 (by rw [← hB.1]; exact hv) (by omega) hfit
        refine lv_lload_n hx hb d_Big_timesPlus_53 rfl (lv_at hl 2 rfl) ?_
        refine lv_lconst (v := 0) hx hb d_Big_timesPlus_54 (by decide) ?_
        refine W.lcmp hx hb d_Big_timesPlus_55 ?_
        refine lv_if_eq (tgt := 92) hx hb d_Big_timesPlus_56 (by decide) (fun c56 => ?_) (fun c56 => ?_)
        · have e56 : cy = 0 := (lN_ne0 (by omega)).mp ((lg_cmp_eq _ _).mp c56)
          exact rt_v hx hb hrt hlocks ((g, n)) (hz e56) (hP.sub [0, 1] rfl) (hK.sub [0] rfl) (hD.sub [0, 1] (by decide) rfl) hS d_Big_timesPlus_92
        · have e56 : cy ≠ 0 := fun z => c56 ((lg_cmp_eq _ _).mpr ((lN_ne0 (by omega)).mpr z))
          obtain ⟨hn96, hB2⟩ := hnz e56
          refine lv_aload_n hx hb d_Big_timesPlus_59 rfl (lv_at hl 0 rfl) ?_
          refine va_get (D := D) (ci := 0) (v := .int (nI n)) (C := R_Big) (T := F_Big) (N := 2) hx hb hts w_Big hown hK hP 0 rfl rfl 1 (by decide) (hts _ kF_Big_13) (fun _ h9 => h9) rfl d_Big_timesPlus_60 ?_
          refine lv_aload_n hx hb d_Big_timesPlus_63 rfl (lv_at hl 0 rfl) ?_
          refine va_get (D := D) (ci := 0) (v := .ref a) (C := R_Big) (T := F_Big) (N := 2) hx hb hts w_Big hown hK hP 0 rfl rfl 0 (by decide) (hts _ kF_Big_9) (fun _ h9 => h9) rfl d_Big_timesPlus_64 ?_
          refine va_alen hx hb hK hP 1 0 rfl rfl (v := 96) rfl d_Big_timesPlus_67 ?_
          refine lv_icmp_ge (tgt := 92) hx hb d_Big_timesPlus_68 (by decide) (fun c68 => ?_) (fun c68 => ?_)
          · exact absurd ((nI_leI (a := 96) (b := n) (by decide) (by omega)).mp c68) (by omega)
          · refine lv_aload_n hx hb d_Big_timesPlus_71 rfl (lv_at hl 0 rfl) ?_
            refine va_get (D := D) (ci := 0) (v := .ref a) (C := R_Big) (T := F_Big) (N := 2) hx hb hts w_Big hown hK hP 0 rfl rfl 0 (by decide) (hts _ kF_Big_9) (fun _ h9 => h9) rfl d_Big_timesPlus_72 ?_
            refine lv_aload_n hx hb d_Big_timesPlus_75 rfl (lv_at hl 0 rfl) ?_
            refine va_get (D := D) (ci := 0) (v := .int (nI n)) (C := R_Big) (T := F_Big) (N := 2) hx hb hts w_Big hown hK hP 0 rfl rfl 1 (by decide) (hts _ kF_Big_13) (fun _ h9 => h9) rfl d_Big_timesPlus_76 ?_
            refine lv_lload_n hx hb d_Big_timesPlus_79 rfl (lv_at hl 2 rfl) ?_
            refine lv_l2i (v := (lN cy).toInt32) hx hb d_Big_timesPlus_80 (rfl) ?_
            refine tv_i (nI cy) (lN_i _) ?_
            refine va_iast hx hb hK hP hD hS 1 0 rfl rfl (i := nI n) (vp_in_nI (show n < 96 by omega) (by decide)) d_Big_timesPlus_81 (fun H locs hP hD hS => ?_)
            have hP : va_P D vcl [(h, .inr (0, [.ref a, .int (nI n)])), (a, .inl (cA, 96, .inl (upd g (nI n).toNatClampNeg (nI cy))))] H := hP
            have hD : va_D A [(h, .inr (0, [.ref a, .int (nI n)])), (a, .inl (cA, 96, .inl (upd g (nI n).toNatClampNeg (nI cy))))] := hD
            rw [show upd g (nI n).toNatClampNeg (nI cy) = upd g n (nI cy) from by rw [nI_clamp (by omega)]] at hP hD
            refine lv_aload_n hx hb d_Big_timesPlus_82 rfl (lv_at hl 0 rfl) ?_
            refine lv_dup hx hb d_Big_timesPlus_83 rfl ?_
            refine va_get (D := D) (ci := 0) (v := .int (nI n)) (C := R_Big) (T := F_Big) (N := 2) hx hb hts w_Big hown hK hP 0 rfl rfl 1 (by decide) (hts _ kF_Big_13) (fun _ h9 => h9) rfl d_Big_timesPlus_84 ?_
            refine lv_iconst (v := 1) hx hb d_Big_timesPlus_87 (by decide) ?_
            refine lv_iadd hx hb d_Big_timesPlus_88 ?_
            refine tv_i (nI (n + 1)) (nI_1 n) ?_
            refine va_put (D := D) (ci := 0) (v := .int (nI (n + 1))) (ty := .int) (C := R_Big) (T := F_Big) (N := 2) hx hb hts w_Big t_Big tk_Big n_Big hown hK hP hD hS 0 rfl rfl 1 (by decide) (hts _ kF_Big_13) (fun _ h9 => h9) rfl (by decide +kernel) (rfl) (rfl) (Nat.le_of_ble_eq_true rfl) d_Big_timesPlus_89 (fun H locs hP hD hS => ?_)
            have hP : va_P D vcl [(h, .inr (0, [.ref a, .int (nI (n + 1))])), (a, .inl (cA, 96, .inl (upd g n (nI cy))))] H := hP
            have hD : va_D A [(h, .inr (0, [.ref a, .int (nI (n + 1))])), (a, .inl (cA, 96, .inl (upd g n (nI cy))))] := hD
            exact rt_v hx hb hrt hlocks ((upd g n (nI cy), n + 1)) (hB2) (hP.sub [0, 1] rfl) (hK.sub [0] rfl) (hD.sub [0, 1] (by decide) rfl) hS d_Big_timesPlus_92
      · have e12 : i < n := Nat.lt_of_not_le (fun z => c12 ((nI_leI (by omega) (by omega)).mpr z))
        have hcy := tp_cy (w32_lt (g i)) hk1 hc
        refine lv_lload_n hx hb d_Big_timesPlus_15 rfl (lv_at hl 2 rfl) ?_
        refine lv_aload_n hx hb d_Big_timesPlus_16 rfl (lv_at hl 0 rfl) ?_
        refine va_get (D := D) (ci := 0) (v := .ref a) (C := R_Big) (T := F_Big) (N := 2) hx hb hts w_Big hown hK hP 0 rfl rfl 0 (by decide) (hts _ kF_Big_9) (fun _ h9 => h9) rfl d_Big_timesPlus_17 ?_
        refine lv_iload hx hb d_Big_timesPlus_20 (lv_at hl 3 rfl) ?_
        refine va_iald hx hb hK hP 1 0 rfl rfl (i := nI i) (vp_in_nI (show i < 96 by omega) (by decide)) d_Big_timesPlus_22 ?_
        refine tv_i (g i) (by rw [nI_clamp (by omega)]) ?_
        refine lv_i2l (v := (g i).toInt64) hx hb d_Big_timesPlus_23 (rfl) ?_
        refine lv_ldc2 hx hb hown (hts _ kK_Big_20) d_Big_timesPlus_24 ?_
        refine lv_land hx hb d_Big_timesPlus_27 ?_
        refine tv_l (lN (w32 (g i))) (lim _) ?_
        refine lv_iload_n hx hb d_Big_timesPlus_28 rfl (lv_at hl 1 rfl) ?_
        refine lv_i2l (v := (nI k).toInt64) hx hb d_Big_timesPlus_29 (rfl) ?_
        refine tv_l (lN k) (nI_l hk1) ?_
        refine lv_lmul hx hb d_Big_timesPlus_30 ?_
        refine lv_ladd hx hb d_Big_timesPlus_31 ?_
        refine tv_l (lN (w32 (g i) * k + cy)) (by rw [lN_mul, lN_add, Nat.add_comm]) ?_
        refine lv_lstore_n (lv' := [(3, .long (lN (w32 (g i) * k + cy))), (0, .ref h), (1, .int (nI k)), (5, .int (nI i))]) hx hb d_Big_timesPlus_32 rfl hl (by decide) rfl (fun ls hl => ?_)
        refine lv_aload_n hx hb d_Big_timesPlus_33 rfl (lv_at hl 1 rfl) ?_
        refine va_get (D := D) (ci := 0) (v := .ref a) (C := R_Big) (T := F_Big) (N := 2) hx hb hts w_Big hown hK hP 0 rfl rfl 0 (by decide) (hts _ kF_Big_9) (fun _ h9 => h9) rfl d_Big_timesPlus_34 ?_
        refine lv_iload hx hb d_Big_timesPlus_37 (lv_at hl 3 rfl) ?_
        refine lv_lload_n hx hb d_Big_timesPlus_39 rfl (lv_at hl 0 rfl) ?_
        refine lv_l2i (v := (lN (w32 (g i) * k + cy)).toInt32) hx hb d_Big_timesPlus_40 (rfl) ?_
        refine tv_i (nI (w32 (g i) * k + cy)) (lN_i _) ?_
        refine va_iast hx hb hK hP hD hS 1 0 rfl rfl (i := nI i) (vp_in_nI (show i < 96 by omega) (by decide)) d_Big_timesPlus_41 (fun H locs hP hD hS => ?_)
        have hP : va_P D vcl [(h, .inr (0, [.ref a, .int (nI n)])), (a, .inl (cA, 96, .inl (upd g (nI i).toNatClampNeg (nI (w32 (g i) * k + cy)))))] H := hP
        have hD : va_D A [(h, .inr (0, [.ref a, .int (nI n)])), (a, .inl (cA, 96, .inl (upd g (nI i).toNatClampNeg (nI (w32 (g i) * k + cy)))))] := hD
        rw [show upd g (nI i).toNatClampNeg (nI (w32 (g i) * k + cy)) = upd g i (nI ((w32 (g i) * k + cy) % 4294967296)) from by rw [nI_clamp (by omega), nI_mod]] at hP hD
        refine lv_lload_n hx hb d_Big_timesPlus_42 rfl (lv_at hl 0 rfl) ?_
        refine lv_bipush (v := 32) hx hb d_Big_timesPlus_43 (by decide) ?_
        refine lv_lushr (v := lN ((w32 (g i) * k + cy) / 4294967296)) hx hb d_Big_timesPlus_45 (wb_shr (k := 32) (by omega) (by decide)) ?_
        refine lv_lstore_n (lv' := [(3, .long (lN ((w32 (g i) * k + cy) / 4294967296))), (0, .ref h), (1, .int (nI k)), (5, .int (nI i))]) hx hb d_Big_timesPlus_46 rfl hl (by decide) rfl (fun ls hl => ?_)
        refine lv_iinc (v := nI (i + 1)) (lv' := [(5, .int (nI (i + 1))), (3, .long (lN ((w32 (g i) * k + cy) / 4294967296))), (0, .ref h), (1, .int (nI k))]) hx hb d_Big_timesPlus_47 hl (k := 3) rfl (nI_1 i) (by decide) rfl (fun ls hl => ?_)
        refine lv_goto (tgt := 6) hx hb d_Big_timesPlus_50 (by decide) ?_
        exact ih (i + 1) ((w32 (g i) * k + cy) / 4294967296) (upd g i (nI ((w32 (g i) * k + cy) % 4294967296))) (by omega) (by omega) (hcy.1) (fun j hj => by rw [pk_un (by omega)]; exact hg j (by omega)) (tp_step hg hv) _ _ _ (hP.sub [0, 1] rfl) (hD.sub [0, 1] (by decide) rfl) hS (lv_sub hl [2, 3, 1, 0] rfl)
  exact L6 (n + 1) 0 mo f (by omega) (Nat.zero_le n) (hm) (fun _ _ => rfl) (by show 0 + mo * 1 = 0 * k + mo; omega) _ _ _ (hP.sub [0, 1] rfl) (hD.sub [0, 1] (by decide) rfl) hS (lv_sub hl [2, 3, 1, 0] rfl)

set_option maxHeartbeats 4000000 in
set_option maxRecDepth 100000 in
theorem c_Big_subtract (l : Launch) (D : va_G) (E : evD) (h a h2 a2 : Nat) (cA cB : ClassId) (f o : Nat → Int32) (n n2 V U : Nat) (hB : isB f n V) (hO : isB o n2 U) (hUV : U ≤ V) : Cv (S := (Nat → Int32) × Nat) l y_Big_subtract (wz y_Big_subtract b_Big_subtract 9 none) ({ frames := 1, cells := 0, slots := 0, locals := 20 }) D vcl (ev1 E) [.ref h, .ref h2] [(cA, .int), (cB, .int)] [(h, .inr (0, [.ref a, .int (nI n)])), (a, .inl (cA, 96, .inl f)), (h2, .inr (0, [.ref a2, .int (nI n2)])), (a2, .inl (cB, 96, .inl o))] 0 0 (fun u : (Nat → Int32) × Nat => isB u.1 u.2 (V - U)) (fun _ => [(cA, .int), (cB, .int)]) (fun u : (Nat → Int32) × Nat => [(h, .inr (0, [.ref a, .int (nI u.2)])), (a, .inl (cA, 96, .inl u.1)), (h2, .inr (0, [.ref a2, .int (nI n2)])), (a2, .inl (cB, 96, .inl o))]) := by
  have hev := ev1_ok E
  unfold Cv
  refine ct_of (y := y_Big_subtract) (av := [.ref h, .ref h2]) (cc := b_Big_subtract) (maxL := 9) (ret := none) (Qc := fun A => va_Qv (S := (Nat → Int32) × Nat) (fun u : (Nat → Int32) × Nat => isB u.1 u.2 (V - U)) (fun u t => ctB D vcl ((fun _ => [(cA, .int), (cB, .int)]) u) ((fun u : (Nat → Int32) × Nat => [(h, .inr (0, [.ref a, .int (nI u.2)])), (a, .inl (cA, 96, .inl u.1)), (h2, .inr (0, [.ref a2, .int (nI n2)])), (a2, .inl (cB, 96, .inl o))]) u) A t) A) (by decide) rfl (Nat.le_of_ble_eq_true rfl) ?_
  intro p e s m below meth cde ls A H locs hx hb hml hrt hlocks hown hin hts hA hP hK hD hS hE hl
  have hown : s.vm.findClass R_Big = some m.cls := hown
  have hts := wz_g hts
  have hl : lv_has ls 9 [(0, .ref h), (1, .ref h2)] := hl
  have hn96 := hB.2.1
  have hn96b := hO.2.1
  refine lv_lconst (v := 0) hx hb d_Big_subtract_0 (by decide) ?_
  refine tv_l (lN 0) (rfl) ?_
  refine lv_lstore_n (lv' := [(2, .long (lN 0)), (0, .ref h), (1, .ref h2)]) hx hb d_Big_subtract_1 rfl hl (by decide) rfl (fun ls hl => ?_)
  refine lv_iconst (v := 0) hx hb d_Big_subtract_2 (by decide) ?_
  refine lv_istore (lv' := [(4, .int 0), (2, .long (lN 0)), (0, .ref h), (1, .ref h2)]) hx hb d_Big_subtract_3 hl (by decide) rfl (fun ls hl => ?_)
  have L5 : ∀ (kk : Nat) (i : Nat) (b : Nat) (g : Nat → Int32), n - i < kk → (i ≤ n) → (b ≤ 1) → (∀ j, i ≤ j → g j = f j) → (bv g i + bv (ext0 o n2) i = bv f i + b * pw i) → ∀ (H : Heap) (locs : List Loc) (ls : Array Slot), va_P D vcl [(h, .inr (0, [.ref a, .int (nI n)])), (a, .inl (cA, 96, .inl g)), (h2, .inr (0, [.ref a2, .int (nI n2)])), (a2, .inl (cB, 96, .inl o))] H → va_D A [(h, .inr (0, [.ref a, .int (nI n)])), (a, .inl (cA, 96, .inl g)), (h2, .inr (0, [.ref a2, .int (nI n2)])), (a2, .inl (cB, 96, .inl o))] → va_S A s.heap H locs → lv_has ls 9 [(0, .ref h), (1, .ref h2), (2, .long (lN b)), (4, .int (nI i))] → W p l e ({ frames := 1, cells := 0, slots := 0, locals := 20 }) s m ([.ref h, .ref h2] : List Value).toArray below meth cde H locs 0 0 (MQ below (va_Qv (S := (Nat → Int32) × Nat) (fun u : (Nat → Int32) × Nat => isB u.1 u.2 (V - U)) (fun u t => ctB D vcl ((fun _ => [(cA, .int), (cB, .int)]) u) ((fun u : (Nat → Int32) × Nat => [(h, .inr (0, [.ref a, .int (nI u.2)])), (a, .inl (cA, 96, .inl u.1)), (h2, .inr (0, [.ref a2, .int (nI n2)])), (a2, .inl (cB, 96, .inl o))]) u) A t) A) ([.ref h, .ref h2] : List Value).toArray s 0 0 A) (F0 m 5 ls []) := by
    intro kk
    induction kk with
    | zero => intro i b g hmz; exact absurd hmz (Nat.not_lt_zero _)
    | succ kk ih =>
      intro i b g hmz hi hc hg hv H locs ls hP hD hS hl
      refine lv_iload hx hb d_Big_subtract_5 (lv_at hl 3 rfl) ?_
      refine lv_aload_n hx hb d_Big_subtract_7 rfl (lv_at hl 0 rfl) ?_
      refine va_get (D := D) (ci := 0) (v := .int (nI n)) (C := R_Big) (T := F_Big) (N := 2) hx hb hts w_Big hown hK hP 0 rfl rfl 1 (by decide) (hts _ kF_Big_13) (fun _ h9 => h9) rfl d_Big_subtract_8 ?_
      refine lv_icmp_ge (tgt := 82) hx hb d_Big_subtract_11 (by decide) (fun c11 => ?_) (fun c11 => ?_)
      · have e11 : i = n := by have := (nI_leI (by omega) (by omega)).mp c11; omega
        rw [e11] at hv hg
        refine lv_aload_n hx hb d_Big_subtract_82 rfl (lv_at hl 0 rfl) ?_
        refine ca_v [(h2, .inr (0, [.ref a2, .int (nI n2)])), (a2, .inl (cB, 96, .inl o))] (va_runV (As := []) (rest := []) ⟨hx, hb, hml, hown, hts⟩ (c_Big_dropZeros l D E h a cA g n (by omega) H.size) (xV 0 hts kC_Big_dropZeros kM_Big_17 kI_Big_dropZeros kS_Big_dropZeros kN_Big rfl rfl (by decide +kernel) ⟨Nat.le_of_ble_eq_true rfl, Nat.le_of_ble_eq_true rfl⟩) ⟨ct_blind hev, va_recv hK hP (ci := 0) (q0 := 0) rfl rfl, ct_pre hev hP hK hD hS hA hE [0, 1] rfl (by decide) [0] rfl⟩ rfl rfl hl.1 rfl (lv_room (Nat.le_of_ble_eq_true rfl)) d_Big_subtract_83 ⟨Nat.le_of_ble_eq_true rfl, Nat.le_of_ble_eq_true rfl⟩) hP hD hS hA [0, 1] [2, 3] rfl rfl (by decide) (by decide) (fun u H locs hw hP hD hS hK1 => ?_)
        obtain ⟨k1, rfl⟩ : ∃ z, z = u := ⟨_, rfl⟩
        have hP : va_P D vcl [(h2, .inr (0, [.ref a2, .int (nI n2)])), (a2, .inl (cB, 96, .inl o)), (h, .inr (0, [.ref a, .int (nI k1)])), (a, .inl (cA, 96, .inl g))] H := hP
        have hD : va_D A [(h2, .inr (0, [.ref a2, .int (nI n2)])), (a2, .inl (cB, 96, .inl o)), (h, .inr (0, [.ref a, .int (nI k1)])), (a, .inl (cA, 96, .inl g))] := hD
        exact rt_v hx hb hrt hlocks ((g, k1)) (by
          obtain ⟨w1, w2, w3⟩ := hw
          have hle := isB_le hO hB hUV
          have he := bv_ext0 (o := o) n hle
          rw [he] at hv
          have hlt := bv_lt g n
          have := hO.1
          have := hB.1
          refine ⟨?_, by omega, w3⟩
          rw [w1]
          rcases (show b = 0 ∨ b = 1 by omega) with z | z <;> rw [z] at hv <;> omega) (hP.sub [2, 3, 0, 1] rfl) (hK.sub [0, 1] rfl) (hD.sub [2, 3, 0, 1] (by decide) rfl) hS d_Big_subtract_86
      · have e11 : i < n := Nat.lt_of_not_le (fun z => c11 ((nI_leI (by omega) (by omega)).mpr z))
        obtain ⟨x, bb, hx32, hbb, hsum, hl2, hs63⟩ := sub_bits (w32_lt (g i)) (w32_lt (ext0 o n2 i)) hc
        refine lv_iload hx hb d_Big_subtract_14 (lv_at hl 3 rfl) ?_
        refine lv_aload_n hx hb d_Big_subtract_16 rfl (lv_at hl 1 rfl) ?_
        refine va_get (D := D) (ci := 0) (v := .int (nI n2)) (C := R_Big) (T := F_Big) (N := 2) hx hb hts w_Big hown hK hP 2 rfl rfl 1 (by decide) (hts _ kF_Big_13) (fun _ h9 => h9) rfl d_Big_subtract_17 ?_
        refine lv_icmp_ge (tgt := 38) hx hb d_Big_subtract_20 (by decide) (fun c20 => ?_) (fun c20 => ?_)
        · have e20 : n2 ≤ i := (nI_leI (by omega) (by omega)).mp c20
          refine lv_lconst (v := 0) hx hb d_Big_subtract_38 (by decide) ?_
          refine tv_l (lN (w32 (ext0 o n2 i))) (by rw [ext0_out e20]; rfl) ?_
          refine lv_lstore (lv' := [(5, .long (lN (w32 (ext0 o n2 i)))), (0, .ref h), (1, .ref h2), (2, .long (lN b)), (4, .int (nI i))]) hx hb d_Big_subtract_39 hl (by decide) rfl (fun ls hl => ?_)
          refine lv_aload_n hx hb d_Big_subtract_41 rfl (lv_at hl 1 rfl) ?_
          refine va_get (D := D) (ci := 0) (v := .ref a) (C := R_Big) (T := F_Big) (N := 2) hx hb hts w_Big hown hK hP 0 rfl rfl 0 (by decide) (hts _ kF_Big_9) (fun _ h9 => h9) rfl d_Big_subtract_42 ?_
          refine lv_iload hx hb d_Big_subtract_45 (lv_at hl 4 rfl) ?_
          refine va_iald hx hb hK hP 1 0 rfl rfl (i := nI i) (vp_in_nI (show i < 96 by omega) (by decide)) d_Big_subtract_47 ?_
          refine tv_i (g i) (by rw [nI_clamp (by omega)]) ?_
          refine lv_i2l (v := (g i).toInt64) hx hb d_Big_subtract_48 (rfl) ?_
          refine lv_ldc2 hx hb hown (hts _ kK_Big_20) d_Big_subtract_49 ?_
          refine lv_land hx hb d_Big_subtract_52 ?_
          refine tv_l (lN (w32 (g i))) (lim _) ?_
          refine lv_lload hx hb d_Big_subtract_53 (lv_at hl 0 rfl) ?_
          refine lv_lsub hx hb d_Big_subtract_55 ?_
          refine lv_lload_n hx hb d_Big_subtract_56 rfl (lv_at hl 3 rfl) ?_
          refine lv_lsub hx hb d_Big_subtract_57 ?_
          refine lv_lstore (lv' := [(7, .long (((lN (w32 (g i))) - (lN (w32 (ext0 o n2 i)))) - (lN b))), (5, .long (lN (w32 (ext0 o n2 i)))), (0, .ref h), (1, .ref h2), (2, .long (lN b)), (4, .int (nI i))]) hx hb d_Big_subtract_58 hl (by decide) rfl (fun ls hl => ?_)
          refine lv_aload_n hx hb d_Big_subtract_60 rfl (lv_at hl 2 rfl) ?_
          refine va_get (D := D) (ci := 0) (v := .ref a) (C := R_Big) (T := F_Big) (N := 2) hx hb hts w_Big hown hK hP 0 rfl rfl 0 (by decide) (hts _ kF_Big_9) (fun _ h9 => h9) rfl d_Big_subtract_61 ?_
          refine lv_iload hx hb d_Big_subtract_64 (lv_at hl 5 rfl) ?_
          refine lv_lload hx hb d_Big_subtract_66 (lv_at hl 0 rfl) ?_
          refine lv_l2i (v := (((lN (w32 (g i))) - (lN (w32 (ext0 o n2 i)))) - (lN b)).toInt32) hx hb d_Big_subtract_68 (rfl) ?_
          refine tv_i (nI x) (hl2) ?_
          refine va_iast hx hb hK hP hD hS 1 0 rfl rfl (i := nI i) (vp_in_nI (show i < 96 by omega) (by decide)) d_Big_subtract_69 (fun H locs hP hD hS => ?_)
          have hP : va_P D vcl [(h, .inr (0, [.ref a, .int (nI n)])), (a, .inl (cA, 96, .inl (upd g (nI i).toNatClampNeg (nI x)))), (h2, .inr (0, [.ref a2, .int (nI n2)])), (a2, .inl (cB, 96, .inl o))] H := hP
          have hD : va_D A [(h, .inr (0, [.ref a, .int (nI n)])), (a, .inl (cA, 96, .inl (upd g (nI i).toNatClampNeg (nI x)))), (h2, .inr (0, [.ref a2, .int (nI n2)])), (a2, .inl (cB, 96, .inl o))] := hD
          rw [show upd g (nI i).toNatClampNeg (nI x) = upd g i (nI x) from by rw [nI_clamp (by omega)]] at hP hD
          refine lv_lload hx hb d_Big_subtract_70 (lv_at hl 0 rfl) ?_
          refine lv_bipush (v := 63) hx hb d_Big_subtract_72 (by decide) ?_
          refine lv_lushr (v := lN bb) hx hb d_Big_subtract_74 (hs63) ?_
          refine lv_lstore_n (lv' := [(2, .long (lN bb)), (7, .long (((lN (w32 (g i))) - (lN (w32 (ext0 o n2 i)))) - (lN b))), (5, .long (lN (w32 (ext0 o n2 i)))), (0, .ref h), (1, .ref h2), (4, .int (nI i))]) hx hb d_Big_subtract_75 rfl hl (by decide) rfl (fun ls hl => ?_)
          refine lv_iinc (v := nI (i + 1)) (lv' := [(4, .int (nI (i + 1))), (2, .long (lN bb)), (7, .long (((lN (w32 (g i))) - (lN (w32 (ext0 o n2 i)))) - (lN b))), (5, .long (lN (w32 (ext0 o n2 i)))), (0, .ref h), (1, .ref h2)]) hx hb d_Big_subtract_76 hl (k := 5) rfl (nI_1 i) (by decide) rfl (fun ls hl => ?_)
          refine lv_goto (tgt := 5) hx hb d_Big_subtract_79 (by decide) ?_
          exact ih (i + 1) bb (upd g i (nI x)) (by omega) (by omega) (hbb) (fun j hj => by rw [pk_un (by omega)]; exact hg j (by omega)) (sb_step (w32 (ext0 o n2 i)) hg hx32 hv rfl hsum) _ _ _ (hP.sub [0, 1, 2, 3] rfl) (hD.sub [0, 1, 2, 3] (by decide) rfl) hS (lv_sub hl [4, 5, 1, 0] rfl)
        · have e20 : i < n2 := Nat.lt_of_not_le (fun z => c20 ((nI_leI (by omega) (by omega)).mpr z))
          refine lv_aload_n hx hb d_Big_subtract_23 rfl (lv_at hl 1 rfl) ?_
          refine va_get (D := D) (ci := 0) (v := .ref a2) (C := R_Big) (T := F_Big) (N := 2) hx hb hts w_Big hown hK hP 2 rfl rfl 0 (by decide) (hts _ kF_Big_9) (fun _ h9 => h9) rfl d_Big_subtract_24 ?_
          refine lv_iload hx hb d_Big_subtract_27 (lv_at hl 3 rfl) ?_
          refine va_iald hx hb hK hP 3 1 rfl rfl (i := nI i) (vp_in_nI (show i < 96 by omega) (by decide)) d_Big_subtract_29 ?_
          refine tv_i (o i) (by rw [nI_clamp (by omega)]) ?_
          refine lv_i2l (v := (o i).toInt64) hx hb d_Big_subtract_30 (rfl) ?_
          refine lv_ldc2 hx hb hown (hts _ kK_Big_20) d_Big_subtract_31 ?_
          refine lv_land hx hb d_Big_subtract_34 ?_
          refine tv_l (lN (w32 (ext0 o n2 i))) (by rw [ext0_in e20]; exact lim _) ?_
          refine lv_goto (tgt := 39) hx hb d_Big_subtract_35 (by decide) ?_
          refine lv_lstore (lv' := [(5, .long (lN (w32 (ext0 o n2 i)))), (0, .ref h), (1, .ref h2), (2, .long (lN b)), (4, .int (nI i))]) hx hb d_Big_subtract_39 hl (by decide) rfl (fun ls hl => ?_)
          refine lv_aload_n hx hb d_Big_subtract_41 rfl (lv_at hl 1 rfl) ?_
          refine va_get (D := D) (ci := 0) (v := .ref a) (C := R_Big) (T := F_Big) (N := 2) hx hb hts w_Big hown hK hP 0 rfl rfl 0 (by decide) (hts _ kF_Big_9) (fun _ h9 => h9) rfl d_Big_subtract_42 ?_
          refine lv_iload hx hb d_Big_subtract_45 (lv_at hl 4 rfl) ?_
          refine va_iald hx hb hK hP 1 0 rfl rfl (i := nI i) (vp_in_nI (show i < 96 by omega) (by decide)) d_Big_subtract_47 ?_
          refine tv_i (g i) (by rw [nI_clamp (by omega)]) ?_
          refine lv_i2l (v := (g i).toInt64) hx hb d_Big_subtract_48 (rfl) ?_
          refine lv_ldc2 hx hb hown (hts _ kK_Big_20) d_Big_subtract_49 ?_
          refine lv_land hx hb d_Big_subtract_52 ?_
          refine tv_l (lN (w32 (g i))) (lim _) ?_
          refine lv_lload hx hb d_Big_subtract_53 (lv_at hl 0 rfl) ?_
          refine lv_lsub hx hb d_Big_subtract_55 ?_
          refine lv_lload_n hx hb d_Big_subtract_56 rfl (lv_at hl 3 rfl) ?_
          refine lv_lsub hx hb d_Big_subtract_57 ?_
          refine lv_lstore (lv' := [(7, .long (((lN (w32 (g i))) - (lN (w32 (ext0 o n2 i)))) - (lN b))), (5, .long (lN (w32 (ext0 o n2 i)))), (0, .ref h), (1, .ref h2), (2, .long (lN b)), (4, .int (nI i))]) hx hb d_Big_subtract_58 hl (by decide) rfl (fun ls hl => ?_)
          refine lv_aload_n hx hb d_Big_subtract_60 rfl (lv_at hl 2 rfl) ?_
          refine va_get (D := D) (ci := 0) (v := .ref a) (C := R_Big) (T := F_Big) (N := 2) hx hb hts w_Big hown hK hP 0 rfl rfl 0 (by decide) (hts _ kF_Big_9) (fun _ h9 => h9) rfl d_Big_subtract_61 ?_
          refine lv_iload hx hb d_Big_subtract_64 (lv_at hl 5 rfl) ?_
          refine lv_lload hx hb d_Big_subtract_66 (lv_at hl 0 rfl) ?_
          refine lv_l2i (v := (((lN (w32 (g i))) - (lN (w32 (ext0 o n2 i)))) - (lN b)).toInt32) hx hb d_Big_subtract_68 (rfl) ?_
          refine tv_i (nI x) (hl2) ?_
          refine va_iast hx hb hK hP hD hS 1 0 rfl rfl (i := nI i) (vp_in_nI (show i < 96 by omega) (by decide)) d_Big_subtract_69 (fun H locs hP hD hS => ?_)
          have hP : va_P D vcl [(h, .inr (0, [.ref a, .int (nI n)])), (a, .inl (cA, 96, .inl (upd g (nI i).toNatClampNeg (nI x)))), (h2, .inr (0, [.ref a2, .int (nI n2)])), (a2, .inl (cB, 96, .inl o))] H := hP
          have hD : va_D A [(h, .inr (0, [.ref a, .int (nI n)])), (a, .inl (cA, 96, .inl (upd g (nI i).toNatClampNeg (nI x)))), (h2, .inr (0, [.ref a2, .int (nI n2)])), (a2, .inl (cB, 96, .inl o))] := hD
          rw [show upd g (nI i).toNatClampNeg (nI x) = upd g i (nI x) from by rw [nI_clamp (by omega)]] at hP hD
          refine lv_lload hx hb d_Big_subtract_70 (lv_at hl 0 rfl) ?_
          refine lv_bipush (v := 63) hx hb d_Big_subtract_72 (by decide) ?_
          refine lv_lushr (v := lN bb) hx hb d_Big_subtract_74 (hs63) ?_
          refine lv_lstore_n (lv' := [(2, .long (lN bb)), (7, .long (((lN (w32 (g i))) - (lN (w32 (ext0 o n2 i)))) - (lN b))), (5, .long (lN (w32 (ext0 o n2 i)))), (0, .ref h), (1, .ref h2), (4, .int (nI i))]) hx hb d_Big_subtract_75 rfl hl (by decide) rfl (fun ls hl => ?_)
          refine lv_iinc (v := nI (i + 1)) (lv' := [(4, .int (nI (i + 1))), (2, .long (lN bb)), (7, .long (((lN (w32 (g i))) - (lN (w32 (ext0 o n2 i)))) - (lN b))), (5, .long (lN (w32 (ext0 o n2 i)))), (0, .ref h), (1, .ref h2)]) hx hb d_Big_subtract_76 hl (k := 5) rfl (nI_1 i) (by decide) rfl (fun ls hl => ?_)
          refine lv_goto (tgt := 5) hx hb d_Big_subtract_79 (by decide) ?_
          exact ih (i + 1) bb (upd g i (nI x)) (by omega) (by omega) (hbb) (fun j hj => by rw [pk_un (by omega)]; exact hg j (by omega)) (sb_step (w32 (ext0 o n2 i)) hg hx32 hv rfl hsum) _ _ _ (hP.sub [0, 1, 2, 3] rfl) (hD.sub [0, 1, 2, 3] (by decide) rfl) hS (lv_sub hl [4, 5, 1, 0] rfl)
  exact L5 (n + 1) 0 0 f (by omega) (Nat.zero_le n) (Nat.zero_le 1) (fun _ _ => rfl) (by rw [bv_0, bv_0]; omega) _ _ _ (hP.sub [0, 1, 2, 3] rfl) (hD.sub [0, 1, 2, 3] (by decide) rfl) hS (lv_sub hl [2, 3, 1, 0] rfl)

set_option maxHeartbeats 4000000 in
set_option maxRecDepth 100000 in
theorem c_Big_isAtLeast (l : Launch) (D : va_G) (E : evD) (h a h2 a2 : Nat) (cA cB : ClassId) (f o : Nat → Int32) (n n2 V U : Nat) (hB : isB f n V) (hO : isB o n2 U) : Ci (S := Unit) l y_Big_isAtLeast (wz y_Big_isAtLeast b_Big_isAtLeast 3 (some .boolean)) ({ frames := 0, cells := 0, slots := 0, locals := 0 }) D vcl (ev1 E) [.ref h, .ref h2] [(cA, .int), (cB, .int)] [(h, .inr (0, [.ref a, .int (nI n)])), (a, .inl (cA, 96, .inl f)), (h2, .inr (0, [.ref a2, .int (nI n2)])), (a2, .inl (cB, 96, .inl o))] 0 0 (fun (r : Int32) (_ : Unit) => (r = 1 ∨ r = 0) ∧ (r = 1 ↔ U ≤ V)) (fun _ => [(cA, .int), (cB, .int)]) (fun _ : Unit => [(h, .inr (0, [.ref a, .int (nI n)])), (a, .inl (cA, 96, .inl f)), (h2, .inr (0, [.ref a2, .int (nI n2)])), (a2, .inl (cB, 96, .inl o))]) := by
  have hev := ev1_ok E
  unfold Ci
  refine ct_of (y := y_Big_isAtLeast) (av := [.ref h, .ref h2]) (cc := b_Big_isAtLeast) (maxL := 3) (ret := (some .boolean)) (Qc := fun A => va_Qi (S := Unit) (fun (r : Int32) (_ : Unit) => (r = 1 ∨ r = 0) ∧ (r = 1 ↔ U ≤ V)) (fun u t => ctB D vcl ((fun _ => [(cA, .int), (cB, .int)]) u) ((fun _ : Unit => [(h, .inr (0, [.ref a, .int (nI n)])), (a, .inl (cA, 96, .inl f)), (h2, .inr (0, [.ref a2, .int (nI n2)])), (a2, .inl (cB, 96, .inl o))]) u) A t) A) (by decide) rfl (Nat.le_of_ble_eq_true rfl) ?_
  intro p e s m below meth cde ls A H locs hx hb hml hrt hlocks hown hin hts hA hP hK hD hS hE hl
  have hown : s.vm.findClass R_Big = some m.cls := hown
  have hts := wz_g hts
  have hl : lv_has ls 3 [(0, .ref h), (1, .ref h2)] := hl
  have hn96 := hB.2.1
  have hn96b := hO.2.1
  refine lv_aload_n hx hb d_Big_isAtLeast_0 rfl (lv_at hl 0 rfl) ?_
  refine va_get (D := D) (ci := 0) (v := .int (nI n)) (C := R_Big) (T := F_Big) (N := 2) hx hb hts w_Big hown hK hP 0 rfl rfl 1 (by decide) (hts _ kF_Big_13) (fun _ h9 => h9) rfl d_Big_isAtLeast_1 ?_
  refine lv_aload_n hx hb d_Big_isAtLeast_4 rfl (lv_at hl 1 rfl) ?_
  refine va_get (D := D) (ci := 0) (v := .int (nI n2)) (C := R_Big) (T := F_Big) (N := 2) hx hb hts w_Big hown hK hP 2 rfl rfl 1 (by decide) (hts _ kF_Big_13) (fun _ h9 => h9) rfl d_Big_isAtLeast_5 ?_
  refine lv_icmp_eq (tgt := 28) hx hb d_Big_isAtLeast_8 (by decide) (fun c8 => ?_) (fun c8 => ?_)
  · have e8 : n = n2 := (nI_eq (by omega) (by omega)).mp c8
    refine lv_aload_n hx hb d_Big_isAtLeast_28 rfl (lv_at hl 0 rfl) ?_
    refine va_get (D := D) (ci := 0) (v := .int (nI n)) (C := R_Big) (T := F_Big) (N := 2) hx hb hts w_Big hown hK hP 0 rfl rfl 1 (by decide) (hts _ kF_Big_13) (fun _ h9 => h9) rfl d_Big_isAtLeast_29 ?_
    refine lv_iconst (v := 1) hx hb d_Big_isAtLeast_32 (by decide) ?_
    refine lv_isub hx hb d_Big_isAtLeast_33 ?_
    refine lv_istore_n (lv' := [(2, .int ((nI n) - 1)), (0, .ref h), (1, .ref h2)]) hx hb d_Big_isAtLeast_34 rfl hl (by decide) rfl (fun ls hl => ?_)
    have L35 : ∀ (kk : Nat) (k : Nat), k < kk → (k ≤ n) → (∀ j, k ≤ j → j < n → f j = o j) → ∀ (H : Heap) (locs : List Loc) (ls : Array Slot), va_P D vcl [(h, .inr (0, [.ref a, .int (nI n)])), (a, .inl (cA, 96, .inl f)), (h2, .inr (0, [.ref a2, .int (nI n2)])), (a2, .inl (cB, 96, .inl o))] H → va_D A [(h, .inr (0, [.ref a, .int (nI n)])), (a, .inl (cA, 96, .inl f)), (h2, .inr (0, [.ref a2, .int (nI n2)])), (a2, .inl (cB, 96, .inl o))] → va_S A s.heap H locs → lv_has ls 3 [(0, .ref h), (1, .ref h2), (2, .int (nI k - 1))] → W p l e ({ frames := 0, cells := 0, slots := 0, locals := 0 }) s m ([.ref h, .ref h2] : List Value).toArray below meth cde H locs 0 0 (MQ below (va_Qi (S := Unit) (fun (r : Int32) (_ : Unit) => (r = 1 ∨ r = 0) ∧ (r = 1 ↔ U ≤ V)) (fun u t => ctB D vcl ((fun _ => [(cA, .int), (cB, .int)]) u) ((fun _ : Unit => [(h, .inr (0, [.ref a, .int (nI n)])), (a, .inl (cA, 96, .inl f)), (h2, .inr (0, [.ref a2, .int (nI n2)])), (a2, .inl (cB, 96, .inl o))]) u) A t) A) ([.ref h, .ref h2] : List Value).toArray s 0 0 A) (F0 m 35 ls []) := by
      intro kk
      induction kk with
      | zero => intro k hmz; exact absurd hmz (Nat.not_lt_zero _)
      | succ kk ih =>
        intro k hmz hk he H locs ls hP hD hS hl
        refine lv_iload_n hx hb d_Big_isAtLeast_35 rfl (lv_at hl 2 rfl) ?_
        refine lv_if_lt (tgt := 92) hx hb d_Big_isAtLeast_36 (by decide) (fun c36 => ?_) (fun c36 => ?_)
        · have e36 : k = 0 := (nI_m1lt (by omega)).mp c36
          refine lv_iconst (v := 1) hx hb d_Big_isAtLeast_92 (by decide) ?_
          exact rt_i hx hb hrt hlocks (rfl) (()) (⟨Or.inl rfl, iff_of_true rfl (by have h9 := bv_congr (f := f) (g := o) (n := n) (fun j hj => he j (by omega) hj); have := hB.1; have h8 := hO.1; rw [← e8] at h8; omega)⟩) (hP.sub [0, 1, 2, 3] rfl) (hK.sub [0, 1] rfl) (hD.sub [0, 1, 2, 3] (by decide) rfl) hS d_Big_isAtLeast_93
        · have e36 : 0 < k := Nat.pos_of_ne_zero (fun z => c36 ((nI_m1lt (by omega)).mpr z))
          refine lv_aload_n hx hb d_Big_isAtLeast_39 rfl (lv_at hl 0 rfl) ?_
          refine va_get (D := D) (ci := 0) (v := .ref a) (C := R_Big) (T := F_Big) (N := 2) hx hb hts w_Big hown hK hP 0 rfl rfl 0 (by decide) (hts _ kF_Big_9) (fun _ h9 => h9) rfl d_Big_isAtLeast_40 ?_
          refine lv_iload_n hx hb d_Big_isAtLeast_43 rfl (lv_at hl 2 rfl) ?_
          refine tv_i (nI (k - 1)) (nI_dec e36) ?_
          refine va_iald hx hb hK hP 1 0 rfl rfl (i := nI (k - 1)) (vp_in_nI (show k - 1 < 96 by omega) (by decide)) d_Big_isAtLeast_44 ?_
          refine tv_i (f (k - 1)) (by rw [nI_clamp (by omega)]) ?_
          refine lv_aload_n hx hb d_Big_isAtLeast_45 rfl (lv_at hl 1 rfl) ?_
          refine va_get (D := D) (ci := 0) (v := .ref a2) (C := R_Big) (T := F_Big) (N := 2) hx hb hts w_Big hown hK hP 2 rfl rfl 0 (by decide) (hts _ kF_Big_9) (fun _ h9 => h9) rfl d_Big_isAtLeast_46 ?_
          refine lv_iload_n hx hb d_Big_isAtLeast_49 rfl (lv_at hl 2 rfl) ?_
          refine tv_i (nI (k - 1)) (nI_dec e36) ?_
          refine va_iald hx hb hK hP 3 1 rfl rfl (i := nI (k - 1)) (vp_in_nI (show k - 1 < 96 by omega) (by decide)) d_Big_isAtLeast_50 ?_
          refine tv_i (o (k - 1)) (by rw [nI_clamp (by omega)]) ?_
          refine lv_icmp_eq (tgt := 86) hx hb d_Big_isAtLeast_51 (by decide) (fun c51 => ?_) (fun c51 => ?_)
          · refine lv_iinc (v := nI (k - 1) - 1) (lv' := [(2, .int (nI (k - 1) - 1)), (0, .ref h), (1, .ref h2)]) hx hb d_Big_isAtLeast_86 hl (k := 2) rfl (nI_dn e36) (by decide) rfl (fun ls hl => ?_)
            refine lv_goto (tgt := 35) hx hb d_Big_isAtLeast_89 (by decide) ?_
            exact ih (k - 1) (by omega) (by omega) (fun j h1 h2 => by rcases Nat.lt_or_ge j k with z | z; (· rw [show j = k - 1 by omega]; exact c51); exact he j z h2) _ _ _ (hP.sub [0, 1, 2, 3] rfl) (hD.sub [0, 1, 2, 3] (by decide) rfl) hS (lv_sub hl [1, 2, 0] rfl)
          · refine lv_aload_n hx hb d_Big_isAtLeast_54 rfl (lv_at hl 0 rfl) ?_
            refine va_get (D := D) (ci := 0) (v := .ref a) (C := R_Big) (T := F_Big) (N := 2) hx hb hts w_Big hown hK hP 0 rfl rfl 0 (by decide) (hts _ kF_Big_9) (fun _ h9 => h9) rfl d_Big_isAtLeast_55 ?_
            refine lv_iload_n hx hb d_Big_isAtLeast_58 rfl (lv_at hl 2 rfl) ?_
            refine tv_i (nI (k - 1)) (nI_dec e36) ?_
            refine va_iald hx hb hK hP 1 0 rfl rfl (i := nI (k - 1)) (vp_in_nI (show k - 1 < 96 by omega) (by decide)) d_Big_isAtLeast_59 ?_
            refine tv_i (f (k - 1)) (by rw [nI_clamp (by omega)]) ?_
            refine lv_i2l (v := (f (k - 1)).toInt64) hx hb d_Big_isAtLeast_60 (rfl) ?_
            refine lv_ldc2 hx hb hown (hts _ kK_Big_20) d_Big_isAtLeast_61 ?_
            refine lv_land hx hb d_Big_isAtLeast_64 ?_
            refine tv_l (lN (w32 (f (k - 1)))) (lim _) ?_
            refine lv_aload_n hx hb d_Big_isAtLeast_65 rfl (lv_at hl 1 rfl) ?_
            refine va_get (D := D) (ci := 0) (v := .ref a2) (C := R_Big) (T := F_Big) (N := 2) hx hb hts w_Big hown hK hP 2 rfl rfl 0 (by decide) (hts _ kF_Big_9) (fun _ h9 => h9) rfl d_Big_isAtLeast_66 ?_
            refine lv_iload_n hx hb d_Big_isAtLeast_69 rfl (lv_at hl 2 rfl) ?_
            refine tv_i (nI (k - 1)) (nI_dec e36) ?_
            refine va_iald hx hb hK hP 3 1 rfl rfl (i := nI (k - 1)) (vp_in_nI (show k - 1 < 96 by omega) (by decide)) d_Big_isAtLeast_70 ?_
            refine tv_i (o (k - 1)) (by rw [nI_clamp (by omega)]) ?_
            refine lv_i2l (v := (o (k - 1)).toInt64) hx hb d_Big_isAtLeast_71 (rfl) ?_
            refine lv_ldc2 hx hb hown (hts _ kK_Big_20) d_Big_isAtLeast_72 ?_
            refine lv_land hx hb d_Big_isAtLeast_75 ?_
            refine tv_l (lN (w32 (o (k - 1)))) (lim _) ?_
            refine W.lcmp hx hb d_Big_isAtLeast_76 ?_
            refine lv_if_le (tgt := 84) hx hb d_Big_isAtLeast_77 (by decide) (fun c77 => ?_) (fun c77 => ?_)
            · have q1 := w32_lt (f (k - 1))
              have q2 := w32_lt (o (k - 1))
              have q3 : w32 (f (k - 1)) ≠ w32 (o (k - 1)) := fun z => c51 (w32_inj z)
              have e77 : w32 (f (k - 1)) ≤ w32 (o (k - 1)) := (pk_lLE (by omega) (by omega)).mp ((lg_cmp_le _ _).mp c77)
              refine lv_iconst (v := 0) hx hb d_Big_isAtLeast_84 (by decide) ?_
              exact rt_i hx hb hrt hlocks (rfl) (()) (⟨Or.inr rfl, iff_of_false (by decide) (by have h9 := cp_at (f := o) (g := f) (n := n) (i := k - 1) (by omega) (fun j h1 h2 => (he j (by omega) h2).symm) (by omega); have := hB.1; have h8 := hO.1; rw [← e8] at h8; omega)⟩) (hP.sub [0, 1, 2, 3] rfl) (hK.sub [0, 1] rfl) (hD.sub [0, 1, 2, 3] (by decide) rfl) hS d_Big_isAtLeast_85
            · have q1 := w32_lt (f (k - 1))
              have q2 := w32_lt (o (k - 1))
              have e77 : ¬ w32 (f (k - 1)) ≤ w32 (o (k - 1)) := fun z => c77 ((lg_cmp_le _ _).mpr ((pk_lLE (by omega) (by omega)).mpr z))
              refine lv_iconst (v := 1) hx hb d_Big_isAtLeast_80 (by decide) ?_
              refine lv_goto (tgt := 85) hx hb d_Big_isAtLeast_81 (by decide) ?_
              exact rt_i hx hb hrt hlocks (rfl) (()) (⟨Or.inl rfl, iff_of_true rfl (by have h9 := cp_at (f := f) (g := o) (n := n) (i := k - 1) (by omega) (fun j h1 h2 => he j (by omega) h2) (by omega); have := hB.1; have h8 := hO.1; rw [← e8] at h8; omega)⟩) (hP.sub [0, 1, 2, 3] rfl) (hK.sub [0, 1] rfl) (hD.sub [0, 1, 2, 3] (by decide) rfl) hS d_Big_isAtLeast_85
    exact L35 (n + 1) n (by omega) (Nat.le_refl n) (fun j h1 h2 => absurd h2 (by omega)) _ _ _ (hP.sub [0, 1, 2, 3] rfl) (hD.sub [0, 1, 2, 3] (by decide) rfl) hS (lv_sub hl [1, 2, 0] rfl)
  · have e8 : n ≠ n2 := fun z => c8 ((nI_eq (by omega) (by omega)).mpr z)
    refine lv_aload_n hx hb d_Big_isAtLeast_11 rfl (lv_at hl 0 rfl) ?_
    refine va_get (D := D) (ci := 0) (v := .int (nI n)) (C := R_Big) (T := F_Big) (N := 2) hx hb hts w_Big hown hK hP 0 rfl rfl 1 (by decide) (hts _ kF_Big_13) (fun _ h9 => h9) rfl d_Big_isAtLeast_12 ?_
    refine lv_aload_n hx hb d_Big_isAtLeast_15 rfl (lv_at hl 1 rfl) ?_
    refine va_get (D := D) (ci := 0) (v := .int (nI n2)) (C := R_Big) (T := F_Big) (N := 2) hx hb hts w_Big hown hK hP 2 rfl rfl 1 (by decide) (hts _ kF_Big_13) (fun _ h9 => h9) rfl d_Big_isAtLeast_16 ?_
    refine lv_icmp_le (tgt := 26) hx hb d_Big_isAtLeast_19 (by decide) (fun c19 => ?_) (fun c19 => ?_)
    · have e19 : n ≤ n2 := (nI_leI (by omega) (by omega)).mp c19
      refine lv_iconst (v := 0) hx hb d_Big_isAtLeast_26 (by decide) ?_
      exact rt_i hx hb hrt hlocks (rfl) (()) (⟨Or.inr rfl, iff_of_false (by decide) (by have := cp_n hO hB (by omega); omega)⟩) (hP.sub [0, 1, 2, 3] rfl) (hK.sub [0, 1] rfl) (hD.sub [0, 1, 2, 3] (by decide) rfl) hS d_Big_isAtLeast_27
    · have e19 : n2 < n := Nat.lt_of_not_le (fun z => c19 ((nI_leI (by omega) (by omega)).mpr z))
      refine lv_iconst (v := 1) hx hb d_Big_isAtLeast_22 (by decide) ?_
      refine lv_goto (tgt := 27) hx hb d_Big_isAtLeast_23 (by decide) ?_
      exact rt_i hx hb hrt hlocks (rfl) (()) (⟨Or.inl rfl, iff_of_true rfl (by have := cp_n hB hO (by omega); omega)⟩) (hP.sub [0, 1, 2, 3] rfl) (hK.sub [0, 1] rfl) (hD.sub [0, 1, 2, 3] (by decide) rfl) hS d_Big_isAtLeast_27
end
section
/-! HALVING STEPS, digits, bytes of a long -/
def stp : Nat → Nat
  | 0 => 0
  | j + 1 => 2 ^ j
theorem stp_p {j : Nat} (h : 0 < j) : stp j = 2 ^ (j - 1) := by
  obtain ⟨i, rfl⟩ : ∃ i, j = i + 1 := ⟨j - 1, by omega⟩
  rw [Nat.add_sub_cancel]; rfl
theorem stp_lt : ∀ j, j < 7 → stp j < 64 := by decide
theorem stp_h : ∀ j, j < 7 → nI (stp j) >>> ((1 : Int32) &&& 31) = nI (stp (j - 1)) := by decide +kernel
theorem stp_0 : ∀ j, j < 7 → (nI (stp j) ≤ 0 ↔ j = 0) := by decide +kernel
theorem stp_d {j : Nat} (h : 0 < j) : stp j + 2 ^ (j - 1) = 2 ^ j := by
  rw [stp_p h]
  have e : 2 ^ j = 2 ^ (j - 1) * 2 := by rw [← Nat.pow_succ]; congr 1; omega
  omega
theorem bl_up {r j : Nat} (hj : 0 < j) (hr : r < 2 ^ (2 ^ j)) : r / 2 ^ stp j < 2 ^ (2 ^ (j - 1)) := by
  rw [Nat.div_lt_iff_lt_mul (Nat.two_pow_pos _), ← Nat.pow_add, Nat.add_comm, stp_d hj]; exact hr
theorem bl_dn {r j : Nat} (hj : 0 < j) (hr : r / 2 ^ stp j = 0) : r < 2 ^ (2 ^ (j - 1)) := by
  rw [← stp_p hj]
  rcases Nat.lt_or_ge r (2 ^ stp j) with h | h
  · exact h
  · have := (Nat.le_div_iff_mul_le (Nat.two_pow_pos (stp j))).mpr (show 1 * 2 ^ stp j ≤ r by omega)
    omega
theorem bl_end {n r c : Nat} (e : r = n / 2 ^ c) (h2 : r < 2) (h0 : n ≠ 0 → r ≠ 0) : (r = 0 → bln n = 0) ∧ (r ≠ 0 → bln n = c + 1) := by
  constructor
  · intro z
    have : n = 0 := by
      by_cases hn : n = 0
      · exact hn
      · exact absurd z (h0 hn)
    rw [this]; rfl
  · intro z
    have hr : n / 2 ^ c = 1 := by omega
    refine bln_eq ?_ ?_
    · have := (Nat.le_div_iff_mul_le (k := 2 ^ c) (x := 1) (y := n) (Nat.two_pow_pos c)).mp (by omega)
      omega
    · have := (Nat.div_lt_iff_lt_mul (x := n) (y := 2) (Nat.two_pow_pos c)).mp (by omega)
      rw [Nat.pow_succ]; omega
/-- the worth of a digit's character; 16 for another -/
def dg (c : Nat) : Nat := if 48 ≤ c ∧ c ≤ 57 then c - 48 else if 97 ≤ c ∧ c ≤ 102 then c - 87 else if 65 ≤ c ∧ c ≤ 70 then c - 55 else 16
/-- byte k of a long -/
def byt (n k : Nat) : Nat := n / 2 ^ (8 * k) % 256
theorem byt_lt (n k : Nat) : byt n k < 256 := Nat.mod_lt _ (by decide)
/-- how many of the highest m bytes are not 0 -/
def cb (n : Nat) : Nat → Nat
  | 0 => 0
  | m + 1 => cb n m + if byt n (7 - m) = 0 then 0 else 1
theorem cb_le (n m : Nat) : cb n m ≤ m := by
  induction m with
  | zero => exact Nat.le_refl 0
  | succ m ih => unfold cb; split <;> omega
theorem byt_l {n k : Nat} (hn : n < 2 ^ 64) : lN (n / 2 ^ (8 * k)) &&& 255 = lN (byt n k) := wb_mask (k := 8) (Nat.lt_of_le_of_lt (Nat.div_le_self _ _) hn) (by decide)
end
section
theorem d_Rea_bitLengthOf_0 : decode b_Rea_bitLengthOf 0 = .ok (.lload_n 0, 1) := by decide +kernel
theorem d_Rea_bitLengthOf_1 : decode b_Rea_bitLengthOf 1 = .ok (.lstore_n 2, 1) := by decide +kernel
theorem d_Rea_bitLengthOf_2 : decode b_Rea_bitLengthOf 2 = .ok (.iconst 0, 1) := by decide +kernel
theorem d_Rea_bitLengthOf_3 : decode b_Rea_bitLengthOf 3 = .ok (.istore 4, 2) := by decide +kernel
theorem d_Rea_bitLengthOf_5 : decode b_Rea_bitLengthOf 5 = .ok (.bipush 32, 2) := by decide +kernel
theorem d_Rea_bitLengthOf_7 : decode b_Rea_bitLengthOf 7 = .ok (.istore 5, 2) := by decide +kernel
theorem d_Rea_bitLengthOf_9 : decode b_Rea_bitLengthOf 9 = .ok (.iload 5, 2) := by decide +kernel
theorem d_Rea_bitLengthOf_11 : decode b_Rea_bitLengthOf 11 = .ok (.ifCond .le 33, 3) := by decide +kernel
theorem d_Rea_bitLengthOf_14 : decode b_Rea_bitLengthOf 14 = .ok (.lload_n 2, 1) := by decide +kernel
theorem d_Rea_bitLengthOf_15 : decode b_Rea_bitLengthOf 15 = .ok (.iload 5, 2) := by decide +kernel
theorem d_Rea_bitLengthOf_17 : decode b_Rea_bitLengthOf 17 = .ok (.lushr, 1) := by decide +kernel
theorem d_Rea_bitLengthOf_18 : decode b_Rea_bitLengthOf 18 = .ok (.lconst 0, 1) := by decide +kernel
theorem d_Rea_bitLengthOf_19 : decode b_Rea_bitLengthOf 19 = .ok (.lcmp, 1) := by decide +kernel
theorem d_Rea_bitLengthOf_20 : decode b_Rea_bitLengthOf 20 = .ok (.ifCond .eq 15, 3) := by decide +kernel
theorem d_Rea_bitLengthOf_23 : decode b_Rea_bitLengthOf 23 = .ok (.lload_n 2, 1) := by decide +kernel
theorem d_Rea_bitLengthOf_24 : decode b_Rea_bitLengthOf 24 = .ok (.iload 5, 2) := by decide +kernel
theorem d_Rea_bitLengthOf_26 : decode b_Rea_bitLengthOf 26 = .ok (.lushr, 1) := by decide +kernel
theorem d_Rea_bitLengthOf_27 : decode b_Rea_bitLengthOf 27 = .ok (.lstore_n 2, 1) := by decide +kernel
theorem d_Rea_bitLengthOf_28 : decode b_Rea_bitLengthOf 28 = .ok (.iload 4, 2) := by decide +kernel
theorem d_Rea_bitLengthOf_30 : decode b_Rea_bitLengthOf 30 = .ok (.iload 5, 2) := by decide +kernel
theorem d_Rea_bitLengthOf_32 : decode b_Rea_bitLengthOf 32 = .ok (.iadd, 1) := by decide +kernel
theorem d_Rea_bitLengthOf_33 : decode b_Rea_bitLengthOf 33 = .ok (.istore 4, 2) := by decide +kernel
theorem d_Rea_bitLengthOf_35 : decode b_Rea_bitLengthOf 35 = .ok (.iload 5, 2) := by decide +kernel
theorem d_Rea_bitLengthOf_37 : decode b_Rea_bitLengthOf 37 = .ok (.iconst 1, 1) := by decide +kernel
theorem d_Rea_bitLengthOf_38 : decode b_Rea_bitLengthOf 38 = .ok (.ishr, 1) := by decide +kernel
theorem d_Rea_bitLengthOf_39 : decode b_Rea_bitLengthOf 39 = .ok (.istore 5, 2) := by decide +kernel
theorem d_Rea_bitLengthOf_41 : decode b_Rea_bitLengthOf 41 = .ok (.goto (-32), 3) := by decide +kernel
theorem d_Rea_bitLengthOf_44 : decode b_Rea_bitLengthOf 44 = .ok (.lload_n 2, 1) := by decide +kernel
theorem d_Rea_bitLengthOf_45 : decode b_Rea_bitLengthOf 45 = .ok (.lconst 0, 1) := by decide +kernel
theorem d_Rea_bitLengthOf_46 : decode b_Rea_bitLengthOf 46 = .ok (.lcmp, 1) := by decide +kernel
theorem d_Rea_bitLengthOf_47 : decode b_Rea_bitLengthOf 47 = .ok (.ifCond .ne 7, 3) := by decide +kernel
theorem d_Rea_bitLengthOf_50 : decode b_Rea_bitLengthOf 50 = .ok (.iconst 0, 1) := by decide +kernel
theorem d_Rea_bitLengthOf_51 : decode b_Rea_bitLengthOf 51 = .ok (.goto 7, 3) := by decide +kernel
theorem d_Rea_bitLengthOf_54 : decode b_Rea_bitLengthOf 54 = .ok (.iload 4, 2) := by decide +kernel
theorem d_Rea_bitLengthOf_56 : decode b_Rea_bitLengthOf 56 = .ok (.iconst 1, 1) := by decide +kernel
theorem d_Rea_bitLengthOf_57 : decode b_Rea_bitLengthOf 57 = .ok (.iadd, 1) := by decide +kernel
theorem d_Rea_bitLengthOf_58 : decode b_Rea_bitLengthOf 58 = .ok (.ireturn, 1) := by decide +kernel
theorem d_Rea_digitOf_0 : decode b_Rea_digitOf 0 = .ok (.iload_n 0, 1) := by decide +kernel
theorem d_Rea_digitOf_1 : decode b_Rea_digitOf 1 = .ok (.bipush 48, 2) := by decide +kernel
theorem d_Rea_digitOf_3 : decode b_Rea_digitOf 3 = .ok (.if_icmp .lt 14, 3) := by decide +kernel
theorem d_Rea_digitOf_6 : decode b_Rea_digitOf 6 = .ok (.iload_n 0, 1) := by decide +kernel
theorem d_Rea_digitOf_7 : decode b_Rea_digitOf 7 = .ok (.bipush 57, 2) := by decide +kernel
theorem d_Rea_digitOf_9 : decode b_Rea_digitOf 9 = .ok (.if_icmp .gt 8, 3) := by decide +kernel
theorem d_Rea_digitOf_12 : decode b_Rea_digitOf 12 = .ok (.iload_n 0, 1) := by decide +kernel
theorem d_Rea_digitOf_13 : decode b_Rea_digitOf 13 = .ok (.bipush 48, 2) := by decide +kernel
theorem d_Rea_digitOf_15 : decode b_Rea_digitOf 15 = .ok (.isub, 1) := by decide +kernel
theorem d_Rea_digitOf_16 : decode b_Rea_digitOf 16 = .ok (.ireturn, 1) := by decide +kernel
theorem d_Rea_digitOf_17 : decode b_Rea_digitOf 17 = .ok (.iload_n 0, 1) := by decide +kernel
theorem d_Rea_digitOf_18 : decode b_Rea_digitOf 18 = .ok (.bipush 97, 2) := by decide +kernel
theorem d_Rea_digitOf_20 : decode b_Rea_digitOf 20 = .ok (.if_icmp .lt 17, 3) := by decide +kernel
theorem d_Rea_digitOf_23 : decode b_Rea_digitOf 23 = .ok (.iload_n 0, 1) := by decide +kernel
theorem d_Rea_digitOf_24 : decode b_Rea_digitOf 24 = .ok (.bipush 102, 2) := by decide +kernel
theorem d_Rea_digitOf_26 : decode b_Rea_digitOf 26 = .ok (.if_icmp .gt 11, 3) := by decide +kernel
theorem d_Rea_digitOf_29 : decode b_Rea_digitOf 29 = .ok (.iload_n 0, 1) := by decide +kernel
theorem d_Rea_digitOf_30 : decode b_Rea_digitOf 30 = .ok (.bipush 97, 2) := by decide +kernel
theorem d_Rea_digitOf_32 : decode b_Rea_digitOf 32 = .ok (.isub, 1) := by decide +kernel
theorem d_Rea_digitOf_33 : decode b_Rea_digitOf 33 = .ok (.bipush 10, 2) := by decide +kernel
theorem d_Rea_digitOf_35 : decode b_Rea_digitOf 35 = .ok (.iadd, 1) := by decide +kernel
theorem d_Rea_digitOf_36 : decode b_Rea_digitOf 36 = .ok (.ireturn, 1) := by decide +kernel
theorem d_Rea_digitOf_37 : decode b_Rea_digitOf 37 = .ok (.iload_n 0, 1) := by decide +kernel
theorem d_Rea_digitOf_38 : decode b_Rea_digitOf 38 = .ok (.bipush 65, 2) := by decide +kernel
theorem d_Rea_digitOf_40 : decode b_Rea_digitOf 40 = .ok (.if_icmp .lt 17, 3) := by decide +kernel
theorem d_Rea_digitOf_43 : decode b_Rea_digitOf 43 = .ok (.iload_n 0, 1) := by decide +kernel
theorem d_Rea_digitOf_44 : decode b_Rea_digitOf 44 = .ok (.bipush 70, 2) := by decide +kernel
theorem d_Rea_digitOf_46 : decode b_Rea_digitOf 46 = .ok (.if_icmp .gt 11, 3) := by decide +kernel
theorem d_Rea_digitOf_49 : decode b_Rea_digitOf 49 = .ok (.iload_n 0, 1) := by decide +kernel
theorem d_Rea_digitOf_50 : decode b_Rea_digitOf 50 = .ok (.bipush 65, 2) := by decide +kernel
theorem d_Rea_digitOf_52 : decode b_Rea_digitOf 52 = .ok (.isub, 1) := by decide +kernel
theorem d_Rea_digitOf_53 : decode b_Rea_digitOf 53 = .ok (.bipush 10, 2) := by decide +kernel
theorem d_Rea_digitOf_55 : decode b_Rea_digitOf 55 = .ok (.iadd, 1) := by decide +kernel
theorem d_Rea_digitOf_56 : decode b_Rea_digitOf 56 = .ok (.ireturn, 1) := by decide +kernel
theorem d_Rea_digitOf_57 : decode b_Rea_digitOf 57 = .ok (.bipush 16, 2) := by decide +kernel
theorem d_Rea_digitOf_59 : decode b_Rea_digitOf 59 = .ok (.ireturn, 1) := by decide +kernel
theorem d_Rea_countCharacters_0 : decode b_Rea_countCharacters 0 = .ok (.iconst 0, 1) := by decide +kernel
theorem d_Rea_countCharacters_1 : decode b_Rea_countCharacters 1 = .ok (.istore_n 2, 1) := by decide +kernel
theorem d_Rea_countCharacters_2 : decode b_Rea_countCharacters 2 = .ok (.bipush 56, 2) := by decide +kernel
theorem d_Rea_countCharacters_4 : decode b_Rea_countCharacters 4 = .ok (.istore_n 3, 1) := by decide +kernel
theorem d_Rea_countCharacters_5 : decode b_Rea_countCharacters 5 = .ok (.iload_n 3, 1) := by decide +kernel
theorem d_Rea_countCharacters_6 : decode b_Rea_countCharacters 6 = .ok (.ifCond .lt 24, 3) := by decide +kernel
theorem d_Rea_countCharacters_9 : decode b_Rea_countCharacters 9 = .ok (.lload_n 0, 1) := by decide +kernel
theorem d_Rea_countCharacters_10 : decode b_Rea_countCharacters 10 = .ok (.iload_n 3, 1) := by decide +kernel
theorem d_Rea_countCharacters_11 : decode b_Rea_countCharacters 11 = .ok (.lushr, 1) := by decide +kernel
theorem d_Rea_countCharacters_12 : decode b_Rea_countCharacters 12 = .ok (.ldc2_w 53, 3) := by decide +kernel
theorem d_Rea_countCharacters_15 : decode b_Rea_countCharacters 15 = .ok (.land, 1) := by decide +kernel
theorem d_Rea_countCharacters_16 : decode b_Rea_countCharacters 16 = .ok (.lconst 0, 1) := by decide +kernel
theorem d_Rea_countCharacters_17 : decode b_Rea_countCharacters 17 = .ok (.lcmp, 1) := by decide +kernel
theorem d_Rea_countCharacters_18 : decode b_Rea_countCharacters 18 = .ok (.ifCond .eq 6, 3) := by decide +kernel
theorem d_Rea_countCharacters_21 : decode b_Rea_countCharacters 21 = .ok (.iinc 2 1, 3) := by decide +kernel
theorem d_Rea_countCharacters_24 : decode b_Rea_countCharacters 24 = .ok (.iinc 3 (-8), 3) := by decide +kernel
theorem d_Rea_countCharacters_27 : decode b_Rea_countCharacters 27 = .ok (.goto (-22), 3) := by decide +kernel
theorem d_Rea_countCharacters_30 : decode b_Rea_countCharacters 30 = .ok (.iload_n 2, 1) := by decide +kernel
theorem d_Rea_countCharacters_31 : decode b_Rea_countCharacters 31 = .ok (.ireturn, 1) := by decide +kernel
set_option maxHeartbeats 4000000 in
set_option maxRecDepth 100000 in
theorem c_Rea_bitLengthOf (l : Launch) (D : va_G) (E : evD) (x : Nat) (hx64 : x < 2 ^ 64) : Ci (S := Unit) l y_Rea_bitLengthOf (wz y_Rea_bitLengthOf b_Rea_bitLengthOf 6 (some .int)) ({ frames := 0, cells := 0, slots := 0, locals := 0 }) D vcl (ev1 E) [.long (lN x)] [] [] 0 0 (fun (r : Int32) (_ : Unit) => r = nI (bln x)) (fun _ => []) (fun _ : Unit => []) := by
  have hev := ev1_ok E
  unfold Ci
  refine ct_of (y := y_Rea_bitLengthOf) (av := [.long (lN x)]) (cc := b_Rea_bitLengthOf) (maxL := 6) (ret := (some .int)) (Qc := fun A => va_Qi (S := Unit) (fun (r : Int32) (_ : Unit) => r = nI (bln x)) (fun u t => ctB D vcl ((fun _ => []) u) ((fun _ : Unit => []) u) A t) A) (by decide) rfl (Nat.le_of_ble_eq_true rfl) ?_
  intro p e s m below meth cde ls A H locs hx hb hml hrt hlocks hown hin hts hA hP hK hD hS hE hl
  have hown : s.vm.findClass R_Rea = some m.cls := hown
  have hts := wz_g hts
  have hl : lv_has ls 6 [(0, .long (lN x))] := hl
  refine lv_lload_n hx hb d_Rea_bitLengthOf_0 rfl (lv_at hl 0 rfl) ?_
  refine lv_lstore_n (lv' := [(2, .long (lN x)), (0, .long (lN x))]) hx hb d_Rea_bitLengthOf_1 rfl hl (by decide) rfl (fun ls hl => ?_)
  refine lv_iconst (v := 0) hx hb d_Rea_bitLengthOf_2 (by decide) ?_
  refine tv_i (nI 0) (rfl) ?_
  refine lv_istore (lv' := [(4, .int (nI 0)), (2, .long (lN x)), (0, .long (lN x))]) hx hb d_Rea_bitLengthOf_3 hl (by decide) rfl (fun ls hl => ?_)
  refine lv_bipush (v := 32) hx hb d_Rea_bitLengthOf_5 (by decide) ?_
  refine tv_i (nI (stp 6)) (by decide) ?_
  refine lv_istore (lv' := [(5, .int (nI (stp 6))), (4, .int (nI 0)), (2, .long (lN x)), (0, .long (lN x))]) hx hb d_Rea_bitLengthOf_7 hl (by decide) rfl (fun ls hl => ?_)
  have L9 : ∀ (kk : Nat) (j : Nat) (r : Nat) (ct : Nat), j < kk → (j < 7) → (r < 2 ^ (2 ^ j)) → (r < 2 ^ 64) → (ct + 2 ^ j ≤ 64) → (r = x / 2 ^ ct) → (x ≠ 0 → r ≠ 0) → ∀ (H : Heap) (locs : List Loc) (ls : Array Slot), va_P D vcl [] H → va_D A [] → va_S A s.heap H locs → lv_has ls 6 [(2, .long (lN r)), (4, .int (nI ct)), (5, .int (nI (stp j)))] → W p l e ({ frames := 0, cells := 0, slots := 0, locals := 0 }) s m ([.long (lN x)] : List Value).toArray below meth cde H locs 0 0 (MQ below (va_Qi (S := Unit) (fun (r : Int32) (_ : Unit) => r = nI (bln x)) (fun u t => ctB D vcl ((fun _ => []) u) ((fun _ : Unit => []) u) A t) A) ([.long (lN x)] : List Value).toArray s 0 0 A) (F0 m 9 ls []) := by
    intro kk
    induction kk with
    | zero => intro j r ct hmz; exact absurd hmz (Nat.not_lt_zero _)
    | succ kk ih =>
      intro j r ct hmz hj hr hr64 hc he h0 H locs ls hP hD hS hl
      refine lv_iload hx hb d_Rea_bitLengthOf_9 (lv_at hl 2 rfl) ?_
      refine lv_if_le (tgt := 44) hx hb d_Rea_bitLengthOf_11 (by decide) (fun c11 => ?_) (fun c11 => ?_)
      · have e11 : j = 0 := (stp_0 j hj).mp c11
        rw [e11] at hr
        refine lv_lload_n hx hb d_Rea_bitLengthOf_44 rfl (lv_at hl 0 rfl) ?_
        refine lv_lconst (v := 0) hx hb d_Rea_bitLengthOf_45 (by decide) ?_
        refine W.lcmp hx hb d_Rea_bitLengthOf_46 ?_
        refine lv_if_ne (tgt := 54) hx hb d_Rea_bitLengthOf_47 (by decide) (fun c47 => ?_) (fun c47 => ?_)
        · have e47 : bln x = ct + 1 := (bl_end he hr h0).2 (fun z => c47 ((lg_cmp_eq _ _).mpr (by rw [z]; rfl)))
          refine lv_iload hx hb d_Rea_bitLengthOf_54 (lv_at hl 1 rfl) ?_
          refine lv_iconst (v := 1) hx hb d_Rea_bitLengthOf_56 (by decide) ?_
          refine lv_iadd hx hb d_Rea_bitLengthOf_57 ?_
          refine tv_i (nI (ct + 1)) (nI_1 ct) ?_
          exact rt_i hx hb hrt hlocks (rfl) (()) (by rw [e47]) (hP.sub [] rfl) (hK.sub [] rfl) (hD.sub [] (by decide) rfl) hS d_Rea_bitLengthOf_58
        · have e47 : bln x = 0 := (bl_end he hr h0).1 ((lN_ne0 hr64).mp ((lg_cmp_eq _ _).mp c47))
          refine lv_iconst (v := 0) hx hb d_Rea_bitLengthOf_50 (by decide) ?_
          refine lv_goto (tgt := 58) hx hb d_Rea_bitLengthOf_51 (by decide) ?_
          exact rt_i hx hb hrt hlocks (rfl) (()) (by rw [e47]; rfl) (hP.sub [] rfl) (hK.sub [] rfl) (hD.sub [] (by decide) rfl) hS d_Rea_bitLengthOf_58
      · have e11 : 0 < j := Nat.pos_of_ne_zero (fun z => c11 ((stp_0 j hj).mpr z))
        refine lv_lload_n hx hb d_Rea_bitLengthOf_14 rfl (lv_at hl 0 rfl) ?_
        refine lv_iload hx hb d_Rea_bitLengthOf_15 (lv_at hl 2 rfl) ?_
        refine lv_lushr (v := lN (r / 2 ^ stp j)) hx hb d_Rea_bitLengthOf_17 (wb_shr hr64 (stp_lt j hj)) ?_
        refine lv_lconst (v := 0) hx hb d_Rea_bitLengthOf_18 (by decide) ?_
        refine W.lcmp hx hb d_Rea_bitLengthOf_19 ?_
        refine lv_if_eq (tgt := 35) hx hb d_Rea_bitLengthOf_20 (by decide) (fun c20 => ?_) (fun c20 => ?_)
        · have e20 : r / 2 ^ stp j = 0 := (lN_ne0 (Nat.lt_of_le_of_lt (Nat.div_le_self _ _) hr64)).mp ((lg_cmp_eq _ _).mp c20)
          refine lv_iload hx hb d_Rea_bitLengthOf_35 (lv_at hl 2 rfl) ?_
          refine lv_iconst (v := 1) hx hb d_Rea_bitLengthOf_37 (by decide) ?_
          refine lv_ishr hx hb d_Rea_bitLengthOf_38 ?_
          refine tv_i (nI (stp (j - 1))) (stp_h j hj) ?_
          refine lv_istore (lv' := [(5, .int (nI (stp (j - 1)))), (2, .long (lN r)), (4, .int (nI ct))]) hx hb d_Rea_bitLengthOf_39 hl (by decide) rfl (fun ls hl => ?_)
          refine lv_goto (tgt := 9) hx hb d_Rea_bitLengthOf_41 (by decide) ?_
          exact ih (j - 1) r ct (by omega) (by omega) (bl_dn e11 e20) (hr64) (by have := stp_d e11; omega) (he) (h0) _ _ _ (hP.sub [] rfl) (hD.sub [] (by decide) rfl) hS (lv_sub hl [1, 2, 0] rfl)
        · have e20 : r / 2 ^ stp j ≠ 0 := fun z => c20 ((lg_cmp_eq _ _).mpr ((lN_ne0 (Nat.lt_of_le_of_lt (Nat.div_le_self _ _) hr64)).mpr z))
          refine lv_lload_n hx hb d_Rea_bitLengthOf_23 rfl (lv_at hl 0 rfl) ?_
          refine lv_iload hx hb d_Rea_bitLengthOf_24 (lv_at hl 2 rfl) ?_
          refine lv_lushr (v := lN (r / 2 ^ stp j)) hx hb d_Rea_bitLengthOf_26 (wb_shr hr64 (stp_lt j hj)) ?_
          refine lv_lstore_n (lv' := [(2, .long (lN (r / 2 ^ stp j))), (4, .int (nI ct)), (5, .int (nI (stp j)))]) hx hb d_Rea_bitLengthOf_27 rfl hl (by decide) rfl (fun ls hl => ?_)
          refine lv_iload hx hb d_Rea_bitLengthOf_28 (lv_at hl 1 rfl) ?_
          refine lv_iload hx hb d_Rea_bitLengthOf_30 (lv_at hl 2 rfl) ?_
          refine lv_iadd hx hb d_Rea_bitLengthOf_32 ?_
          refine tv_i (nI (ct + stp j)) (nI_add _ _) ?_
          refine lv_istore (lv' := [(4, .int (nI (ct + stp j))), (2, .long (lN (r / 2 ^ stp j))), (5, .int (nI (stp j)))]) hx hb d_Rea_bitLengthOf_33 hl (by decide) rfl (fun ls hl => ?_)
          refine lv_iload hx hb d_Rea_bitLengthOf_35 (lv_at hl 2 rfl) ?_
          refine lv_iconst (v := 1) hx hb d_Rea_bitLengthOf_37 (by decide) ?_
          refine lv_ishr hx hb d_Rea_bitLengthOf_38 ?_
          refine tv_i (nI (stp (j - 1))) (stp_h j hj) ?_
          refine lv_istore (lv' := [(5, .int (nI (stp (j - 1)))), (4, .int (nI (ct + stp j))), (2, .long (lN (r / 2 ^ stp j)))]) hx hb d_Rea_bitLengthOf_39 hl (by decide) rfl (fun ls hl => ?_)
          refine lv_goto (tgt := 9) hx hb d_Rea_bitLengthOf_41 (by decide) ?_
          exact ih (j - 1) (r / 2 ^ stp j) (ct + stp j) (by omega) (by omega) (bl_up e11 hr) (Nat.lt_of_le_of_lt (Nat.div_le_self _ _) hr64) (by have := stp_d e11; omega) (by rw [he, Nat.div_div_eq_div_mul, ← Nat.pow_add]) (fun _ => e20) _ _ _ (hP.sub [] rfl) (hD.sub [] (by decide) rfl) hS (lv_sub hl [2, 1, 0] rfl)
  exact L9 7 6 x 0 (by decide) (by decide) (hx64) (hx64) (by decide) (by rw [Nat.pow_zero, Nat.div_one]) (fun h => h) _ _ _ (hP.sub [] rfl) (hD.sub [] (by decide) rfl) hS (lv_sub hl [2, 1, 0] rfl)

set_option maxHeartbeats 4000000 in
set_option maxRecDepth 100000 in
theorem c_Rea_digitOf (l : Launch) (D : va_G) (E : evD) (c : Nat) (hc : c < 65536) : Ci (S := Unit) l y_Rea_digitOf (wz y_Rea_digitOf b_Rea_digitOf 1 (some .int)) ({ frames := 0, cells := 0, slots := 0, locals := 0 }) D vcl (ev1 E) [.int (nI c)] [] [] 0 0 (fun (r : Int32) (_ : Unit) => r = nI (dg c)) (fun _ => []) (fun _ : Unit => []) := by
  have hev := ev1_ok E
  unfold Ci
  refine ct_of (y := y_Rea_digitOf) (av := [.int (nI c)]) (cc := b_Rea_digitOf) (maxL := 1) (ret := (some .int)) (Qc := fun A => va_Qi (S := Unit) (fun (r : Int32) (_ : Unit) => r = nI (dg c)) (fun u t => ctB D vcl ((fun _ => []) u) ((fun _ : Unit => []) u) A t) A) (by decide) rfl (Nat.le_of_ble_eq_true rfl) ?_
  intro p e s m below meth cde ls A H locs hx hb hml hrt hlocks hown hin hts hA hP hK hD hS hE hl
  have hown : s.vm.findClass R_Rea = some m.cls := hown
  have hts := wz_g hts
  have hl : lv_has ls 1 [(0, .int (nI c))] := hl
  refine lv_iload_n hx hb d_Rea_digitOf_0 rfl (lv_at hl 0 rfl) ?_
  refine lv_bipush (v := 48) hx hb d_Rea_digitOf_1 (by decide) ?_
  refine lv_icmp_lt (tgt := 17) hx hb d_Rea_digitOf_3 (by decide) (fun c3 => ?_) (fun c3 => ?_)
  · have e3 : c < 48 := (nI_ltI (b := 48) (by omega) (by decide)).mp c3
    refine lv_iload_n hx hb d_Rea_digitOf_17 rfl (lv_at hl 0 rfl) ?_
    refine lv_bipush (v := 97) hx hb d_Rea_digitOf_18 (by decide) ?_
    refine lv_icmp_lt (tgt := 37) hx hb d_Rea_digitOf_20 (by decide) (fun c20 => ?_) (fun c20 => ?_)
    · have e20 : c < 97 := (nI_ltI (b := 97) (by omega) (by decide)).mp c20
      refine lv_iload_n hx hb d_Rea_digitOf_37 rfl (lv_at hl 0 rfl) ?_
      refine lv_bipush (v := 65) hx hb d_Rea_digitOf_38 (by decide) ?_
      refine lv_icmp_lt (tgt := 57) hx hb d_Rea_digitOf_40 (by decide) (fun c40 => ?_) (fun c40 => ?_)
      · have e40 : c < 65 := (nI_ltI (b := 65) (by omega) (by decide)).mp c40
        refine lv_bipush (v := 16) hx hb d_Rea_digitOf_57 (by decide) ?_
        refine tv_i (nI 16) (rfl) ?_
        exact rt_i hx hb hrt hlocks (rfl) (()) (congrArg nI (by unfold dg; split <;> (try split) <;> (try split) <;> omega)) (hP.sub [] rfl) (hK.sub [] rfl) (hD.sub [] (by decide) rfl) hS d_Rea_digitOf_59
      · have e40 : 65 ≤ c := Nat.le_of_not_lt (fun z => c40 ((nI_ltI (b := 65) (by omega) (by decide)).mpr z))
        refine lv_iload_n hx hb d_Rea_digitOf_43 rfl (lv_at hl 0 rfl) ?_
        refine lv_bipush (v := 70) hx hb d_Rea_digitOf_44 (by decide) ?_
        refine lv_icmp_gt (tgt := 57) hx hb d_Rea_digitOf_46 (by decide) (fun c46 => ?_) (fun c46 => ?_)
        · have e46 : 70 < c := (nI_ltI (a := 70) (by decide) (by omega)).mp c46
          refine lv_bipush (v := 16) hx hb d_Rea_digitOf_57 (by decide) ?_
          refine tv_i (nI 16) (rfl) ?_
          exact rt_i hx hb hrt hlocks (rfl) (()) (congrArg nI (by unfold dg; split <;> (try split) <;> (try split) <;> omega)) (hP.sub [] rfl) (hK.sub [] rfl) (hD.sub [] (by decide) rfl) hS d_Rea_digitOf_59
        · have e46 : c ≤ 70 := Nat.le_of_not_lt (fun z => c46 ((nI_ltI (a := 70) (by decide) (by omega)).mpr z))
          refine lv_iload_n hx hb d_Rea_digitOf_49 rfl (lv_at hl 0 rfl) ?_
          refine lv_bipush (v := 65) hx hb d_Rea_digitOf_50 (by decide) ?_
          refine lv_isub hx hb d_Rea_digitOf_52 ?_
          refine tv_i (nI (c - 65)) (pk_sub (b := 65) (by omega)) ?_
          refine lv_bipush (v := 10) hx hb d_Rea_digitOf_53 (by decide) ?_
          refine lv_iadd hx hb d_Rea_digitOf_55 ?_
          refine tv_i (nI (c - 65 + 10)) (nI_add _ 10) ?_
          exact rt_i hx hb hrt hlocks (rfl) (()) (congrArg nI (by unfold dg; split <;> (try split) <;> (try split) <;> omega)) (hP.sub [] rfl) (hK.sub [] rfl) (hD.sub [] (by decide) rfl) hS d_Rea_digitOf_56
    · have e20 : 97 ≤ c := Nat.le_of_not_lt (fun z => c20 ((nI_ltI (b := 97) (by omega) (by decide)).mpr z))
      refine lv_iload_n hx hb d_Rea_digitOf_23 rfl (lv_at hl 0 rfl) ?_
      refine lv_bipush (v := 102) hx hb d_Rea_digitOf_24 (by decide) ?_
      refine lv_icmp_gt (tgt := 37) hx hb d_Rea_digitOf_26 (by decide) (fun c26 => ?_) (fun c26 => ?_)
      · have e26 : 102 < c := (nI_ltI (a := 102) (by decide) (by omega)).mp c26
        refine lv_iload_n hx hb d_Rea_digitOf_37 rfl (lv_at hl 0 rfl) ?_
        refine lv_bipush (v := 65) hx hb d_Rea_digitOf_38 (by decide) ?_
        refine lv_icmp_lt (tgt := 57) hx hb d_Rea_digitOf_40 (by decide) (fun c40 => ?_) (fun c40 => ?_)
        · have e40 : c < 65 := (nI_ltI (b := 65) (by omega) (by decide)).mp c40
          refine lv_bipush (v := 16) hx hb d_Rea_digitOf_57 (by decide) ?_
          refine tv_i (nI 16) (rfl) ?_
          exact rt_i hx hb hrt hlocks (rfl) (()) (congrArg nI (by unfold dg; split <;> (try split) <;> (try split) <;> omega)) (hP.sub [] rfl) (hK.sub [] rfl) (hD.sub [] (by decide) rfl) hS d_Rea_digitOf_59
        · have e40 : 65 ≤ c := Nat.le_of_not_lt (fun z => c40 ((nI_ltI (b := 65) (by omega) (by decide)).mpr z))
          refine lv_iload_n hx hb d_Rea_digitOf_43 rfl (lv_at hl 0 rfl) ?_
          refine lv_bipush (v := 70) hx hb d_Rea_digitOf_44 (by decide) ?_
          refine lv_icmp_gt (tgt := 57) hx hb d_Rea_digitOf_46 (by decide) (fun c46 => ?_) (fun c46 => ?_)
          · have e46 : 70 < c := (nI_ltI (a := 70) (by decide) (by omega)).mp c46
            refine lv_bipush (v := 16) hx hb d_Rea_digitOf_57 (by decide) ?_
            refine tv_i (nI 16) (rfl) ?_
            exact rt_i hx hb hrt hlocks (rfl) (()) (congrArg nI (by unfold dg; split <;> (try split) <;> (try split) <;> omega)) (hP.sub [] rfl) (hK.sub [] rfl) (hD.sub [] (by decide) rfl) hS d_Rea_digitOf_59
          · have e46 : c ≤ 70 := Nat.le_of_not_lt (fun z => c46 ((nI_ltI (a := 70) (by decide) (by omega)).mpr z))
            refine lv_iload_n hx hb d_Rea_digitOf_49 rfl (lv_at hl 0 rfl) ?_
            refine lv_bipush (v := 65) hx hb d_Rea_digitOf_50 (by decide) ?_
            refine lv_isub hx hb d_Rea_digitOf_52 ?_
            refine tv_i (nI (c - 65)) (pk_sub (b := 65) (by omega)) ?_
            refine lv_bipush (v := 10) hx hb d_Rea_digitOf_53 (by decide) ?_
            refine lv_iadd hx hb d_Rea_digitOf_55 ?_
            refine tv_i (nI (c - 65 + 10)) (nI_add _ 10) ?_
            exact rt_i hx hb hrt hlocks (rfl) (()) (congrArg nI (by unfold dg; split <;> (try split) <;> (try split) <;> omega)) (hP.sub [] rfl) (hK.sub [] rfl) (hD.sub [] (by decide) rfl) hS d_Rea_digitOf_56
      · have e26 : c ≤ 102 := Nat.le_of_not_lt (fun z => c26 ((nI_ltI (a := 102) (by decide) (by omega)).mpr z))
        refine lv_iload_n hx hb d_Rea_digitOf_29 rfl (lv_at hl 0 rfl) ?_
        refine lv_bipush (v := 97) hx hb d_Rea_digitOf_30 (by decide) ?_
        refine lv_isub hx hb d_Rea_digitOf_32 ?_
        refine tv_i (nI (c - 97)) (pk_sub (b := 97) (by omega)) ?_
        refine lv_bipush (v := 10) hx hb d_Rea_digitOf_33 (by decide) ?_
        refine lv_iadd hx hb d_Rea_digitOf_35 ?_
        refine tv_i (nI (c - 97 + 10)) (nI_add _ 10) ?_
        exact rt_i hx hb hrt hlocks (rfl) (()) (congrArg nI (by unfold dg; split <;> (try split) <;> (try split) <;> omega)) (hP.sub [] rfl) (hK.sub [] rfl) (hD.sub [] (by decide) rfl) hS d_Rea_digitOf_36
  · have e3 : 48 ≤ c := Nat.le_of_not_lt (fun z => c3 ((nI_ltI (b := 48) (by omega) (by decide)).mpr z))
    refine lv_iload_n hx hb d_Rea_digitOf_6 rfl (lv_at hl 0 rfl) ?_
    refine lv_bipush (v := 57) hx hb d_Rea_digitOf_7 (by decide) ?_
    refine lv_icmp_gt (tgt := 17) hx hb d_Rea_digitOf_9 (by decide) (fun c9 => ?_) (fun c9 => ?_)
    · have e9 : 57 < c := (nI_ltI (a := 57) (by decide) (by omega)).mp c9
      refine lv_iload_n hx hb d_Rea_digitOf_17 rfl (lv_at hl 0 rfl) ?_
      refine lv_bipush (v := 97) hx hb d_Rea_digitOf_18 (by decide) ?_
      refine lv_icmp_lt (tgt := 37) hx hb d_Rea_digitOf_20 (by decide) (fun c20 => ?_) (fun c20 => ?_)
      · have e20 : c < 97 := (nI_ltI (b := 97) (by omega) (by decide)).mp c20
        refine lv_iload_n hx hb d_Rea_digitOf_37 rfl (lv_at hl 0 rfl) ?_
        refine lv_bipush (v := 65) hx hb d_Rea_digitOf_38 (by decide) ?_
        refine lv_icmp_lt (tgt := 57) hx hb d_Rea_digitOf_40 (by decide) (fun c40 => ?_) (fun c40 => ?_)
        · have e40 : c < 65 := (nI_ltI (b := 65) (by omega) (by decide)).mp c40
          refine lv_bipush (v := 16) hx hb d_Rea_digitOf_57 (by decide) ?_
          refine tv_i (nI 16) (rfl) ?_
          exact rt_i hx hb hrt hlocks (rfl) (()) (congrArg nI (by unfold dg; split <;> (try split) <;> (try split) <;> omega)) (hP.sub [] rfl) (hK.sub [] rfl) (hD.sub [] (by decide) rfl) hS d_Rea_digitOf_59
        · have e40 : 65 ≤ c := Nat.le_of_not_lt (fun z => c40 ((nI_ltI (b := 65) (by omega) (by decide)).mpr z))
          refine lv_iload_n hx hb d_Rea_digitOf_43 rfl (lv_at hl 0 rfl) ?_
          refine lv_bipush (v := 70) hx hb d_Rea_digitOf_44 (by decide) ?_
          refine lv_icmp_gt (tgt := 57) hx hb d_Rea_digitOf_46 (by decide) (fun c46 => ?_) (fun c46 => ?_)
          · have e46 : 70 < c := (nI_ltI (a := 70) (by decide) (by omega)).mp c46
            refine lv_bipush (v := 16) hx hb d_Rea_digitOf_57 (by decide) ?_
            refine tv_i (nI 16) (rfl) ?_
            exact rt_i hx hb hrt hlocks (rfl) (()) (congrArg nI (by unfold dg; split <;> (try split) <;> (try split) <;> omega)) (hP.sub [] rfl) (hK.sub [] rfl) (hD.sub [] (by decide) rfl) hS d_Rea_digitOf_59
          · have e46 : c ≤ 70 := Nat.le_of_not_lt (fun z => c46 ((nI_ltI (a := 70) (by decide) (by omega)).mpr z))
            refine lv_iload_n hx hb d_Rea_digitOf_49 rfl (lv_at hl 0 rfl) ?_
            refine lv_bipush (v := 65) hx hb d_Rea_digitOf_50 (by decide) ?_
            refine lv_isub hx hb d_Rea_digitOf_52 ?_
            refine tv_i (nI (c - 65)) (pk_sub (b := 65) (by omega)) ?_
            refine lv_bipush (v := 10) hx hb d_Rea_digitOf_53 (by decide) ?_
            refine lv_iadd hx hb d_Rea_digitOf_55 ?_
            refine tv_i (nI (c - 65 + 10)) (nI_add _ 10) ?_
            exact rt_i hx hb hrt hlocks (rfl) (()) (congrArg nI (by unfold dg; split <;> (try split) <;> (try split) <;> omega)) (hP.sub [] rfl) (hK.sub [] rfl) (hD.sub [] (by decide) rfl) hS d_Rea_digitOf_56
      · have e20 : 97 ≤ c := Nat.le_of_not_lt (fun z => c20 ((nI_ltI (b := 97) (by omega) (by decide)).mpr z))
        refine lv_iload_n hx hb d_Rea_digitOf_23 rfl (lv_at hl 0 rfl) ?_
        refine lv_bipush (v := 102) hx hb d_Rea_digitOf_24 (by decide) ?_
        refine lv_icmp_gt (tgt := 37) hx hb d_Rea_digitOf_26 (by decide) (fun c26 => ?_) (fun c26 => ?_)
        · have e26 : 102 < c := (nI_ltI (a := 102) (by decide) (by omega)).mp c26
          refine lv_iload_n hx hb d_Rea_digitOf_37 rfl (lv_at hl 0 rfl) ?_
          refine lv_bipush (v := 65) hx hb d_Rea_digitOf_38 (by decide) ?_
          refine lv_icmp_lt (tgt := 57) hx hb d_Rea_digitOf_40 (by decide) (fun c40 => ?_) (fun c40 => ?_)
          · have e40 : c < 65 := (nI_ltI (b := 65) (by omega) (by decide)).mp c40
            refine lv_bipush (v := 16) hx hb d_Rea_digitOf_57 (by decide) ?_
            refine tv_i (nI 16) (rfl) ?_
            exact rt_i hx hb hrt hlocks (rfl) (()) (congrArg nI (by unfold dg; split <;> (try split) <;> (try split) <;> omega)) (hP.sub [] rfl) (hK.sub [] rfl) (hD.sub [] (by decide) rfl) hS d_Rea_digitOf_59
          · have e40 : 65 ≤ c := Nat.le_of_not_lt (fun z => c40 ((nI_ltI (b := 65) (by omega) (by decide)).mpr z))
            refine lv_iload_n hx hb d_Rea_digitOf_43 rfl (lv_at hl 0 rfl) ?_
            refine lv_bipush (v := 70) hx hb d_Rea_digitOf_44 (by decide) ?_
            refine lv_icmp_gt (tgt := 57) hx hb d_Rea_digitOf_46 (by decide) (fun c46 => ?_) (fun c46 => ?_)
            · have e46 : 70 < c := (nI_ltI (a := 70) (by decide) (by omega)).mp c46
              refine lv_bipush (v := 16) hx hb d_Rea_digitOf_57 (by decide) ?_
              refine tv_i (nI 16) (rfl) ?_
              exact rt_i hx hb hrt hlocks (rfl) (()) (congrArg nI (by unfold dg; split <;> (try split) <;> (try split) <;> omega)) (hP.sub [] rfl) (hK.sub [] rfl) (hD.sub [] (by decide) rfl) hS d_Rea_digitOf_59
            · have e46 : c ≤ 70 := Nat.le_of_not_lt (fun z => c46 ((nI_ltI (a := 70) (by decide) (by omega)).mpr z))
              refine lv_iload_n hx hb d_Rea_digitOf_49 rfl (lv_at hl 0 rfl) ?_
              refine lv_bipush (v := 65) hx hb d_Rea_digitOf_50 (by decide) ?_
              refine lv_isub hx hb d_Rea_digitOf_52 ?_
              refine tv_i (nI (c - 65)) (pk_sub (b := 65) (by omega)) ?_
              refine lv_bipush (v := 10) hx hb d_Rea_digitOf_53 (by decide) ?_
              refine lv_iadd hx hb d_Rea_digitOf_55 ?_
              refine tv_i (nI (c - 65 + 10)) (nI_add _ 10) ?_
              exact rt_i hx hb hrt hlocks (rfl) (()) (congrArg nI (by unfold dg; split <;> (try split) <;> (try split) <;> omega)) (hP.sub [] rfl) (hK.sub [] rfl) (hD.sub [] (by decide) rfl) hS d_Rea_digitOf_56
        · have e26 : c ≤ 102 := Nat.le_of_not_lt (fun z => c26 ((nI_ltI (a := 102) (by decide) (by omega)).mpr z))
          refine lv_iload_n hx hb d_Rea_digitOf_29 rfl (lv_at hl 0 rfl) ?_
          refine lv_bipush (v := 97) hx hb d_Rea_digitOf_30 (by decide) ?_
          refine lv_isub hx hb d_Rea_digitOf_32 ?_
          refine tv_i (nI (c - 97)) (pk_sub (b := 97) (by omega)) ?_
          refine lv_bipush (v := 10) hx hb d_Rea_digitOf_33 (by decide) ?_
          refine lv_iadd hx hb d_Rea_digitOf_35 ?_
          refine tv_i (nI (c - 97 + 10)) (nI_add _ 10) ?_
          exact rt_i hx hb hrt hlocks (rfl) (()) (congrArg nI (by unfold dg; split <;> (try split) <;> (try split) <;> omega)) (hP.sub [] rfl) (hK.sub [] rfl) (hD.sub [] (by decide) rfl) hS d_Rea_digitOf_36
    · have e9 : c ≤ 57 := Nat.le_of_not_lt (fun z => c9 ((nI_ltI (a := 57) (by decide) (by omega)).mpr z))
      refine lv_iload_n hx hb d_Rea_digitOf_12 rfl (lv_at hl 0 rfl) ?_
      refine lv_bipush (v := 48) hx hb d_Rea_digitOf_13 (by decide) ?_
      refine lv_isub hx hb d_Rea_digitOf_15 ?_
      refine tv_i (nI (c - 48)) (pk_sub (b := 48) (by omega)) ?_
      exact rt_i hx hb hrt hlocks (rfl) (()) (congrArg nI (by unfold dg; split <;> (try split) <;> (try split) <;> omega)) (hP.sub [] rfl) (hK.sub [] rfl) (hD.sub [] (by decide) rfl) hS d_Rea_digitOf_16

set_option maxHeartbeats 4000000 in
set_option maxRecDepth 100000 in
theorem c_Rea_countCharacters (l : Launch) (D : va_G) (E : evD) (x : Nat) (hx64 : x < 2 ^ 64) : Ci (S := Unit) l y_Rea_countCharacters (wz y_Rea_countCharacters b_Rea_countCharacters 4 (some .int)) ({ frames := 0, cells := 0, slots := 0, locals := 0 }) D vcl (ev1 E) [.long (lN x)] [] [] 0 0 (fun (r : Int32) (_ : Unit) => r = nI (cb x 8)) (fun _ => []) (fun _ : Unit => []) := by
  have hev := ev1_ok E
  unfold Ci
  refine ct_of (y := y_Rea_countCharacters) (av := [.long (lN x)]) (cc := b_Rea_countCharacters) (maxL := 4) (ret := (some .int)) (Qc := fun A => va_Qi (S := Unit) (fun (r : Int32) (_ : Unit) => r = nI (cb x 8)) (fun u t => ctB D vcl ((fun _ => []) u) ((fun _ : Unit => []) u) A t) A) (by decide) rfl (Nat.le_of_ble_eq_true rfl) ?_
  intro p e s m below meth cde ls A H locs hx hb hml hrt hlocks hown hin hts hA hP hK hD hS hE hl
  have hown : s.vm.findClass R_Rea = some m.cls := hown
  have hts := wz_g hts
  have hl : lv_has ls 4 [(0, .long (lN x))] := hl
  refine lv_iconst (v := 0) hx hb d_Rea_countCharacters_0 (by decide) ?_
  refine tv_i (nI (cb x 0)) (rfl) ?_
  refine lv_istore_n (lv' := [(2, .int (nI (cb x 0))), (0, .long (lN x))]) hx hb d_Rea_countCharacters_1 rfl hl (by decide) rfl (fun ls hl => ?_)
  refine lv_bipush (v := 56) hx hb d_Rea_countCharacters_2 (by decide) ?_
  refine tv_i (zI (56 - 8 * ((0 : Nat) : Int))) (by decide) ?_
  refine lv_istore_n (lv' := [(3, .int (zI (56 - 8 * ((0 : Nat) : Int)))), (2, .int (nI (cb x 0))), (0, .long (lN x))]) hx hb d_Rea_countCharacters_4 rfl hl (by decide) rfl (fun ls hl => ?_)
  have L5 : ∀ (kk : Nat) (q : Nat), 8 - q < kk → (q ≤ 8) → ∀ (H : Heap) (locs : List Loc) (ls : Array Slot), va_P D vcl [] H → va_D A [] → va_S A s.heap H locs → lv_has ls 4 [(0, .long (lN x)), (2, .int (nI (cb x q))), (3, .int (zI (56 - 8 * (q : Int))))] → W p l e ({ frames := 0, cells := 0, slots := 0, locals := 0 }) s m ([.long (lN x)] : List Value).toArray below meth cde H locs 0 0 (MQ below (va_Qi (S := Unit) (fun (r : Int32) (_ : Unit) => r = nI (cb x 8)) (fun u t => ctB D vcl ((fun _ => []) u) ((fun _ : Unit => []) u) A t) A) ([.long (lN x)] : List Value).toArray s 0 0 A) (F0 m 5 ls []) := by
    intro kk
    induction kk with
    | zero => intro q hmz; exact absurd hmz (Nat.not_lt_zero _)
    | succ kk ih =>
      intro q hmz hq H locs ls hP hD hS hl
      refine lv_iload_n hx hb d_Rea_countCharacters_5 rfl (lv_at hl 2 rfl) ?_
      refine lv_if_lt (tgt := 30) hx hb d_Rea_countCharacters_6 (by decide) (fun c6 => ?_) (fun c6 => ?_)
      · have e6 : q = 8 := by have := (zI_lt (b := 0) (by omega) (by omega) (by omega) (by omega)).mp c6; omega
        refine lv_iload_n hx hb d_Rea_countCharacters_30 rfl (lv_at hl 1 rfl) ?_
        exact rt_i hx hb hrt hlocks (rfl) (()) (by rw [e6]) (hP.sub [] rfl) (hK.sub [] rfl) (hD.sub [] (by decide) rfl) hS d_Rea_countCharacters_31
      · have e6 : q < 8 := by have := mt (zI_lt (b := 0) (by omega) (by omega) (by omega) (by omega)).mpr c6; omega
        refine lv_lload_n hx hb d_Rea_countCharacters_9 rfl (lv_at hl 0 rfl) ?_
        refine lv_iload_n hx hb d_Rea_countCharacters_10 rfl (lv_at hl 2 rfl) ?_
        refine tv_i (nI (8 * (7 - q))) (by rw [← zI_nI]; congr 1; omega) ?_
        refine lv_lushr (v := lN (x / 2 ^ (8 * (7 - q)))) hx hb d_Rea_countCharacters_11 (wb_shr hx64 (by omega)) ?_
        refine lv_ldc2 hx hb hown (hts _ kK_Rea_53) d_Rea_countCharacters_12 ?_
        refine lv_land hx hb d_Rea_countCharacters_15 ?_
        refine tv_l (lN (byt x (7 - q))) (byt_l hx64) ?_
        refine lv_lconst (v := 0) hx hb d_Rea_countCharacters_16 (by decide) ?_
        refine W.lcmp hx hb d_Rea_countCharacters_17 ?_
        refine lv_if_eq (tgt := 24) hx hb d_Rea_countCharacters_18 (by decide) (fun c18 => ?_) (fun c18 => ?_)
        · have e18 : byt x (7 - q) = 0 := (lN_ne0 (by have := byt_lt x (7 - q); omega)).mp ((lg_cmp_eq _ _).mp c18)
          have e19 : cb x (q + 1) = cb x q := by show cb x q + (if byt x (7 - q) = 0 then 0 else 1) = _; rw [if_pos e18]; rfl
          rw [← e19] at hl
          refine lv_iinc (v := zI (56 - 8 * ((q + 1 : Nat) : Int))) (lv' := [(3, .int (zI (56 - 8 * ((q + 1 : Nat) : Int)))), (0, .long (lN x)), (2, .int (nI (cb x (q + 1))))]) hx hb d_Rea_countCharacters_24 hl (k := 2) rfl (by show zI _ + zI (-8) = _; rw [zI_add]; congr 1; omega) (by decide) rfl (fun ls hl => ?_)
          refine lv_goto (tgt := 5) hx hb d_Rea_countCharacters_27 (by decide) ?_
          exact ih (q + 1) (by omega) (by omega) _ _ _ (hP.sub [] rfl) (hD.sub [] (by decide) rfl) hS (lv_sub hl [1, 2, 0] rfl)
        · have e18 : byt x (7 - q) ≠ 0 := fun z => c18 ((lg_cmp_eq _ _).mpr (by rw [z]; rfl))
          have e19 : cb x (q + 1) = cb x q + 1 := by show cb x q + (if byt x (7 - q) = 0 then 0 else 1) = _; rw [if_neg e18]
          refine lv_iinc (v := nI (cb x (q + 1))) (lv' := [(2, .int (nI (cb x (q + 1)))), (0, .long (lN x)), (3, .int (zI (56 - 8 * (q : Int))))]) hx hb d_Rea_countCharacters_21 hl (k := 1) rfl (by rw [e19]; exact nI_1 _) (by decide) rfl (fun ls hl => ?_)
          refine lv_iinc (v := zI (56 - 8 * ((q + 1 : Nat) : Int))) (lv' := [(3, .int (zI (56 - 8 * ((q + 1 : Nat) : Int)))), (2, .int (nI (cb x (q + 1)))), (0, .long (lN x))]) hx hb d_Rea_countCharacters_24 hl (k := 2) rfl (by show zI _ + zI (-8) = _; rw [zI_add]; congr 1; omega) (by decide) rfl (fun ls hl => ?_)
          refine lv_goto (tgt := 5) hx hb d_Rea_countCharacters_27 (by decide) ?_
          exact ih (q + 1) (by omega) (by omega) _ _ _ (hP.sub [] rfl) (hD.sub [] (by decide) rfl) hS (lv_sub hl [2, 1, 0] rfl)
  exact L5 9 0 (by decide) (by decide) _ _ _ (hP.sub [] rfl) (hD.sub [] (by decide) rfl) hS (lv_sub hl [2, 1, 0] rfl)
end
section
/-! what the rest of Big needs: two limbs, lengths in bits, moving up -/
theorem or_l {a b : Nat} (ha : a < 4294967296) (h : b < 4294967296) : lN (b * 4294967296) ||| lN a = lN (b * 4294967296 + a) := by
  rw [wb_or (by omega) (by omega)]
  congr 1
  have := Nat.two_pow_add_eq_or_of_lt (i := 32) (b := a) (by omega) b
  rw [show b * 4294967296 = 2 ^ 32 * b by omega]
  exact this.symm
theorem sh_long {X p : Nat} (hp : p < 32) : ((lN X <<< ((nI p).toInt64 &&& 63)).toUInt64 >>> ((32 : Int32).toInt64.toUInt64 &&& Int64.toUInt64 63)).toInt64 = lN (X * 2 ^ p / 4294967296 % 4294967296) := by
  rw [wb_shl X (show p < 64 by omega), wb_mod]
  have h := wb_shr (n := X * 2 ^ p % 2 ^ 64) (k := 32) (Nat.mod_lt _ (by decide)) (by decide)
  have e : X * 2 ^ p % 2 ^ 64 / 2 ^ 32 = X * 2 ^ p / 4294967296 % 4294967296 := by
    rw [show (2 : Nat) ^ 64 = 2 ^ 32 * 4294967296 by decide, Nat.mod_mul_right_div_self]
  rw [e] at h
  exact h
theorem set_bv {f : Nat → Int32} {x : Nat} (hx : x < 2 ^ 64) : bv (upd (upd f 0 (nI x)) 1 (nI (x / 4294967296))) 2 = x := by
  rw [bv_s, bv_s, bv_0, pk_us, pk_un (by decide), pk_us, ← nI_mod x, w32_nI (Nat.mod_lt _ (by decide)), w32_nI (by omega), pw_0]
  show 0 + x % 4294967296 * 1 + x / 4294967296 * (1 * 4294967296) = x
  omega
theorem bl_B {f : Nat → Int32} {n V : Nat} (h : isB f (n + 1) V) : bln V = 32 * n + bln (w32 (f n)) := by
  have hne : f n ≠ 0 := by
    rcases h.2.2 with z | z
    · omega
    · exact z
  have hw := w32_ne hne
  have e : V = bv f n + w32 (f n) * pw n := by rw [← h.1, bv_s]
  have h1 := bv_lt f n
  have b1 := bln_le hw
  have b2 := bln_lt (w32 (f n))
  have b0 := bln_pos hw
  have r : 32 * n + bln (w32 (f n)) = (32 * n + (bln (w32 (f n)) - 1)) + 1 := by omega
  rw [r]
  refine bln_eq ?_ ?_
  · rw [Nat.pow_add, ← pw_2, Nat.mul_comm]
    have := Nat.mul_le_mul_right (pw n) b1
    omega
  · have e2 : 32 * n + (bln (w32 (f n)) - 1) + 1 = 32 * n + bln (w32 (f n)) := by omega
    rw [e2, Nat.pow_add, ← pw_2, Nat.mul_comm]
    have := Nat.mul_le_mul_right (pw n) (show w32 (f n) + 1 ≤ 2 ^ bln (w32 (f n)) by omega)
    rw [Nat.add_mul, Nat.one_mul] at this
    omega
theorem sh_bv {f g : Nat → Int32} {n c V : Nat} (hV : bv f n = V) (h0 : ∀ j, j < c / 32 → g j = 0) (hs : ∀ j, j ≤ n → g (j + c / 32) = sh_f f n (c % 32) j) : bv g (n + (c / 32 + 1)) = V * 2 ^ c := by
  have e : n + (c / 32 + 1) = n + 1 + c / 32 := by omega
  rw [e, bv_move h0 (n + 1) (fun k hk => hs k (by omega)), sh_all (Nat.mod_lt _ (by decide)), hV, pw_2, Nat.mul_assoc, ← Nat.pow_add]
  congr 2
  omega
theorem sh_step {f g : Nat → Int32} {n w p k : Nat} (hk : 0 < k) (hg : ∀ j, j < k → g j = f j) (hs : ∀ j, k ≤ j → j ≤ n → g (j + w) = sh_f f n p j) :
    (∀ j, j < k - 1 → upd g (k - 1 + w) (nI (sh_nw f n p (k - 1))) j = f j) ∧ (∀ j, k - 1 ≤ j → j ≤ n → upd g (k - 1 + w) (nI (sh_nw f n p (k - 1))) (j + w) = sh_f f n p j) := by
  constructor
  · intro j hj
    rw [pk_un (by omega)]; exact hg j (by omega)
  · intro j h1 h2
    by_cases h : j = k - 1
    · subst h; rw [pk_us]; rfl
    · rw [pk_un (by omega)]; exact hs j (by omega) h2
theorem five_fit {V c d e B : Nat} (h : V * 5 ^ c < B) (hd : d ≤ c) (he : e ≤ d) : V * 5 ^ (c - d) * 5 ^ e + 0 < B := by
  rw [Nat.mul_assoc, ← Nat.pow_add, Nat.add_zero]
  refine Nat.lt_of_le_of_lt (Nat.mul_le_mul_left V (Nat.pow_le_pow_right (by decide) (by omega))) h
theorem five_next {V c d e : Nat} (hd : d ≤ c) (he : e ≤ d) : V * 5 ^ (c - d) * 5 ^ e + 0 = V * 5 ^ (c - (d - e)) := by
  rw [Nat.mul_assoc, ← Nat.pow_add, Nat.add_zero]
  congr 2
  omega
end
section
set_option maxHeartbeats 4000000 in
set_option maxRecDepth 100000 in
theorem c_Big_set (l : Launch) (D : va_G) (E : evD) (h a : Nat) (cA : ClassId) (f : Nat → Int32) (nv : Int32) (x : Nat) (hx64 : x < 2 ^ 64) : Cv (S := (Nat → Int32) × Nat) l y_Big_set (wz y_Big_set b_Big_set 3 none) ({ frames := 1, cells := 0, slots := 0, locals := 20 }) D vcl (ev1 E) [.ref h, .long (lN x)] [(cA, .int)] [(h, .inr (0, [.ref a, .int nv])), (a, .inl (cA, 96, .inl f))] 0 0 (fun u : (Nat → Int32) × Nat => isB u.1 u.2 x) (fun _ => [(cA, .int)]) (fun u : (Nat → Int32) × Nat => [(h, .inr (0, [.ref a, .int (nI u.2)])), (a, .inl (cA, 96, .inl u.1))]) := by
  have hev := ev1_ok E
  unfold Cv
  refine ct_of (y := y_Big_set) (av := [.ref h, .long (lN x)]) (cc := b_Big_set) (maxL := 3) (ret := none) (Qc := fun A => va_Qv (S := (Nat → Int32) × Nat) (fun u : (Nat → Int32) × Nat => isB u.1 u.2 x) (fun u t => ctB D vcl ((fun _ => [(cA, .int)]) u) ((fun u : (Nat → Int32) × Nat => [(h, .inr (0, [.ref a, .int (nI u.2)])), (a, .inl (cA, 96, .inl u.1))]) u) A t) A) (by decide) rfl (Nat.le_of_ble_eq_true rfl) ?_
  intro p e s m below meth cde ls A H locs hx hb hml hrt hlocks hown hin hts hA hP hK hD hS hE hl
  have hown : s.vm.findClass R_Big = some m.cls := hown
  have hts := wz_g hts
  have hl : lv_has ls 3 [(0, .ref h), (1, .long (lN x))] := hl
  refine lv_aload_n hx hb d_Big_set_0 rfl (lv_at hl 0 rfl) ?_
  refine va_get (D := D) (ci := 0) (v := .ref a) (C := R_Big) (T := F_Big) (N := 2) hx hb hts w_Big hown hK hP 0 rfl rfl 0 (by decide) (hts _ kF_Big_9) (fun _ h9 => h9) rfl d_Big_set_1 ?_
  refine lv_iconst (v := 0) hx hb d_Big_set_4 (by decide) ?_
  refine lv_lload_n hx hb d_Big_set_5 rfl (lv_at hl 1 rfl) ?_
  refine lv_l2i (v := (lN x).toInt32) hx hb d_Big_set_6 (rfl) ?_
  refine tv_i (nI x) (lN_i x) ?_
  refine va_iast hx hb hK hP hD hS 1 0 rfl rfl (i := 0) (vp_in_nI (n := 0) (by decide) (by decide)) d_Big_set_7 (fun H locs hP hD hS => ?_)
  have hP : va_P D vcl [(h, .inr (0, [.ref a, .int nv])), (a, .inl (cA, 96, .inl (upd f (0 : Int32).toNatClampNeg (nI x))))] H := hP
  have hD : va_D A [(h, .inr (0, [.ref a, .int nv])), (a, .inl (cA, 96, .inl (upd f (0 : Int32).toNatClampNeg (nI x))))] := hD
  rw [show upd f (0 : Int32).toNatClampNeg (nI x) = upd f 0 (nI x) from rfl] at hP hD
  refine lv_aload_n hx hb d_Big_set_8 rfl (lv_at hl 0 rfl) ?_
  refine va_get (D := D) (ci := 0) (v := .ref a) (C := R_Big) (T := F_Big) (N := 2) hx hb hts w_Big hown hK hP 0 rfl rfl 0 (by decide) (hts _ kF_Big_9) (fun _ h9 => h9) rfl d_Big_set_9 ?_
  refine lv_iconst (v := 1) hx hb d_Big_set_12 (by decide) ?_
  refine lv_lload_n hx hb d_Big_set_13 rfl (lv_at hl 1 rfl) ?_
  refine lv_bipush (v := 32) hx hb d_Big_set_14 (by decide) ?_
  refine lv_lushr (v := lN (x / 4294967296)) hx hb d_Big_set_16 (wb_shr (k := 32) hx64 (by decide)) ?_
  refine lv_l2i (v := (lN (x / 4294967296)).toInt32) hx hb d_Big_set_17 (rfl) ?_
  refine tv_i (nI (x / 4294967296)) (lN_i _) ?_
  refine va_iast hx hb hK hP hD hS 1 0 rfl rfl (i := 1) (vp_in_nI (n := 1) (by decide) (by decide)) d_Big_set_18 (fun H locs hP hD hS => ?_)
  have hP : va_P D vcl [(h, .inr (0, [.ref a, .int nv])), (a, .inl (cA, 96, .inl (upd (upd f 0 (nI x)) (1 : Int32).toNatClampNeg (nI (x / 4294967296)))))] H := hP
  have hD : va_D A [(h, .inr (0, [.ref a, .int nv])), (a, .inl (cA, 96, .inl (upd (upd f 0 (nI x)) (1 : Int32).toNatClampNeg (nI (x / 4294967296)))))] := hD
  rw [show upd (upd f 0 (nI x)) (1 : Int32).toNatClampNeg (nI (x / 4294967296)) = upd (upd f 0 (nI x)) 1 (nI (x / 4294967296)) from rfl] at hP hD
  refine lv_aload_n hx hb d_Big_set_19 rfl (lv_at hl 0 rfl) ?_
  refine lv_iconst (v := 2) hx hb d_Big_set_20 (by decide) ?_
  refine tv_i (nI 2) (rfl) ?_
  refine va_put (D := D) (ci := 0) (v := .int (nI 2)) (ty := .int) (C := R_Big) (T := F_Big) (N := 2) hx hb hts w_Big t_Big tk_Big n_Big hown hK hP hD hS 0 rfl rfl 1 (by decide) (hts _ kF_Big_13) (fun _ h9 => h9) rfl (by decide +kernel) (rfl) (rfl) (Nat.le_of_ble_eq_true rfl) d_Big_set_21 (fun H locs hP hD hS => ?_)
  have hP : va_P D vcl [(h, .inr (0, [.ref a, .int (nI 2)])), (a, .inl (cA, 96, .inl (upd (upd f 0 (nI x)) 1 (nI (x / 4294967296)))))] H := hP
  have hD : va_D A [(h, .inr (0, [.ref a, .int (nI 2)])), (a, .inl (cA, 96, .inl (upd (upd f 0 (nI x)) 1 (nI (x / 4294967296)))))] := hD
  refine lv_aload_n hx hb d_Big_set_24 rfl (lv_at hl 0 rfl) ?_
  refine ca_v [] (va_runV (As := []) (rest := []) ⟨hx, hb, hml, hown, hts⟩ (c_Big_dropZeros l D E h a cA (upd (upd f 0 (nI x)) 1 (nI (x / 4294967296))) 2 (by decide) H.size) (xV 0 hts kC_Big_dropZeros kM_Big_17 kI_Big_dropZeros kS_Big_dropZeros kN_Big rfl rfl (by decide +kernel) ⟨Nat.le_of_ble_eq_true rfl, Nat.le_of_ble_eq_true rfl⟩) ⟨ct_blind hev, va_recv hK hP (ci := 0) (q0 := 0) rfl rfl, ct_pre hev hP hK hD hS hA hE [0, 1] rfl (by decide) [0] rfl⟩ rfl rfl hl.1 rfl (lv_room (Nat.le_of_ble_eq_true rfl)) d_Big_set_25 ⟨Nat.le_of_ble_eq_true rfl, Nat.le_of_ble_eq_true rfl⟩) hP hD hS hA [0, 1] [] rfl rfl (by decide) (by decide) (fun u H locs hw hP hD hS hK1 => ?_)
  obtain ⟨k1, rfl⟩ : ∃ z, z = u := ⟨_, rfl⟩
  have hP : va_P D vcl [(h, .inr (0, [.ref a, .int (nI k1)])), (a, .inl (cA, 96, .inl (upd (upd f 0 (nI x)) 1 (nI (x / 4294967296)))))] H := hP
  have hD : va_D A [(h, .inr (0, [.ref a, .int (nI k1)])), (a, .inl (cA, 96, .inl (upd (upd f 0 (nI x)) 1 (nI (x / 4294967296)))))] := hD
  exact rt_v hx hb hrt hlocks ((upd (upd f 0 (nI x)) 1 (nI (x / 4294967296)), k1)) (⟨hw.1.trans (set_bv hx64), by have := hw.2.1; omega, hw.2.2⟩) (hP.sub [0, 1] rfl) (hK.sub [0] rfl) (hD.sub [0, 1] (by decide) rfl) hS d_Big_set_28

set_option maxHeartbeats 4000000 in
set_option maxRecDepth 100000 in
theorem c_Big_bitLength (l : Launch) (D : va_G) (E : evD) (h a : Nat) (cA : ClassId) (f : Nat → Int32) (n : Nat) (V : Nat) (hB : isB f n V) : Ci (S := Unit) l y_Big_bitLength (wz y_Big_bitLength b_Big_bitLength 1 (some .int)) ({ frames := 1, cells := 0, slots := 0, locals := 25 }) D vcl (ev1 E) [.ref h] [(cA, .int)] [(h, .inr (0, [.ref a, .int (nI n)])), (a, .inl (cA, 96, .inl f))] 0 0 (fun (r : Int32) (_ : Unit) => r = nI (bln V)) (fun _ => [(cA, .int)]) (fun _ : Unit => [(h, .inr (0, [.ref a, .int (nI n)])), (a, .inl (cA, 96, .inl f))]) := by
  have hev := ev1_ok E
  unfold Ci
  refine ct_of (y := y_Big_bitLength) (av := [.ref h]) (cc := b_Big_bitLength) (maxL := 1) (ret := (some .int)) (Qc := fun A => va_Qi (S := Unit) (fun (r : Int32) (_ : Unit) => r = nI (bln V)) (fun u t => ctB D vcl ((fun _ => [(cA, .int)]) u) ((fun _ : Unit => [(h, .inr (0, [.ref a, .int (nI n)])), (a, .inl (cA, 96, .inl f))]) u) A t) A) (by decide) rfl (Nat.le_of_ble_eq_true rfl) ?_
  intro p e s m below meth cde ls A H locs hx hb hml hrt hlocks hown hin hts hA hP hK hD hS hE hl
  have hown : s.vm.findClass R_Big = some m.cls := hown
  have hts := wz_g hts
  have hl : lv_has ls 1 [(0, .ref h)] := hl
  have hn96 := hB.2.1
  refine lv_aload_n hx hb d_Big_bitLength_0 rfl (lv_at hl 0 rfl) ?_
  refine va_get (D := D) (ci := 0) (v := .int (nI n)) (C := R_Big) (T := F_Big) (N := 2) hx hb hts w_Big hown hK hP 0 rfl rfl 1 (by decide) (hts _ kF_Big_13) (fun _ h9 => h9) rfl d_Big_bitLength_1 ?_
  refine lv_if_ne (tgt := 11) hx hb d_Big_bitLength_4 (by decide) (fun c4 => ?_) (fun c4 => ?_)
  · have e4 : n ≠ 0 := fun z => c4 ((nI_eq0 (by omega)).mpr z)
    have hbl : bln V = 32 * (n - 1) + bln (w32 (f (n - 1))) := by
      have h9 := hB
      rw [show n = n - 1 + 1 by omega] at h9
      exact bl_B h9
    refine lv_aload_n hx hb d_Big_bitLength_11 rfl (lv_at hl 0 rfl) ?_
    refine va_get (D := D) (ci := 0) (v := .int (nI n)) (C := R_Big) (T := F_Big) (N := 2) hx hb hts w_Big hown hK hP 0 rfl rfl 1 (by decide) (hts _ kF_Big_13) (fun _ h9 => h9) rfl d_Big_bitLength_12 ?_
    refine lv_bipush (v := 32) hx hb d_Big_bitLength_15 (by decide) ?_
    refine lv_imul hx hb d_Big_bitLength_17 ?_
    refine lv_bipush (v := 32) hx hb d_Big_bitLength_18 (by decide) ?_
    refine lv_isub hx hb d_Big_bitLength_20 ?_
    refine tv_i (nI (32 * (n - 1))) (by show nI n * nI 32 - nI 32 = _; rw [pk_mul, pk_sub (by omega)]; congr 1; omega) ?_
    refine lv_aload_n hx hb d_Big_bitLength_21 rfl (lv_at hl 0 rfl) ?_
    refine va_get (D := D) (ci := 0) (v := .ref a) (C := R_Big) (T := F_Big) (N := 2) hx hb hts w_Big hown hK hP 0 rfl rfl 0 (by decide) (hts _ kF_Big_9) (fun _ h9 => h9) rfl d_Big_bitLength_22 ?_
    refine lv_aload_n hx hb d_Big_bitLength_25 rfl (lv_at hl 0 rfl) ?_
    refine va_get (D := D) (ci := 0) (v := .int (nI n)) (C := R_Big) (T := F_Big) (N := 2) hx hb hts w_Big hown hK hP 0 rfl rfl 1 (by decide) (hts _ kF_Big_13) (fun _ h9 => h9) rfl d_Big_bitLength_26 ?_
    refine lv_iconst (v := 1) hx hb d_Big_bitLength_29 (by decide) ?_
    refine lv_isub hx hb d_Big_bitLength_30 ?_
    refine tv_i (nI (n - 1)) (nI_dec (by omega)) ?_
    refine va_iald hx hb hK hP 1 0 rfl rfl (i := nI (n - 1)) (vp_in_nI (show n - 1 < 96 by omega) (by decide)) d_Big_bitLength_31 ?_
    refine tv_i (f (n - 1)) (by rw [nI_clamp (by omega)]) ?_
    refine lv_i2l (v := (f (n - 1)).toInt64) hx hb d_Big_bitLength_32 (rfl) ?_
    refine lv_ldc2 hx hb hown (hts _ kK_Big_20) d_Big_bitLength_33 ?_
    refine lv_land hx hb d_Big_bitLength_36 ?_
    refine tv_l (lN (w32 (f (n - 1)))) (lim _) ?_
    refine ca_i [(h, .inr (0, [.ref a, .int (nI n)])), (a, .inl (cA, 96, .inl f))] (va_runSN (As := [.long (lN (w32 (f (n - 1))))]) (rest := [.int (nI (32 * (n - 1)))]) ⟨hx, hb, hml, hown, hts⟩ (c_Rea_bitLengthOf l D E (w32 (f (n - 1))) (by have := w32_lt (f (n - 1)); omega) H.size) (xSN 1 hts kC_Rea_bitLengthOf hE.1.2.2 kT_Rea_bitLengthOf kN_Rea rfl rfl (by decide +kernel) ⟨Nat.le_of_ble_eq_true rfl, Nat.le_of_ble_eq_true rfl⟩) ⟨ct_blind hev, ct_pre hev hP hK hD hS hA hE [] rfl (by decide) [] rfl⟩ rfl rfl hl.1 rfl (lv_room (Nat.le_of_ble_eq_true rfl)) d_Big_bitLength_37 ⟨Nat.le_of_ble_eq_true rfl, Nat.le_of_ble_eq_true rfl⟩) hP hD hS hA [] [0, 1] rfl rfl (by decide) (by decide) (fun r u H locs hw hP hD hS hK1 => ?_)
    subst hw
    have hP : va_P D vcl [(h, .inr (0, [.ref a, .int (nI n)])), (a, .inl (cA, 96, .inl f))] H := hP
    have hD : va_D A [(h, .inr (0, [.ref a, .int (nI n)])), (a, .inl (cA, 96, .inl f))] := hD
    refine lv_iadd hx hb d_Big_bitLength_40 ?_
    refine tv_i (nI (bln V)) (by rw [nI_add, hbl]) ?_
    exact rt_i hx hb hrt hlocks (rfl) (()) (rfl) (hP.sub [0, 1] rfl) (hK.sub [0] rfl) (hD.sub [0, 1] (by decide) rfl) hS d_Big_bitLength_41
  · have e4 : n = 0 := (nI_eq0 (by omega)).mp c4
    refine lv_iconst (v := 0) hx hb d_Big_bitLength_7 (by decide) ?_
    refine lv_goto (tgt := 41) hx hb d_Big_bitLength_8 (by decide) ?_
    exact rt_i hx hb hrt hlocks (rfl) (()) (by rw [(isB_0 hB).mp e4]; rfl) (hP.sub [0, 1] rfl) (hK.sub [0] rfl) (hD.sub [0, 1] (by decide) rfl) hS d_Big_bitLength_41

set_option maxHeartbeats 4000000 in
set_option maxRecDepth 100000 in
theorem c_Big_timesFives (l : Launch) (D : va_G) (E : evD) (h a : Nat) (cA : ClassId) (f : Nat → Int32) (n : Nat) (V cn : Nat) (hB : isB f n V) (hc31 : cn < 2147483648) (hfit : V * 5 ^ cn < pw 96) : Cv (S := (Nat → Int32) × Nat) l y_Big_timesFives (wz y_Big_timesFives b_Big_timesFives 3 none) ({ frames := 1, cells := 0, slots := 0, locals := 25 }) D vcl (ev1 E) [.ref h, .int (nI cn)] [(cA, .int)] [(h, .inr (0, [.ref a, .int (nI n)])), (a, .inl (cA, 96, .inl f))] 0 0 (fun u : (Nat → Int32) × Nat => isB u.1 u.2 (V * 5 ^ cn)) (fun _ => [(cA, .int)]) (fun u : (Nat → Int32) × Nat => [(h, .inr (0, [.ref a, .int (nI u.2)])), (a, .inl (cA, 96, .inl u.1))]) := by
  have hev := ev1_ok E
  unfold Cv
  refine ct_of (y := y_Big_timesFives) (av := [.ref h, .int (nI cn)]) (cc := b_Big_timesFives) (maxL := 3) (ret := none) (Qc := fun A => va_Qv (S := (Nat → Int32) × Nat) (fun u : (Nat → Int32) × Nat => isB u.1 u.2 (V * 5 ^ cn)) (fun u t => ctB D vcl ((fun _ => [(cA, .int)]) u) ((fun u : (Nat → Int32) × Nat => [(h, .inr (0, [.ref a, .int (nI u.2)])), (a, .inl (cA, 96, .inl u.1))]) u) A t) A) (by decide) rfl (Nat.le_of_ble_eq_true rfl) ?_
  intro p e s m below meth cde ls A H locs hx hb hml hrt hlocks hown hin hts hA hP hK hD hS hE hl
  have hown : s.vm.findClass R_Big = some m.cls := hown
  have hts := wz_g hts
  have hl : lv_has ls 3 [(0, .ref h), (1, .int (nI cn))] := hl
  have hn96 := hB.2.1
  refine lv_iload_n hx hb d_Big_timesFives_0 rfl (lv_at hl 1 rfl) ?_
  refine lv_istore_n (lv' := [(2, .int (nI cn)), (0, .ref h), (1, .int (nI cn))]) hx hb d_Big_timesFives_1 rfl hl (by decide) rfl (fun ls hl => ?_)
  have L2 : ∀ (kk : Nat) (d : Nat) (g : Nat → Int32) (k : Nat), d < kk → (d ≤ cn) → (isB g k (V * 5 ^ (cn - d))) → ∀ (H : Heap) (locs : List Loc) (ls : Array Slot), va_P D vcl [(h, .inr (0, [.ref a, .int (nI k)])), (a, .inl (cA, 96, .inl g))] H → va_D A [(h, .inr (0, [.ref a, .int (nI k)])), (a, .inl (cA, 96, .inl g))] → va_S A s.heap H locs → lv_has ls 3 [(0, .ref h), (2, .int (nI d))] → W p l e ({ frames := 1, cells := 0, slots := 0, locals := 25 }) s m ([.ref h, .int (nI cn)] : List Value).toArray below meth cde H locs 0 0 (MQ below (va_Qv (S := (Nat → Int32) × Nat) (fun u : (Nat → Int32) × Nat => isB u.1 u.2 (V * 5 ^ cn)) (fun u t => ctB D vcl ((fun _ => [(cA, .int)]) u) ((fun u : (Nat → Int32) × Nat => [(h, .inr (0, [.ref a, .int (nI u.2)])), (a, .inl (cA, 96, .inl u.1))]) u) A t) A) ([.ref h, .int (nI cn)] : List Value).toArray s 0 0 A) (F0 m 2 ls []) := by
    intro kk
    induction kk with
    | zero => intro d g k hmz; exact absurd hmz (Nat.not_lt_zero _)
    | succ kk ih =>
      intro d g k hmz hd hG H locs ls hP hD hS hl
      refine lv_iload_n hx hb d_Big_timesFives_2 rfl (lv_at hl 1 rfl) ?_
      refine lv_bipush (v := 13) hx hb d_Big_timesFives_3 (by decide) ?_
      refine lv_icmp_lt (tgt := 21) hx hb d_Big_timesFives_5 (by decide) (fun c5 => ?_) (fun c5 => ?_)
      · have e5 : d < 13 := (nI_ltI (b := 13) (by omega) (by decide)).mp c5
        have L21 : ∀ (kk : Nat) (d : Nat) (g : Nat → Int32) (k : Nat), d < kk → (d ≤ cn) → (isB g k (V * 5 ^ (cn - d))) → ∀ (H : Heap) (locs : List Loc) (ls : Array Slot), va_P D vcl [(h, .inr (0, [.ref a, .int (nI k)])), (a, .inl (cA, 96, .inl g))] H → va_D A [(h, .inr (0, [.ref a, .int (nI k)])), (a, .inl (cA, 96, .inl g))] → va_S A s.heap H locs → lv_has ls 3 [(0, .ref h), (2, .int (nI d))] → W p l e ({ frames := 1, cells := 0, slots := 0, locals := 25 }) s m ([.ref h, .int (nI cn)] : List Value).toArray below meth cde H locs 0 0 (MQ below (va_Qv (S := (Nat → Int32) × Nat) (fun u : (Nat → Int32) × Nat => isB u.1 u.2 (V * 5 ^ cn)) (fun u t => ctB D vcl ((fun _ => [(cA, .int)]) u) ((fun u : (Nat → Int32) × Nat => [(h, .inr (0, [.ref a, .int (nI u.2)])), (a, .inl (cA, 96, .inl u.1))]) u) A t) A) ([.ref h, .int (nI cn)] : List Value).toArray s 0 0 A) (F0 m 21 ls []) := by
          intro kk
          induction kk with
          | zero => intro d g k hmz; exact absurd hmz (Nat.not_lt_zero _)
          | succ kk ih =>
            intro d g k hmz hd hG H locs ls hP hD hS hl
            refine lv_iload_n hx hb d_Big_timesFives_21 rfl (lv_at hl 1 rfl) ?_
            refine lv_if_le (tgt := 37) hx hb d_Big_timesFives_22 (by decide) (fun c22 => ?_) (fun c22 => ?_)
            · have e22 : d = 0 := (nI_le0 (by omega)).mp c22
              rw [e22] at hG
              exact rt_v hx hb hrt hlocks ((g, k)) (hG) (hP.sub [0, 1] rfl) (hK.sub [0] rfl) (hD.sub [0, 1] (by decide) rfl) hS d_Big_timesFives_37
            · have e22 : 0 < d := Nat.pos_of_ne_zero (fun z => c22 ((nI_le0 (by omega)).mpr z))
              refine lv_aload_n hx hb d_Big_timesFives_25 rfl (lv_at hl 0 rfl) ?_
              refine lv_iconst (v := 5) hx hb d_Big_timesFives_26 (by decide) ?_
              refine tv_i (nI (5 ^ 1)) (by decide) ?_
              refine lv_iconst (v := 0) hx hb d_Big_timesFives_27 (by decide) ?_
              refine tv_i (nI 0) (rfl) ?_
              refine ca_v [] (va_runV (As := [.int (nI (5 ^ 1)), .int (nI 0)]) (rest := []) ⟨hx, hb, hml, hown, hts⟩ (c_Big_timesPlus l D E h a cA g k (V * 5 ^ (cn - d)) (5 ^ 1) 0 hG (by decide) (by decide) (by decide) (five_fit hfit hd (by omega)) H.size) (xV 2 hts kC_Big_timesPlus kM_Big_29 kI_Big_timesPlus kS_Big_timesPlus kN_Big rfl rfl (by decide +kernel) ⟨Nat.le_of_ble_eq_true rfl, Nat.le_of_ble_eq_true rfl⟩) ⟨ct_blind hev, va_recv hK hP (ci := 0) (q0 := 0) rfl rfl, ct_pre hev hP hK hD hS hA hE [0, 1] rfl (by decide) [0] rfl⟩ rfl rfl hl.1 rfl (lv_room (Nat.le_of_ble_eq_true rfl)) d_Big_timesFives_28 ⟨Nat.le_of_ble_eq_true rfl, Nat.le_of_ble_eq_true rfl⟩) hP hD hS hA [0, 1] [] rfl rfl (by decide) (by decide) (fun u H locs hw hP hD hS hK1 => ?_)
              obtain ⟨f1, n2⟩ := u
              have hB3 : isB f1 n2 (V * 5 ^ (cn - (d - 1))) := by have h9 : isB _ _ (V * 5 ^ (cn - d) * 5 ^ 1 + 0) := hw; rw [five_next hd (by omega)] at h9; exact h9
              have hP : va_P D vcl [(h, .inr (0, [.ref a, .int (nI n2)])), (a, .inl (cA, 96, .inl f1))] H := hP
              have hD : va_D A [(h, .inr (0, [.ref a, .int (nI n2)])), (a, .inl (cA, 96, .inl f1))] := hD
              refine lv_iinc (v := nI (d - 1)) (lv' := [(2, .int (nI (d - 1))), (0, .ref h)]) hx hb d_Big_timesFives_31 hl (k := 1) rfl (by show nI d + zI (-1) = _; rw [← zI_nI, ← zI_nI, zI_add]; congr 1; omega) (by decide) rfl (fun ls hl => ?_)
              refine lv_goto (tgt := 21) hx hb d_Big_timesFives_34 (by decide) ?_
              exact ih (d - 1) f1 n2 (by omega) (by omega) (hB3) _ _ _ (hP.sub [0, 1] rfl) (hD.sub [0, 1] (by decide) rfl) hS (lv_sub hl [1, 0] rfl)
        exact L21 (d + 1) d g k (by omega) (hd) (hG) _ _ _ (hP.sub [0, 1] rfl) (hD.sub [0, 1] (by decide) rfl) hS (lv_sub hl [0, 1] rfl)
      · have e5 : 13 ≤ d := Nat.le_of_not_lt (fun z => c5 ((nI_ltI (b := 13) (by omega) (by decide)).mpr z))
        refine lv_aload_n hx hb d_Big_timesFives_8 rfl (lv_at hl 0 rfl) ?_
        refine lv_ldc hx hb hown (hts _ kK_Big_28) d_Big_timesFives_9 ?_
        refine tv_i (nI (5 ^ 13)) (by decide) ?_
        refine lv_iconst (v := 0) hx hb d_Big_timesFives_11 (by decide) ?_
        refine tv_i (nI 0) (rfl) ?_
        refine ca_v [] (va_runV (As := [.int (nI (5 ^ 13)), .int (nI 0)]) (rest := []) ⟨hx, hb, hml, hown, hts⟩ (c_Big_timesPlus l D E h a cA g k (V * 5 ^ (cn - d)) (5 ^ 13) 0 hG (by decide) (by decide) (by decide) (five_fit hfit hd (by omega)) H.size) (xV 2 hts kC_Big_timesPlus kM_Big_29 kI_Big_timesPlus kS_Big_timesPlus kN_Big rfl rfl (by decide +kernel) ⟨Nat.le_of_ble_eq_true rfl, Nat.le_of_ble_eq_true rfl⟩) ⟨ct_blind hev, va_recv hK hP (ci := 0) (q0 := 0) rfl rfl, ct_pre hev hP hK hD hS hA hE [0, 1] rfl (by decide) [0] rfl⟩ rfl rfl hl.1 rfl (lv_room (Nat.le_of_ble_eq_true rfl)) d_Big_timesFives_12 ⟨Nat.le_of_ble_eq_true rfl, Nat.le_of_ble_eq_true rfl⟩) hP hD hS hA [0, 1] [] rfl rfl (by decide) (by decide) (fun u H locs hw hP hD hS hK1 => ?_)
        obtain ⟨f4, n5⟩ := u
        have hB6 : isB f4 n5 (V * 5 ^ (cn - (d - 13))) := by have h9 : isB _ _ (V * 5 ^ (cn - d) * 5 ^ 13 + 0) := hw; rw [five_next hd (by omega)] at h9; exact h9
        have hP : va_P D vcl [(h, .inr (0, [.ref a, .int (nI n5)])), (a, .inl (cA, 96, .inl f4))] H := hP
        have hD : va_D A [(h, .inr (0, [.ref a, .int (nI n5)])), (a, .inl (cA, 96, .inl f4))] := hD
        refine lv_iinc (v := nI (d - 13)) (lv' := [(2, .int (nI (d - 13))), (0, .ref h)]) hx hb d_Big_timesFives_15 hl (k := 1) rfl (by show nI d + zI (-13) = _; rw [← zI_nI, ← zI_nI, zI_add]; congr 1; omega) (by decide) rfl (fun ls hl => ?_)
        refine lv_goto (tgt := 2) hx hb d_Big_timesFives_18 (by decide) ?_
        exact ih (d - 13) f4 n5 (by omega) (by omega) (hB6) _ _ _ (hP.sub [0, 1] rfl) (hD.sub [0, 1] (by decide) rfl) hS (lv_sub hl [1, 0] rfl)
  exact L2 (cn + 1) cn f n (by omega) (Nat.le_refl _) (by rw [Nat.sub_self, Nat.pow_zero, Nat.mul_one]; exact hB) _ _ _ (hP.sub [0, 1] rfl) (hD.sub [0, 1] (by decide) rfl) hS (lv_sub hl [1, 0] rfl)

set_option maxHeartbeats 4000000 in
set_option maxRecDepth 100000 in
theorem c_Big_shiftLeft (l : Launch) (D : va_G) (E : evD) (h a : Nat) (cA : ClassId) (f : Nat → Int32) (n : Nat) (V cn : Nat) (hB : isB f n V) (hc31 : cn < 2147483648) (hfit : n + cn / 32 < 96) : Cv (S := (Nat → Int32) × Nat) l y_Big_shiftLeft (wz y_Big_shiftLeft b_Big_shiftLeft 9 none) ({ frames := 1, cells := 0, slots := 0, locals := 20 }) D vcl (ev1 E) [.ref h, .int (nI cn)] [(cA, .int)] [(h, .inr (0, [.ref a, .int (nI n)])), (a, .inl (cA, 96, .inl f))] 0 0 (fun u : (Nat → Int32) × Nat => isB u.1 u.2 (V * 2 ^ cn)) (fun _ => [(cA, .int)]) (fun u : (Nat → Int32) × Nat => [(h, .inr (0, [.ref a, .int (nI u.2)])), (a, .inl (cA, 96, .inl u.1))]) := by
  have hev := ev1_ok E
  unfold Cv
  refine ct_of (y := y_Big_shiftLeft) (av := [.ref h, .int (nI cn)]) (cc := b_Big_shiftLeft) (maxL := 9) (ret := none) (Qc := fun A => va_Qv (S := (Nat → Int32) × Nat) (fun u : (Nat → Int32) × Nat => isB u.1 u.2 (V * 2 ^ cn)) (fun u t => ctB D vcl ((fun _ => [(cA, .int)]) u) ((fun u : (Nat → Int32) × Nat => [(h, .inr (0, [.ref a, .int (nI u.2)])), (a, .inl (cA, 96, .inl u.1))]) u) A t) A) (by decide) rfl (Nat.le_of_ble_eq_true rfl) ?_
  intro p e s m below meth cde ls A H locs hx hb hml hrt hlocks hown hin hts hA hP hK hD hS hE hl
  have hown : s.vm.findClass R_Big = some m.cls := hown
  have hts := wz_g hts
  have hl : lv_has ls 9 [(0, .ref h), (1, .int (nI cn))] := hl
  have hn96 := hB.2.1
  refine lv_iload_n hx hb d_Big_shiftLeft_0 rfl (lv_at hl 1 rfl) ?_
  refine lv_iconst (v := 5) hx hb d_Big_shiftLeft_1 (by decide) ?_
  refine lv_ishr hx hb d_Big_shiftLeft_2 ?_
  refine tv_i (nI (cn / 32)) (pk_shrN (by omega) _ 5 (by decide)) ?_
  refine lv_istore_n (lv' := [(2, .int (nI (cn / 32))), (0, .ref h), (1, .int (nI cn))]) hx hb d_Big_shiftLeft_3 rfl hl (by decide) rfl (fun ls hl => ?_)
  refine lv_iload_n hx hb d_Big_shiftLeft_4 rfl (lv_at hl 2 rfl) ?_
  refine lv_bipush (v := 31) hx hb d_Big_shiftLeft_5 (by decide) ?_
  refine lv_iand hx hb d_Big_shiftLeft_7 ?_
  refine tv_i (nI (cn % 32)) (pk_andN (by omega) 5 (by decide)) ?_
  refine lv_istore_n (lv' := [(3, .int (nI (cn % 32))), (2, .int (nI (cn / 32))), (0, .ref h), (1, .int (nI cn))]) hx hb d_Big_shiftLeft_8 rfl hl (by decide) rfl (fun ls hl => ?_)
  refine lv_iload_n hx hb d_Big_shiftLeft_9 rfl (lv_at hl 3 rfl) ?_
  refine lv_if_le (tgt := 27) hx hb d_Big_shiftLeft_10 (by decide) (fun c10 => ?_) (fun c10 => ?_)
  · have e10 : cn = 0 := (nI_le0 (by omega)).mp c10
    exact rt_v hx hb hrt hlocks ((f, n)) (by rw [e10, Nat.pow_zero, Nat.mul_one]; exact hB) (hP.sub [0, 1] rfl) (hK.sub [0] rfl) (hD.sub [0, 1] (by decide) rfl) hS d_Big_shiftLeft_27
  · have e10 : 0 < cn := Nat.pos_of_ne_zero (fun z => c10 ((nI_le0 (by omega)).mpr z))
    refine lv_aload_n hx hb d_Big_shiftLeft_13 rfl (lv_at hl 2 rfl) ?_
    refine va_get (D := D) (ci := 0) (v := .int (nI n)) (C := R_Big) (T := F_Big) (N := 2) hx hb hts w_Big hown hK hP 0 rfl rfl 1 (by decide) (hts _ kF_Big_13) (fun _ h9 => h9) rfl d_Big_shiftLeft_14 ?_
    refine lv_iload_n hx hb d_Big_shiftLeft_17 rfl (lv_at hl 1 rfl) ?_
    refine lv_iadd hx hb d_Big_shiftLeft_18 ?_
    refine tv_i (nI (n + cn / 32)) (nI_add _ _) ?_
    refine lv_aload_n hx hb d_Big_shiftLeft_19 rfl (lv_at hl 2 rfl) ?_
    refine va_get (D := D) (ci := 0) (v := .ref a) (C := R_Big) (T := F_Big) (N := 2) hx hb hts w_Big hown hK hP 0 rfl rfl 0 (by decide) (hts _ kF_Big_9) (fun _ h9 => h9) rfl d_Big_shiftLeft_20 ?_
    refine va_alen hx hb hK hP 1 0 rfl rfl (v := 96) rfl d_Big_shiftLeft_23 ?_
    refine lv_icmp_lt (tgt := 28) hx hb d_Big_shiftLeft_24 (by decide) (fun c24 => ?_) (fun c24 => ?_)
    · refine lv_aload_n hx hb d_Big_shiftLeft_28 rfl (lv_at hl 2 rfl) ?_
      refine va_get (D := D) (ci := 0) (v := .int (nI n)) (C := R_Big) (T := F_Big) (N := 2) hx hb hts w_Big hown hK hP 0 rfl rfl 1 (by decide) (hts _ kF_Big_13) (fun _ h9 => h9) rfl d_Big_shiftLeft_29 ?_
      refine tv_i (nI (n + 1) - 1) ((nI_pred n).symm) ?_
      refine lv_istore (lv' := [(4, .int (nI (n + 1) - 1)), (3, .int (nI (cn % 32))), (2, .int (nI (cn / 32))), (0, .ref h), (1, .int (nI cn))]) hx hb d_Big_shiftLeft_32 hl (by decide) rfl (fun ls hl => ?_)
      have L34 : ∀ (kk : Nat) (k : Nat) (g : Nat → Int32), k < kk → (k ≤ n + 1) → (∀ j, j < k → g j = f j) → (∀ j, k ≤ j → j ≤ n → g (j + cn / 32) = sh_f f n (cn % 32) j) → ∀ (H : Heap) (locs : List Loc) (ls : Array Slot), va_P D vcl [(h, .inr (0, [.ref a, .int (nI n)])), (a, .inl (cA, 96, .inl g))] H → va_D A [(h, .inr (0, [.ref a, .int (nI n)])), (a, .inl (cA, 96, .inl g))] → va_S A s.heap H locs → lv_has ls 9 [(0, .ref h), (2, .int (nI (cn / 32))), (3, .int (nI (cn % 32))), (4, .int (nI k - 1))] → W p l e ({ frames := 1, cells := 0, slots := 0, locals := 20 }) s m ([.ref h, .int (nI cn)] : List Value).toArray below meth cde H locs 0 0 (MQ below (va_Qv (S := (Nat → Int32) × Nat) (fun u : (Nat → Int32) × Nat => isB u.1 u.2 (V * 2 ^ cn)) (fun u t => ctB D vcl ((fun _ => [(cA, .int)]) u) ((fun u : (Nat → Int32) × Nat => [(h, .inr (0, [.ref a, .int (nI u.2)])), (a, .inl (cA, 96, .inl u.1))]) u) A t) A) ([.ref h, .int (nI cn)] : List Value).toArray s 0 0 A) (F0 m 34 ls []) := by
        intro kk
        induction kk with
        | zero => intro k g hmz; exact absurd hmz (Nat.not_lt_zero _)
        | succ kk ih =>
          intro k g hmz hk hg hs H locs ls hP hD hS hl
          refine lv_iload hx hb d_Big_shiftLeft_34 (lv_at hl 3 rfl) ?_
          refine lv_if_lt (tgt := 120) hx hb d_Big_shiftLeft_36 (by decide) (fun c36 => ?_) (fun c36 => ?_)
          · have e36 : k = 0 := (nI_m1lt (by omega)).mp c36
            refine lv_iconst (v := 0) hx hb d_Big_shiftLeft_120 (by decide) ?_
            refine tv_i (nI 0) (rfl) ?_
            refine lv_istore (lv' := [(4, .int (nI 0)), (0, .ref h), (2, .int (nI (cn / 32))), (3, .int (nI (cn % 32)))]) hx hb d_Big_shiftLeft_121 hl (by decide) rfl (fun ls hl => ?_)
            have L123 : ∀ (kk : Nat) (i : Nat) (q : Nat → Int32), cn / 32 - i < kk → (i ≤ cn / 32) → (∀ j, j < i → q j = 0) → (∀ j, j ≤ n → q (j + cn / 32) = sh_f f n (cn % 32) j) → ∀ (H : Heap) (locs : List Loc) (ls : Array Slot), va_P D vcl [(h, .inr (0, [.ref a, .int (nI n)])), (a, .inl (cA, 96, .inl q))] H → va_D A [(h, .inr (0, [.ref a, .int (nI n)])), (a, .inl (cA, 96, .inl q))] → va_S A s.heap H locs → lv_has ls 9 [(0, .ref h), (2, .int (nI (cn / 32))), (4, .int (nI i))] → W p l e ({ frames := 1, cells := 0, slots := 0, locals := 20 }) s m ([.ref h, .int (nI cn)] : List Value).toArray below meth cde H locs 0 0 (MQ below (va_Qv (S := (Nat → Int32) × Nat) (fun u : (Nat → Int32) × Nat => isB u.1 u.2 (V * 2 ^ cn)) (fun u t => ctB D vcl ((fun _ => [(cA, .int)]) u) ((fun u : (Nat → Int32) × Nat => [(h, .inr (0, [.ref a, .int (nI u.2)])), (a, .inl (cA, 96, .inl u.1))]) u) A t) A) ([.ref h, .int (nI cn)] : List Value).toArray s 0 0 A) (F0 m 123 ls []) := by
              intro kk
              induction kk with
              | zero => intro i q hmz; exact absurd hmz (Nat.not_lt_zero _)
              | succ kk ih =>
                intro i q hmz hi hz hs2 H locs ls hP hD hS hl
                refine lv_iload hx hb d_Big_shiftLeft_123 (lv_at hl 2 rfl) ?_
                refine lv_iload_n hx hb d_Big_shiftLeft_125 rfl (lv_at hl 1 rfl) ?_
                refine lv_icmp_ge (tgt := 143) hx hb d_Big_shiftLeft_126 (by decide) (fun c126 => ?_) (fun c126 => ?_)
                · have e126 : i = cn / 32 := by have := (nI_leI (by omega) (by omega)).mp c126; omega
                  rw [e126] at hz
                  refine lv_aload_n hx hb d_Big_shiftLeft_143 rfl (lv_at hl 0 rfl) ?_
                  refine lv_dup hx hb d_Big_shiftLeft_144 rfl ?_
                  refine va_get (D := D) (ci := 0) (v := .int (nI n)) (C := R_Big) (T := F_Big) (N := 2) hx hb hts w_Big hown hK hP 0 rfl rfl 1 (by decide) (hts _ kF_Big_13) (fun _ h9 => h9) rfl d_Big_shiftLeft_145 ?_
                  refine lv_iload_n hx hb d_Big_shiftLeft_148 rfl (lv_at hl 1 rfl) ?_
                  refine lv_iconst (v := 1) hx hb d_Big_shiftLeft_149 (by decide) ?_
                  refine lv_iadd hx hb d_Big_shiftLeft_150 ?_
                  refine tv_i (nI (cn / 32 + 1)) (nI_1 _) ?_
                  refine lv_iadd hx hb d_Big_shiftLeft_151 ?_
                  refine tv_i (nI (n + (cn / 32 + 1))) (nI_add _ _) ?_
                  refine va_put (D := D) (ci := 0) (v := .int (nI (n + (cn / 32 + 1)))) (ty := .int) (C := R_Big) (T := F_Big) (N := 2) hx hb hts w_Big t_Big tk_Big n_Big hown hK hP hD hS 0 rfl rfl 1 (by decide) (hts _ kF_Big_13) (fun _ h9 => h9) rfl (by decide +kernel) (rfl) (rfl) (Nat.le_of_ble_eq_true rfl) d_Big_shiftLeft_152 (fun H locs hP hD hS => ?_)
                  have hP : va_P D vcl [(h, .inr (0, [.ref a, .int (nI (n + (cn / 32 + 1)))])), (a, .inl (cA, 96, .inl q))] H := hP
                  have hD : va_D A [(h, .inr (0, [.ref a, .int (nI (n + (cn / 32 + 1)))])), (a, .inl (cA, 96, .inl q))] := hD
                  refine lv_aload_n hx hb d_Big_shiftLeft_155 rfl (lv_at hl 0 rfl) ?_
                  refine ca_v [] (va_runV (As := []) (rest := []) ⟨hx, hb, hml, hown, hts⟩ (c_Big_dropZeros l D E h a cA q (n + (cn / 32 + 1)) (by omega) H.size) (xV 0 hts kC_Big_dropZeros kM_Big_17 kI_Big_dropZeros kS_Big_dropZeros kN_Big rfl rfl (by decide +kernel) ⟨Nat.le_of_ble_eq_true rfl, Nat.le_of_ble_eq_true rfl⟩) ⟨ct_blind hev, va_recv hK hP (ci := 0) (q0 := 0) rfl rfl, ct_pre hev hP hK hD hS hA hE [0, 1] rfl (by decide) [0] rfl⟩ rfl rfl hl.1 rfl (lv_room (Nat.le_of_ble_eq_true rfl)) d_Big_shiftLeft_156 ⟨Nat.le_of_ble_eq_true rfl, Nat.le_of_ble_eq_true rfl⟩) hP hD hS hA [0, 1] [] rfl rfl (by decide) (by decide) (fun u H locs hw hP hD hS hK1 => ?_)
                  obtain ⟨k1, rfl⟩ : ∃ z, z = u := ⟨_, rfl⟩
                  have hP : va_P D vcl [(h, .inr (0, [.ref a, .int (nI k1)])), (a, .inl (cA, 96, .inl q))] H := hP
                  have hD : va_D A [(h, .inr (0, [.ref a, .int (nI k1)])), (a, .inl (cA, 96, .inl q))] := hD
                  exact rt_v hx hb hrt hlocks ((q, k1)) (⟨hw.1.trans (sh_bv hB.1 hz hs2), by have := hw.2.1; omega, hw.2.2⟩) (hP.sub [0, 1] rfl) (hK.sub [0] rfl) (hD.sub [0, 1] (by decide) rfl) hS d_Big_shiftLeft_159
                · have e126 : i < cn / 32 := Nat.lt_of_not_le (fun z => c126 ((nI_leI (by omega) (by omega)).mpr z))
                  refine lv_aload_n hx hb d_Big_shiftLeft_129 rfl (lv_at hl 0 rfl) ?_
                  refine va_get (D := D) (ci := 0) (v := .ref a) (C := R_Big) (T := F_Big) (N := 2) hx hb hts w_Big hown hK hP 0 rfl rfl 0 (by decide) (hts _ kF_Big_9) (fun _ h9 => h9) rfl d_Big_shiftLeft_130 ?_
                  refine lv_iload hx hb d_Big_shiftLeft_133 (lv_at hl 2 rfl) ?_
                  refine lv_iconst (v := 0) hx hb d_Big_shiftLeft_135 (by decide) ?_
                  refine va_iast hx hb hK hP hD hS 1 0 rfl rfl (i := nI i) (vp_in_nI (show i < 96 by omega) (by decide)) d_Big_shiftLeft_136 (fun H locs hP hD hS => ?_)
                  have hP : va_P D vcl [(h, .inr (0, [.ref a, .int (nI n)])), (a, .inl (cA, 96, .inl (upd q (nI i).toNatClampNeg 0)))] H := hP
                  have hD : va_D A [(h, .inr (0, [.ref a, .int (nI n)])), (a, .inl (cA, 96, .inl (upd q (nI i).toNatClampNeg 0)))] := hD
                  rw [show upd q (nI i).toNatClampNeg 0 = upd q i 0 from by rw [nI_clamp (by omega)]] at hP hD
                  refine lv_iinc (v := nI (i + 1)) (lv' := [(4, .int (nI (i + 1))), (0, .ref h), (2, .int (nI (cn / 32)))]) hx hb d_Big_shiftLeft_137 hl (k := 2) rfl (nI_1 i) (by decide) rfl (fun ls hl => ?_)
                  refine lv_goto (tgt := 123) hx hb d_Big_shiftLeft_140 (by decide) ?_
                  exact ih (i + 1) (upd q i 0) (by omega) (by omega) (fun j hj => by by_cases h9 : j = i; (· rw [h9, pk_us]); rw [pk_un h9]; exact hz j (by omega)) (fun j hj => by rw [pk_un (by omega)]; exact hs2 j hj) _ _ _ (hP.sub [0, 1] rfl) (hD.sub [0, 1] (by decide) rfl) hS (lv_sub hl [1, 2, 0] rfl)
            exact L123 (cn / 32 + 1) 0 g (by omega) (Nat.zero_le _) (fun j hj => absurd hj (Nat.not_lt_zero j)) (fun j hj => hs j (by omega) hj) _ _ _ (hP.sub [0, 1] rfl) (hD.sub [0, 1] (by decide) rfl) hS (lv_sub hl [1, 2, 0] rfl)
          · have e36 : 0 < k := Nat.pos_of_ne_zero (fun z => c36 ((nI_m1lt (by omega)).mpr z))
            have hhi : sh_hi f n (k - 1) < 4294967296 := by unfold sh_hi; split; (· exact w32_lt _); decide
            have hlo : sh_lo f (k - 1) < 4294967296 := by unfold sh_lo; split; (· exact w32_lt _); decide
            refine lv_iload hx hb d_Big_shiftLeft_39 (lv_at hl 3 rfl) ?_
            refine tv_i (nI (k - 1)) (nI_dec e36) ?_
            refine lv_aload_n hx hb d_Big_shiftLeft_41 rfl (lv_at hl 0 rfl) ?_
            refine va_get (D := D) (ci := 0) (v := .int (nI n)) (C := R_Big) (T := F_Big) (N := 2) hx hb hts w_Big hown hK hP 0 rfl rfl 1 (by decide) (hts _ kF_Big_13) (fun _ h9 => h9) rfl d_Big_shiftLeft_42 ?_
            refine lv_icmp_ge (tgt := 63) hx hb d_Big_shiftLeft_45 (by decide) (fun c45 => ?_) (fun c45 => ?_)
            · have e45 : n ≤ k - 1 := (nI_leI (by omega) (by omega)).mp c45
              refine lv_lconst (v := 0) hx hb d_Big_shiftLeft_63 (by decide) ?_
              refine tv_l (lN (sh_hi f n (k - 1))) (by unfold sh_hi; rw [if_neg (by omega)]; rfl) ?_
              refine lv_lstore (lv' := [(5, .long (lN (sh_hi f n (k - 1)))), (0, .ref h), (2, .int (nI (cn / 32))), (3, .int (nI (cn % 32))), (4, .int (nI k - 1))]) hx hb d_Big_shiftLeft_64 hl (by decide) rfl (fun ls hl => ?_)
              refine lv_iload hx hb d_Big_shiftLeft_66 (lv_at hl 4 rfl) ?_
              refine tv_i (nI (k - 1)) (nI_dec e36) ?_
              refine lv_if_le (tgt := 88) hx hb d_Big_shiftLeft_68 (by decide) (fun c68 => ?_) (fun c68 => ?_)
              · have e68 : k - 1 = 0 := (nI_le0 (by omega)).mp c68
                refine lv_lconst (v := 0) hx hb d_Big_shiftLeft_88 (by decide) ?_
                refine tv_l (lN (sh_lo f (k - 1))) (by unfold sh_lo; rw [if_neg (by omega)]; rfl) ?_
                refine lv_lstore (lv' := [(7, .long (lN (sh_lo f (k - 1)))), (5, .long (lN (sh_hi f n (k - 1)))), (0, .ref h), (2, .int (nI (cn / 32))), (3, .int (nI (cn % 32))), (4, .int (nI k - 1))]) hx hb d_Big_shiftLeft_89 hl (by decide) rfl (fun ls hl => ?_)
                refine lv_aload_n hx hb d_Big_shiftLeft_91 rfl (lv_at hl 2 rfl) ?_
                refine va_get (D := D) (ci := 0) (v := .ref a) (C := R_Big) (T := F_Big) (N := 2) hx hb hts w_Big hown hK hP 0 rfl rfl 0 (by decide) (hts _ kF_Big_9) (fun _ h9 => h9) rfl d_Big_shiftLeft_92 ?_
                refine lv_iload hx hb d_Big_shiftLeft_95 (lv_at hl 5 rfl) ?_
                refine tv_i (nI (k - 1)) (nI_dec e36) ?_
                refine lv_iload_n hx hb d_Big_shiftLeft_97 rfl (lv_at hl 3 rfl) ?_
                refine lv_iadd hx hb d_Big_shiftLeft_98 ?_
                refine tv_i (nI (k - 1 + cn / 32)) (nI_add _ _) ?_
                refine lv_lload hx hb d_Big_shiftLeft_99 (lv_at hl 1 rfl) ?_
                refine lv_bipush (v := 32) hx hb d_Big_shiftLeft_101 (by decide) ?_
                refine lv_lshl (v := lN (sh_hi f n (k - 1) * 4294967296)) hx hb d_Big_shiftLeft_103 (wb_shl _ (k := 32) (by decide)) ?_
                refine lv_lload hx hb d_Big_shiftLeft_104 (lv_at hl 0 rfl) ?_
                refine lv_lor hx hb d_Big_shiftLeft_106 ?_
                refine tv_l (lN (sh_hi f n (k - 1) * 4294967296 + sh_lo f (k - 1))) (or_l hlo hhi) ?_
                refine lv_iload_n hx hb d_Big_shiftLeft_107 rfl (lv_at hl 4 rfl) ?_
                refine lv_lshl (v := (lN (sh_hi f n (k - 1) * 4294967296 + sh_lo f (k - 1))) <<< ((nI (cn % 32)).toInt64 &&& 63)) hx hb d_Big_shiftLeft_108 (rfl) ?_
                refine lv_bipush (v := 32) hx hb d_Big_shiftLeft_109 (by decide) ?_
                refine lv_lushr (v := lN (sh_nw f n (cn % 32) (k - 1))) hx hb d_Big_shiftLeft_111 (sh_long (Nat.mod_lt _ (by decide))) ?_
                refine lv_l2i (v := (lN (sh_nw f n (cn % 32) (k - 1))).toInt32) hx hb d_Big_shiftLeft_112 (rfl) ?_
                refine tv_i (nI (sh_nw f n (cn % 32) (k - 1))) (lN_i _) ?_
                refine va_iast hx hb hK hP hD hS 1 0 rfl rfl (i := nI (k - 1 + cn / 32)) (vp_in_nI (show k - 1 + cn / 32 < 96 by omega) (by decide)) d_Big_shiftLeft_113 (fun H locs hP hD hS => ?_)
                have hP : va_P D vcl [(h, .inr (0, [.ref a, .int (nI n)])), (a, .inl (cA, 96, .inl (upd g (nI (k - 1 + cn / 32)).toNatClampNeg (nI (sh_nw f n (cn % 32) (k - 1))))))] H := hP
                have hD : va_D A [(h, .inr (0, [.ref a, .int (nI n)])), (a, .inl (cA, 96, .inl (upd g (nI (k - 1 + cn / 32)).toNatClampNeg (nI (sh_nw f n (cn % 32) (k - 1))))))] := hD
                rw [show upd g (nI (k - 1 + cn / 32)).toNatClampNeg (nI (sh_nw f n (cn % 32) (k - 1))) = upd g (k - 1 + cn / 32) (nI (sh_nw f n (cn % 32) (k - 1))) from by rw [nI_clamp (by omega)]] at hP hD
                refine lv_iinc (v := nI (k - 1) - 1) (lv' := [(4, .int (nI (k - 1) - 1)), (7, .long (lN (sh_lo f (k - 1)))), (5, .long (lN (sh_hi f n (k - 1)))), (0, .ref h), (2, .int (nI (cn / 32))), (3, .int (nI (cn % 32)))]) hx hb d_Big_shiftLeft_114 hl (k := 5) rfl (nI_dn e36) (by decide) rfl (fun ls hl => ?_)
                refine lv_goto (tgt := 34) hx hb d_Big_shiftLeft_117 (by decide) ?_
                exact ih (k - 1) (upd g (k - 1 + cn / 32) (nI (sh_nw f n (cn % 32) (k - 1)))) (by omega) (by omega) ((sh_step e36 hg hs).1) ((sh_step e36 hg hs).2) _ _ _ (hP.sub [0, 1] rfl) (hD.sub [0, 1] (by decide) rfl) hS (lv_sub hl [3, 4, 5, 0] rfl)
              · have e68 : 0 < k - 1 := Nat.pos_of_ne_zero (fun z => c68 ((nI_le0 (by omega)).mpr z))
                refine lv_aload_n hx hb d_Big_shiftLeft_71 rfl (lv_at hl 1 rfl) ?_
                refine va_get (D := D) (ci := 0) (v := .ref a) (C := R_Big) (T := F_Big) (N := 2) hx hb hts w_Big hown hK hP 0 rfl rfl 0 (by decide) (hts _ kF_Big_9) (fun _ h9 => h9) rfl d_Big_shiftLeft_72 ?_
                refine lv_iload hx hb d_Big_shiftLeft_75 (lv_at hl 4 rfl) ?_
                refine tv_i (nI (k - 1)) (nI_dec e36) ?_
                refine lv_iconst (v := 1) hx hb d_Big_shiftLeft_77 (by decide) ?_
                refine lv_isub hx hb d_Big_shiftLeft_78 ?_
                refine tv_i (nI (k - 1 - 1)) (nI_dec e68) ?_
                refine va_iald hx hb hK hP 1 0 rfl rfl (i := nI (k - 1 - 1)) (vp_in_nI (show k - 1 - 1 < 96 by omega) (by decide)) d_Big_shiftLeft_79 ?_
                refine tv_i (g (k - 1 - 1)) (by rw [nI_clamp (by omega)]) ?_
                refine lv_i2l (v := (g (k - 1 - 1)).toInt64) hx hb d_Big_shiftLeft_80 (rfl) ?_
                refine lv_ldc2 hx hb hown (hts _ kK_Big_20) d_Big_shiftLeft_81 ?_
                refine lv_land hx hb d_Big_shiftLeft_84 ?_
                refine tv_l (lN (sh_lo f (k - 1))) (by unfold sh_lo; rw [if_pos e68, ← hg (k - 1 - 1) (by omega)]; exact lim _) ?_
                refine lv_goto (tgt := 89) hx hb d_Big_shiftLeft_85 (by decide) ?_
                refine lv_lstore (lv' := [(7, .long (lN (sh_lo f (k - 1)))), (5, .long (lN (sh_hi f n (k - 1)))), (0, .ref h), (2, .int (nI (cn / 32))), (3, .int (nI (cn % 32))), (4, .int (nI k - 1))]) hx hb d_Big_shiftLeft_89 hl (by decide) rfl (fun ls hl => ?_)
                refine lv_aload_n hx hb d_Big_shiftLeft_91 rfl (lv_at hl 2 rfl) ?_
                refine va_get (D := D) (ci := 0) (v := .ref a) (C := R_Big) (T := F_Big) (N := 2) hx hb hts w_Big hown hK hP 0 rfl rfl 0 (by decide) (hts _ kF_Big_9) (fun _ h9 => h9) rfl d_Big_shiftLeft_92 ?_
                refine lv_iload hx hb d_Big_shiftLeft_95 (lv_at hl 5 rfl) ?_
                refine tv_i (nI (k - 1)) (nI_dec e36) ?_
                refine lv_iload_n hx hb d_Big_shiftLeft_97 rfl (lv_at hl 3 rfl) ?_
                refine lv_iadd hx hb d_Big_shiftLeft_98 ?_
                refine tv_i (nI (k - 1 + cn / 32)) (nI_add _ _) ?_
                refine lv_lload hx hb d_Big_shiftLeft_99 (lv_at hl 1 rfl) ?_
                refine lv_bipush (v := 32) hx hb d_Big_shiftLeft_101 (by decide) ?_
                refine lv_lshl (v := lN (sh_hi f n (k - 1) * 4294967296)) hx hb d_Big_shiftLeft_103 (wb_shl _ (k := 32) (by decide)) ?_
                refine lv_lload hx hb d_Big_shiftLeft_104 (lv_at hl 0 rfl) ?_
                refine lv_lor hx hb d_Big_shiftLeft_106 ?_
                refine tv_l (lN (sh_hi f n (k - 1) * 4294967296 + sh_lo f (k - 1))) (or_l hlo hhi) ?_
                refine lv_iload_n hx hb d_Big_shiftLeft_107 rfl (lv_at hl 4 rfl) ?_
                refine lv_lshl (v := (lN (sh_hi f n (k - 1) * 4294967296 + sh_lo f (k - 1))) <<< ((nI (cn % 32)).toInt64 &&& 63)) hx hb d_Big_shiftLeft_108 (rfl) ?_
                refine lv_bipush (v := 32) hx hb d_Big_shiftLeft_109 (by decide) ?_
                refine lv_lushr (v := lN (sh_nw f n (cn % 32) (k - 1))) hx hb d_Big_shiftLeft_111 (sh_long (Nat.mod_lt _ (by decide))) ?_
                refine lv_l2i (v := (lN (sh_nw f n (cn % 32) (k - 1))).toInt32) hx hb d_Big_shiftLeft_112 (rfl) ?_
                refine tv_i (nI (sh_nw f n (cn % 32) (k - 1))) (lN_i _) ?_
                refine va_iast hx hb hK hP hD hS 1 0 rfl rfl (i := nI (k - 1 + cn / 32)) (vp_in_nI (show k - 1 + cn / 32 < 96 by omega) (by decide)) d_Big_shiftLeft_113 (fun H locs hP hD hS => ?_)
                have hP : va_P D vcl [(h, .inr (0, [.ref a, .int (nI n)])), (a, .inl (cA, 96, .inl (upd g (nI (k - 1 + cn / 32)).toNatClampNeg (nI (sh_nw f n (cn % 32) (k - 1))))))] H := hP
                have hD : va_D A [(h, .inr (0, [.ref a, .int (nI n)])), (a, .inl (cA, 96, .inl (upd g (nI (k - 1 + cn / 32)).toNatClampNeg (nI (sh_nw f n (cn % 32) (k - 1))))))] := hD
                rw [show upd g (nI (k - 1 + cn / 32)).toNatClampNeg (nI (sh_nw f n (cn % 32) (k - 1))) = upd g (k - 1 + cn / 32) (nI (sh_nw f n (cn % 32) (k - 1))) from by rw [nI_clamp (by omega)]] at hP hD
                refine lv_iinc (v := nI (k - 1) - 1) (lv' := [(4, .int (nI (k - 1) - 1)), (7, .long (lN (sh_lo f (k - 1)))), (5, .long (lN (sh_hi f n (k - 1)))), (0, .ref h), (2, .int (nI (cn / 32))), (3, .int (nI (cn % 32)))]) hx hb d_Big_shiftLeft_114 hl (k := 5) rfl (nI_dn e36) (by decide) rfl (fun ls hl => ?_)
                refine lv_goto (tgt := 34) hx hb d_Big_shiftLeft_117 (by decide) ?_
                exact ih (k - 1) (upd g (k - 1 + cn / 32) (nI (sh_nw f n (cn % 32) (k - 1)))) (by omega) (by omega) ((sh_step e36 hg hs).1) ((sh_step e36 hg hs).2) _ _ _ (hP.sub [0, 1] rfl) (hD.sub [0, 1] (by decide) rfl) hS (lv_sub hl [3, 4, 5, 0] rfl)
            · have e45 : k - 1 < n := Nat.lt_of_not_le (fun z => c45 ((nI_leI (by omega) (by omega)).mpr z))
              refine lv_aload_n hx hb d_Big_shiftLeft_48 rfl (lv_at hl 0 rfl) ?_
              refine va_get (D := D) (ci := 0) (v := .ref a) (C := R_Big) (T := F_Big) (N := 2) hx hb hts w_Big hown hK hP 0 rfl rfl 0 (by decide) (hts _ kF_Big_9) (fun _ h9 => h9) rfl d_Big_shiftLeft_49 ?_
              refine lv_iload hx hb d_Big_shiftLeft_52 (lv_at hl 3 rfl) ?_
              refine tv_i (nI (k - 1)) (nI_dec e36) ?_
              refine va_iald hx hb hK hP 1 0 rfl rfl (i := nI (k - 1)) (vp_in_nI (show k - 1 < 96 by omega) (by decide)) d_Big_shiftLeft_54 ?_
              refine tv_i (g (k - 1)) (by rw [nI_clamp (by omega)]) ?_
              refine lv_i2l (v := (g (k - 1)).toInt64) hx hb d_Big_shiftLeft_55 (rfl) ?_
              refine lv_ldc2 hx hb hown (hts _ kK_Big_20) d_Big_shiftLeft_56 ?_
              refine lv_land hx hb d_Big_shiftLeft_59 ?_
              refine tv_l (lN (sh_hi f n (k - 1))) (by unfold sh_hi; rw [if_pos e45, ← hg (k - 1) (by omega)]; exact lim _) ?_
              refine lv_goto (tgt := 64) hx hb d_Big_shiftLeft_60 (by decide) ?_
              refine lv_lstore (lv' := [(5, .long (lN (sh_hi f n (k - 1)))), (0, .ref h), (2, .int (nI (cn / 32))), (3, .int (nI (cn % 32))), (4, .int (nI k - 1))]) hx hb d_Big_shiftLeft_64 hl (by decide) rfl (fun ls hl => ?_)
              refine lv_iload hx hb d_Big_shiftLeft_66 (lv_at hl 4 rfl) ?_
              refine tv_i (nI (k - 1)) (nI_dec e36) ?_
              refine lv_if_le (tgt := 88) hx hb d_Big_shiftLeft_68 (by decide) (fun c68 => ?_) (fun c68 => ?_)
              · have e68 : k - 1 = 0 := (nI_le0 (by omega)).mp c68
                refine lv_lconst (v := 0) hx hb d_Big_shiftLeft_88 (by decide) ?_
                refine tv_l (lN (sh_lo f (k - 1))) (by unfold sh_lo; rw [if_neg (by omega)]; rfl) ?_
                refine lv_lstore (lv' := [(7, .long (lN (sh_lo f (k - 1)))), (5, .long (lN (sh_hi f n (k - 1)))), (0, .ref h), (2, .int (nI (cn / 32))), (3, .int (nI (cn % 32))), (4, .int (nI k - 1))]) hx hb d_Big_shiftLeft_89 hl (by decide) rfl (fun ls hl => ?_)
                refine lv_aload_n hx hb d_Big_shiftLeft_91 rfl (lv_at hl 2 rfl) ?_
                refine va_get (D := D) (ci := 0) (v := .ref a) (C := R_Big) (T := F_Big) (N := 2) hx hb hts w_Big hown hK hP 0 rfl rfl 0 (by decide) (hts _ kF_Big_9) (fun _ h9 => h9) rfl d_Big_shiftLeft_92 ?_
                refine lv_iload hx hb d_Big_shiftLeft_95 (lv_at hl 5 rfl) ?_
                refine tv_i (nI (k - 1)) (nI_dec e36) ?_
                refine lv_iload_n hx hb d_Big_shiftLeft_97 rfl (lv_at hl 3 rfl) ?_
                refine lv_iadd hx hb d_Big_shiftLeft_98 ?_
                refine tv_i (nI (k - 1 + cn / 32)) (nI_add _ _) ?_
                refine lv_lload hx hb d_Big_shiftLeft_99 (lv_at hl 1 rfl) ?_
                refine lv_bipush (v := 32) hx hb d_Big_shiftLeft_101 (by decide) ?_
                refine lv_lshl (v := lN (sh_hi f n (k - 1) * 4294967296)) hx hb d_Big_shiftLeft_103 (wb_shl _ (k := 32) (by decide)) ?_
                refine lv_lload hx hb d_Big_shiftLeft_104 (lv_at hl 0 rfl) ?_
                refine lv_lor hx hb d_Big_shiftLeft_106 ?_
                refine tv_l (lN (sh_hi f n (k - 1) * 4294967296 + sh_lo f (k - 1))) (or_l hlo hhi) ?_
                refine lv_iload_n hx hb d_Big_shiftLeft_107 rfl (lv_at hl 4 rfl) ?_
                refine lv_lshl (v := (lN (sh_hi f n (k - 1) * 4294967296 + sh_lo f (k - 1))) <<< ((nI (cn % 32)).toInt64 &&& 63)) hx hb d_Big_shiftLeft_108 (rfl) ?_
                refine lv_bipush (v := 32) hx hb d_Big_shiftLeft_109 (by decide) ?_
                refine lv_lushr (v := lN (sh_nw f n (cn % 32) (k - 1))) hx hb d_Big_shiftLeft_111 (sh_long (Nat.mod_lt _ (by decide))) ?_
                refine lv_l2i (v := (lN (sh_nw f n (cn % 32) (k - 1))).toInt32) hx hb d_Big_shiftLeft_112 (rfl) ?_
                refine tv_i (nI (sh_nw f n (cn % 32) (k - 1))) (lN_i _) ?_
                refine va_iast hx hb hK hP hD hS 1 0 rfl rfl (i := nI (k - 1 + cn / 32)) (vp_in_nI (show k - 1 + cn / 32 < 96 by omega) (by decide)) d_Big_shiftLeft_113 (fun H locs hP hD hS => ?_)
                have hP : va_P D vcl [(h, .inr (0, [.ref a, .int (nI n)])), (a, .inl (cA, 96, .inl (upd g (nI (k - 1 + cn / 32)).toNatClampNeg (nI (sh_nw f n (cn % 32) (k - 1))))))] H := hP
                have hD : va_D A [(h, .inr (0, [.ref a, .int (nI n)])), (a, .inl (cA, 96, .inl (upd g (nI (k - 1 + cn / 32)).toNatClampNeg (nI (sh_nw f n (cn % 32) (k - 1))))))] := hD
                rw [show upd g (nI (k - 1 + cn / 32)).toNatClampNeg (nI (sh_nw f n (cn % 32) (k - 1))) = upd g (k - 1 + cn / 32) (nI (sh_nw f n (cn % 32) (k - 1))) from by rw [nI_clamp (by omega)]] at hP hD
                refine lv_iinc (v := nI (k - 1) - 1) (lv' := [(4, .int (nI (k - 1) - 1)), (7, .long (lN (sh_lo f (k - 1)))), (5, .long (lN (sh_hi f n (k - 1)))), (0, .ref h), (2, .int (nI (cn / 32))), (3, .int (nI (cn % 32)))]) hx hb d_Big_shiftLeft_114 hl (k := 5) rfl (nI_dn e36) (by decide) rfl (fun ls hl => ?_)
                refine lv_goto (tgt := 34) hx hb d_Big_shiftLeft_117 (by decide) ?_
                exact ih (k - 1) (upd g (k - 1 + cn / 32) (nI (sh_nw f n (cn % 32) (k - 1)))) (by omega) (by omega) ((sh_step e36 hg hs).1) ((sh_step e36 hg hs).2) _ _ _ (hP.sub [0, 1] rfl) (hD.sub [0, 1] (by decide) rfl) hS (lv_sub hl [3, 4, 5, 0] rfl)
              · have e68 : 0 < k - 1 := Nat.pos_of_ne_zero (fun z => c68 ((nI_le0 (by omega)).mpr z))
                refine lv_aload_n hx hb d_Big_shiftLeft_71 rfl (lv_at hl 1 rfl) ?_
                refine va_get (D := D) (ci := 0) (v := .ref a) (C := R_Big) (T := F_Big) (N := 2) hx hb hts w_Big hown hK hP 0 rfl rfl 0 (by decide) (hts _ kF_Big_9) (fun _ h9 => h9) rfl d_Big_shiftLeft_72 ?_
                refine lv_iload hx hb d_Big_shiftLeft_75 (lv_at hl 4 rfl) ?_
                refine tv_i (nI (k - 1)) (nI_dec e36) ?_
                refine lv_iconst (v := 1) hx hb d_Big_shiftLeft_77 (by decide) ?_
                refine lv_isub hx hb d_Big_shiftLeft_78 ?_
                refine tv_i (nI (k - 1 - 1)) (nI_dec e68) ?_
                refine va_iald hx hb hK hP 1 0 rfl rfl (i := nI (k - 1 - 1)) (vp_in_nI (show k - 1 - 1 < 96 by omega) (by decide)) d_Big_shiftLeft_79 ?_
                refine tv_i (g (k - 1 - 1)) (by rw [nI_clamp (by omega)]) ?_
                refine lv_i2l (v := (g (k - 1 - 1)).toInt64) hx hb d_Big_shiftLeft_80 (rfl) ?_
                refine lv_ldc2 hx hb hown (hts _ kK_Big_20) d_Big_shiftLeft_81 ?_
                refine lv_land hx hb d_Big_shiftLeft_84 ?_
                refine tv_l (lN (sh_lo f (k - 1))) (by unfold sh_lo; rw [if_pos e68, ← hg (k - 1 - 1) (by omega)]; exact lim _) ?_
                refine lv_goto (tgt := 89) hx hb d_Big_shiftLeft_85 (by decide) ?_
                refine lv_lstore (lv' := [(7, .long (lN (sh_lo f (k - 1)))), (5, .long (lN (sh_hi f n (k - 1)))), (0, .ref h), (2, .int (nI (cn / 32))), (3, .int (nI (cn % 32))), (4, .int (nI k - 1))]) hx hb d_Big_shiftLeft_89 hl (by decide) rfl (fun ls hl => ?_)
                refine lv_aload_n hx hb d_Big_shiftLeft_91 rfl (lv_at hl 2 rfl) ?_
                refine va_get (D := D) (ci := 0) (v := .ref a) (C := R_Big) (T := F_Big) (N := 2) hx hb hts w_Big hown hK hP 0 rfl rfl 0 (by decide) (hts _ kF_Big_9) (fun _ h9 => h9) rfl d_Big_shiftLeft_92 ?_
                refine lv_iload hx hb d_Big_shiftLeft_95 (lv_at hl 5 rfl) ?_
                refine tv_i (nI (k - 1)) (nI_dec e36) ?_
                refine lv_iload_n hx hb d_Big_shiftLeft_97 rfl (lv_at hl 3 rfl) ?_
                refine lv_iadd hx hb d_Big_shiftLeft_98 ?_
                refine tv_i (nI (k - 1 + cn / 32)) (nI_add _ _) ?_
                refine lv_lload hx hb d_Big_shiftLeft_99 (lv_at hl 1 rfl) ?_
                refine lv_bipush (v := 32) hx hb d_Big_shiftLeft_101 (by decide) ?_
                refine lv_lshl (v := lN (sh_hi f n (k - 1) * 4294967296)) hx hb d_Big_shiftLeft_103 (wb_shl _ (k := 32) (by decide)) ?_
                refine lv_lload hx hb d_Big_shiftLeft_104 (lv_at hl 0 rfl) ?_
                refine lv_lor hx hb d_Big_shiftLeft_106 ?_
                refine tv_l (lN (sh_hi f n (k - 1) * 4294967296 + sh_lo f (k - 1))) (or_l hlo hhi) ?_
                refine lv_iload_n hx hb d_Big_shiftLeft_107 rfl (lv_at hl 4 rfl) ?_
                refine lv_lshl (v := (lN (sh_hi f n (k - 1) * 4294967296 + sh_lo f (k - 1))) <<< ((nI (cn % 32)).toInt64 &&& 63)) hx hb d_Big_shiftLeft_108 (rfl) ?_
                refine lv_bipush (v := 32) hx hb d_Big_shiftLeft_109 (by decide) ?_
                refine lv_lushr (v := lN (sh_nw f n (cn % 32) (k - 1))) hx hb d_Big_shiftLeft_111 (sh_long (Nat.mod_lt _ (by decide))) ?_
                refine lv_l2i (v := (lN (sh_nw f n (cn % 32) (k - 1))).toInt32) hx hb d_Big_shiftLeft_112 (rfl) ?_
                refine tv_i (nI (sh_nw f n (cn % 32) (k - 1))) (lN_i _) ?_
                refine va_iast hx hb hK hP hD hS 1 0 rfl rfl (i := nI (k - 1 + cn / 32)) (vp_in_nI (show k - 1 + cn / 32 < 96 by omega) (by decide)) d_Big_shiftLeft_113 (fun H locs hP hD hS => ?_)
                have hP : va_P D vcl [(h, .inr (0, [.ref a, .int (nI n)])), (a, .inl (cA, 96, .inl (upd g (nI (k - 1 + cn / 32)).toNatClampNeg (nI (sh_nw f n (cn % 32) (k - 1))))))] H := hP
                have hD : va_D A [(h, .inr (0, [.ref a, .int (nI n)])), (a, .inl (cA, 96, .inl (upd g (nI (k - 1 + cn / 32)).toNatClampNeg (nI (sh_nw f n (cn % 32) (k - 1))))))] := hD
                rw [show upd g (nI (k - 1 + cn / 32)).toNatClampNeg (nI (sh_nw f n (cn % 32) (k - 1))) = upd g (k - 1 + cn / 32) (nI (sh_nw f n (cn % 32) (k - 1))) from by rw [nI_clamp (by omega)]] at hP hD
                refine lv_iinc (v := nI (k - 1) - 1) (lv' := [(4, .int (nI (k - 1) - 1)), (7, .long (lN (sh_lo f (k - 1)))), (5, .long (lN (sh_hi f n (k - 1)))), (0, .ref h), (2, .int (nI (cn / 32))), (3, .int (nI (cn % 32)))]) hx hb d_Big_shiftLeft_114 hl (k := 5) rfl (nI_dn e36) (by decide) rfl (fun ls hl => ?_)
                refine lv_goto (tgt := 34) hx hb d_Big_shiftLeft_117 (by decide) ?_
                exact ih (k - 1) (upd g (k - 1 + cn / 32) (nI (sh_nw f n (cn % 32) (k - 1)))) (by omega) (by omega) ((sh_step e36 hg hs).1) ((sh_step e36 hg hs).2) _ _ _ (hP.sub [0, 1] rfl) (hD.sub [0, 1] (by decide) rfl) hS (lv_sub hl [3, 4, 5, 0] rfl)
      exact L34 (n + 2) (n + 1) f (by omega) (Nat.le_refl _) (fun _ _ => rfl) (fun j h1 h2 => absurd h2 (by omega)) _ _ _ (hP.sub [0, 1] rfl) (hD.sub [0, 1] (by decide) rfl) hS (lv_sub hl [3, 2, 1, 0] rfl)
    · exact absurd ((nI_ltI (b := 96) (by omega) (by decide)).mpr hfit) c24
end
section
/-! THE TWO KINDS: 0 is WIDE, 1 is NARROW -/
def kP (i : Nat) : Nat := if i = 0 then 53 else 24
def kZ (i : Nat) : Nat := if i = 0 then 2045 else 253
def kLw (i : Nat) : Nat := if i = 0 then 1074 else 149
def kB (i : Nat) : Nat := if i = 0 then 63 else 31
def kMd (i : Nat) : Nat := if i = 0 then 770 else 115
def kLo (i : Nat) : Nat := if i = 0 then 323 else 45
def kHi (i : Nat) : Nat := if i = 0 then 309 else 39
def kIN (i : Nat) : Nat := (kZ i + 2) * 2 ^ (kP i - 1)
theorem kf_P : ∀ i, i < 2 → (kF[0]).2.2.2.getD i 0 = nI (kP i) := by decide +kernel
theorem kf_L : ∀ i, i < 2 → (kF[1]).2.2.2.getD i 0 = zI (-(kLw i : Int)) := by decide +kernel
theorem kf_H : ∀ i, i < 2 → (kF[2]).2.2.2.getD i 0 = zI ((kZ i : Int) - kLw i) := by decide +kernel
theorem kf_M : ∀ i, i < 2 → (kF[3]).2.2.2.getD i 0 = nI (kMd i) := by decide +kernel
theorem kf_lo : ∀ i, i < 2 → (kF[4]).2.2.2.getD i 0 = zI (-(kLo i : Int)) := by decide +kernel
theorem kf_hi : ∀ i, i < 2 → (kF[5]).2.2.2.getD i 0 = zI (kHi i : Int) := by decide +kernel
theorem kf_I : ∀ i, i < 2 → kInf i = lN (kIN i) := by decide +kernel
theorem kf_S : ∀ i, i < 2 → kSign i = lN (2 ^ kB i) := by decide +kernel
theorem kf_S1 : ∀ i, i < 2 → kSign i - 1 = lN (2 ^ kB i - 1) := by decide +kernel
theorem kb_le : ∀ i, i < 2 → kB i < 64 := by decide
theorem kIN_lt : ∀ i, i < 2 → kIN i < 2 ^ kB i := by decide +kernel
theorem kIN_63 : ∀ i, i < 2 → kIN i < 9223372036854775808 := by decide +kernel
theorem kP_b : ∀ i, i < 2 → kP i ≤ 53 ∧ 24 ≤ kP i ∧ kZ i ≤ 2045 ∧ kLw i ≤ 1074 ∧ kZ i + kP i ≤ 2098 ∧ kMd i ≤ 770 ∧ 115 ≤ kMd i ∧ kLo i ≤ 323 ∧ kHi i ≤ 309 := by decide
/-- the size of a number of a kind; whether it is below 0; whether it is none; its sign put on -/
def szN (i v : Nat) : Nat := v % 2 ^ kB i
def blN (i v : Nat) : Prop := v / 2 ^ kB i % 2 = 1
def sgd (i : Nat) (X : Int64) (b : Int32) : Int64 := if b = 0 then X else X ||| kSign i
def bI (b : Bool) : Int32 := if b then 1 else 0
theorem bI_0 (b : Bool) : bI b = 0 ↔ b = false := by cases b <;> decide
theorem bI_of {r : Int32} (h : r = 1 ∨ r = 0) : ∃ b : Bool, r = bI b := by
  rcases h with h | h
  · exact ⟨true, h⟩
  · exact ⟨false, h⟩
theorem sz_l {i v : Nat} (hi : i < 2) (hv : v < 2 ^ 64) : lN v &&& (kSign i - 1) = lN (szN i v) := by
  rw [kf_S1 i hi]; exact wb_mask hv (kb_le i hi)
theorem szN_lt {i v : Nat} (hi : i < 2) : szN i v < 9223372036854775808 := by
  have h1 : szN i v < 2 ^ kB i := Nat.mod_lt _ (Nat.two_pow_pos _)
  have h2 : 2 ^ kB i ≤ 2 ^ 63 := two_pow_le (by have := kb_le i hi; omega)
  omega
theorem and_pow0 (v k : Nat) : v &&& 2 ^ k = 0 ↔ ¬ v / 2 ^ k % 2 = 1 := by
  have ht : v.testBit k = decide (v / 2 ^ k % 2 = 1) := Nat.testBit_eq_decide_div_mod_eq
  constructor
  · intro z h
    have h1 : (v &&& 2 ^ k).testBit k = true := by rw [Nat.testBit_and, ht, Nat.testBit_two_pow_self, decide_eq_true h]; rfl
    rw [z, Nat.zero_testBit] at h1
    exact absurd h1 (by decide)
  · intro h
    apply Nat.eq_of_testBit_eq
    intro j
    rw [Nat.testBit_and, Nat.zero_testBit]
    by_cases hj : k = j
    · subst hj; rw [ht, decide_eq_false h]; rfl
    · rw [Nat.testBit_two_pow_of_ne hj, Bool.and_false]
theorem bl_l {i v : Nat} (hi : i < 2) (hv : v < 2 ^ 64) : lN v &&& kSign i = 0 ↔ ¬ blN i v := by
  have hp : 2 ^ kB i < 2 ^ 64 := wb_lt2 (kb_le i hi)
  rw [kf_S i hi, wb_and hv hp, lN_ne0 (Nat.and_lt_two_pow (n := 64) _ hp), and_pow0]
  exact Iff.rfl
theorem k_unit {a L : Int} (h1 : -100000000 ≤ a) (h2 : a ≤ 100000000) (h3 : 0 ≤ L) (h4 : L ≤ 2000) : (if zI a < zI (-L) then zI (-L) else zI a) = zI (((a + L).toNat : Int) - L) := by
  by_cases h : a < -L
  · rw [if_pos ((zI_lt (by omega) (by omega) (by omega) (by omega)).mpr h)]; congr 1; omega
  · rw [if_neg (fun z => h ((zI_lt (by omega) (by omega) (by omega) (by omega)).mp z))]; congr 1; omega
theorem rd_lt {n d : Nat} {more : Bool} (hn : n < 9223372036854775808) (hd : 63 < d) : rd n d more = 0 := by
  have h1 : 2 ^ 63 ≤ 2 ^ (d - 1) := two_pow_le (by omega)
  have h2 : 2 ^ (d - 1) ≤ 2 ^ d := two_pow_le (by omega)
  unfold rd
  rw [Nat.mod_eq_of_lt (by omega), Nat.div_eq_of_lt (by omega), if_neg (by omega)]
theorem rest_l {n d : Nat} (hd : d < 64) : lN n - lN (n / 2 ^ d) <<< ((nI d).toInt64 &&& 63) = lN (n % 2 ^ d) := by
  rw [wb_shl _ hd, lN_sub (Nat.div_mul_le_self n _)]
  congr 1
  have := Nat.div_add_mod n (2 ^ d)
  rw [Nat.mul_comm] at this
  omega
theorem kn_0 {P Z : Nat} {pe : Int} {more : Bool} : kn P Z 0 pe more = 0 := by unfold kn; rw [if_pos rfl]
theorem kn_inf {P Z n J : Nat} {pe : Int} {more : Bool} (hn : n ≠ 0) (hJ : J = (pe + bln n - P).toNat) (h : Z < J) : kn P Z n pe more = (Z + 2) * 2 ^ (P - 1) := by
  unfold kn; rw [if_neg hn, ← hJ, if_pos h]
theorem kn_ex {P Z n J : Nat} {pe : Int} {more : Bool} (hn : n ≠ 0) (hJ : J = (pe + bln n - P).toNat) (h : ¬ Z < J) (h2 : (J : Int) ≤ pe) : kn P Z n pe more = J * 2 ^ (P - 1) + n * 2 ^ (pe - J).toNat := by
  unfold kn; rw [if_neg hn, ← hJ, if_neg h, if_pos h2]
theorem kn_rd {P Z n J : Nat} {pe : Int} {more : Bool} (hn : n ≠ 0) (hJ : J = (pe + bln n - P).toNat) (h : ¬ Z < J) (h2 : ¬ (J : Int) ≤ pe) : kn P Z n pe more = J * 2 ^ (P - 1) + rd n (J - pe).toNat more := by
  unfold kn; rw [if_neg hn, ← hJ, if_neg h, if_neg h2]
theorem rd_up {n d : Nat} {more : Bool} (h : 2 ^ (d - 1) < n % 2 ^ d ∨ (n % 2 ^ d = 2 ^ (d - 1) ∧ (more = true ∨ (n / 2 ^ d) % 2 = 1))) : rd n d more = n / 2 ^ d + 1 := by unfold rd; rw [if_pos h]
theorem rd_dn {n d : Nat} {more : Bool} (h : ¬ (2 ^ (d - 1) < n % 2 ^ d ∨ (n % 2 ^ d = 2 ^ (d - 1) ∧ (more = true ∨ (n / 2 ^ d) % 2 = 1)))) : rd n d more = n / 2 ^ d := by unfold rd; rw [if_neg h]
end
section
theorem d_Kin_sizeOf_0 : decode b_Kin_sizeOf 0 = .ok (.lload_n 1, 1) := by decide +kernel
theorem d_Kin_sizeOf_1 : decode b_Kin_sizeOf 1 = .ok (.aload_n 0, 1) := by decide +kernel
theorem d_Kin_sizeOf_2 : decode b_Kin_sizeOf 2 = .ok (.getfield 55, 3) := by decide +kernel
theorem d_Kin_sizeOf_5 : decode b_Kin_sizeOf 5 = .ok (.lconst 1, 1) := by decide +kernel
theorem d_Kin_sizeOf_6 : decode b_Kin_sizeOf 6 = .ok (.lsub, 1) := by decide +kernel
theorem d_Kin_sizeOf_7 : decode b_Kin_sizeOf 7 = .ok (.land, 1) := by decide +kernel
theorem d_Kin_sizeOf_8 : decode b_Kin_sizeOf 8 = .ok (.lreturn, 1) := by decide +kernel
theorem d_Kin_isBelow_0 : decode b_Kin_isBelow 0 = .ok (.lload_n 1, 1) := by decide +kernel
theorem d_Kin_isBelow_1 : decode b_Kin_isBelow 1 = .ok (.aload_n 0, 1) := by decide +kernel
theorem d_Kin_isBelow_2 : decode b_Kin_isBelow 2 = .ok (.getfield 55, 3) := by decide +kernel
theorem d_Kin_isBelow_5 : decode b_Kin_isBelow 5 = .ok (.land, 1) := by decide +kernel
theorem d_Kin_isBelow_6 : decode b_Kin_isBelow 6 = .ok (.lconst 0, 1) := by decide +kernel
theorem d_Kin_isBelow_7 : decode b_Kin_isBelow 7 = .ok (.lcmp, 1) := by decide +kernel
theorem d_Kin_isBelow_8 : decode b_Kin_isBelow 8 = .ok (.ifCond .eq 7, 3) := by decide +kernel
theorem d_Kin_isBelow_11 : decode b_Kin_isBelow 11 = .ok (.iconst 1, 1) := by decide +kernel
theorem d_Kin_isBelow_12 : decode b_Kin_isBelow 12 = .ok (.goto 4, 3) := by decide +kernel
theorem d_Kin_isBelow_15 : decode b_Kin_isBelow 15 = .ok (.iconst 0, 1) := by decide +kernel
theorem d_Kin_isBelow_16 : decode b_Kin_isBelow 16 = .ok (.ireturn, 1) := by decide +kernel
theorem d_Kin_isNone_0 : decode b_Kin_isNone 0 = .ok (.aload_n 0, 1) := by decide +kernel
theorem d_Kin_isNone_1 : decode b_Kin_isNone 1 = .ok (.lload_n 1, 1) := by decide +kernel
theorem d_Kin_isNone_2 : decode b_Kin_isNone 2 = .ok (.invokevirtual 58, 3) := by decide +kernel
theorem d_Kin_isNone_5 : decode b_Kin_isNone 5 = .ok (.aload_n 0, 1) := by decide +kernel
theorem d_Kin_isNone_6 : decode b_Kin_isNone 6 = .ok (.getfield 48, 3) := by decide +kernel
theorem d_Kin_isNone_9 : decode b_Kin_isNone 9 = .ok (.lcmp, 1) := by decide +kernel
theorem d_Kin_isNone_10 : decode b_Kin_isNone 10 = .ok (.ifCond .le 7, 3) := by decide +kernel
theorem d_Kin_isNone_13 : decode b_Kin_isNone 13 = .ok (.iconst 1, 1) := by decide +kernel
theorem d_Kin_isNone_14 : decode b_Kin_isNone 14 = .ok (.goto 4, 3) := by decide +kernel
theorem d_Kin_isNone_17 : decode b_Kin_isNone 17 = .ok (.iconst 0, 1) := by decide +kernel
theorem d_Kin_isNone_18 : decode b_Kin_isNone 18 = .ok (.ireturn, 1) := by decide +kernel
theorem d_Kin_signed_0 : decode b_Kin_signed 0 = .ok (.iload_n 3, 1) := by decide +kernel
theorem d_Kin_signed_1 : decode b_Kin_signed 1 = .ok (.ifCond .eq 12, 3) := by decide +kernel
theorem d_Kin_signed_4 : decode b_Kin_signed 4 = .ok (.lload_n 1, 1) := by decide +kernel
theorem d_Kin_signed_5 : decode b_Kin_signed 5 = .ok (.aload_n 0, 1) := by decide +kernel
theorem d_Kin_signed_6 : decode b_Kin_signed 6 = .ok (.getfield 55, 3) := by decide +kernel
theorem d_Kin_signed_9 : decode b_Kin_signed 9 = .ok (.lor, 1) := by decide +kernel
theorem d_Kin_signed_10 : decode b_Kin_signed 10 = .ok (.goto 4, 3) := by decide +kernel
theorem d_Kin_signed_13 : decode b_Kin_signed 13 = .ok (.lload_n 1, 1) := by decide +kernel
theorem d_Kin_signed_14 : decode b_Kin_signed 14 = .ok (.lreturn, 1) := by decide +kernel
theorem d_Kin_rank_0 : decode b_Kin_rank 0 = .ok (.aload_n 0, 1) := by decide +kernel
theorem d_Kin_rank_1 : decode b_Kin_rank 1 = .ok (.lload_n 1, 1) := by decide +kernel
theorem d_Kin_rank_2 : decode b_Kin_rank 2 = .ok (.invokevirtual 62, 3) := by decide +kernel
theorem d_Kin_rank_5 : decode b_Kin_rank 5 = .ok (.ifCond .eq 12, 3) := by decide +kernel
theorem d_Kin_rank_8 : decode b_Kin_rank 8 = .ok (.aload_n 0, 1) := by decide +kernel
theorem d_Kin_rank_9 : decode b_Kin_rank 9 = .ok (.lload_n 1, 1) := by decide +kernel
theorem d_Kin_rank_10 : decode b_Kin_rank 10 = .ok (.invokevirtual 58, 3) := by decide +kernel
theorem d_Kin_rank_13 : decode b_Kin_rank 13 = .ok (.lneg, 1) := by decide +kernel
theorem d_Kin_rank_14 : decode b_Kin_rank 14 = .ok (.goto 8, 3) := by decide +kernel
theorem d_Kin_rank_17 : decode b_Kin_rank 17 = .ok (.aload_n 0, 1) := by decide +kernel
theorem d_Kin_rank_18 : decode b_Kin_rank 18 = .ok (.lload_n 1, 1) := by decide +kernel
theorem d_Kin_rank_19 : decode b_Kin_rank 19 = .ok (.invokevirtual 58, 3) := by decide +kernel
theorem d_Kin_rank_22 : decode b_Kin_rank 22 = .ok (.lreturn, 1) := by decide +kernel
theorem d_Kin_rounded_0 : decode b_Kin_rounded 0 = .ok (.iload_n 2, 1) := by decide +kernel
theorem d_Kin_rounded_1 : decode b_Kin_rounded 1 = .ok (.bipush 63, 2) := by decide +kernel
theorem d_Kin_rounded_3 : decode b_Kin_rounded 3 = .ok (.if_icmp .le 5, 3) := by decide +kernel
theorem d_Kin_rounded_6 : decode b_Kin_rounded 6 = .ok (.lconst 0, 1) := by decide +kernel
theorem d_Kin_rounded_7 : decode b_Kin_rounded 7 = .ok (.lreturn, 1) := by decide +kernel
theorem d_Kin_rounded_8 : decode b_Kin_rounded 8 = .ok (.lload_n 0, 1) := by decide +kernel
theorem d_Kin_rounded_9 : decode b_Kin_rounded 9 = .ok (.iload_n 2, 1) := by decide +kernel
theorem d_Kin_rounded_10 : decode b_Kin_rounded 10 = .ok (.lushr, 1) := by decide +kernel
theorem d_Kin_rounded_11 : decode b_Kin_rounded 11 = .ok (.lstore 4, 2) := by decide +kernel
theorem d_Kin_rounded_13 : decode b_Kin_rounded 13 = .ok (.lload_n 0, 1) := by decide +kernel
theorem d_Kin_rounded_14 : decode b_Kin_rounded 14 = .ok (.lload 4, 2) := by decide +kernel
theorem d_Kin_rounded_16 : decode b_Kin_rounded 16 = .ok (.iload_n 2, 1) := by decide +kernel
theorem d_Kin_rounded_17 : decode b_Kin_rounded 17 = .ok (.lshl, 1) := by decide +kernel
theorem d_Kin_rounded_18 : decode b_Kin_rounded 18 = .ok (.lsub, 1) := by decide +kernel
theorem d_Kin_rounded_19 : decode b_Kin_rounded 19 = .ok (.lstore 6, 2) := by decide +kernel
theorem d_Kin_rounded_21 : decode b_Kin_rounded 21 = .ok (.lconst 1, 1) := by decide +kernel
theorem d_Kin_rounded_22 : decode b_Kin_rounded 22 = .ok (.iload_n 2, 1) := by decide +kernel
theorem d_Kin_rounded_23 : decode b_Kin_rounded 23 = .ok (.iconst 1, 1) := by decide +kernel
theorem d_Kin_rounded_24 : decode b_Kin_rounded 24 = .ok (.isub, 1) := by decide +kernel
theorem d_Kin_rounded_25 : decode b_Kin_rounded 25 = .ok (.lshl, 1) := by decide +kernel
theorem d_Kin_rounded_26 : decode b_Kin_rounded 26 = .ok (.lstore 8, 2) := by decide +kernel
theorem d_Kin_rounded_28 : decode b_Kin_rounded 28 = .ok (.lload 6, 2) := by decide +kernel
theorem d_Kin_rounded_30 : decode b_Kin_rounded 30 = .ok (.lload 8, 2) := by decide +kernel
theorem d_Kin_rounded_32 : decode b_Kin_rounded 32 = .ok (.lcmp, 1) := by decide +kernel
theorem d_Kin_rounded_33 : decode b_Kin_rounded 33 = .ok (.ifCond .gt 24, 3) := by decide +kernel
theorem d_Kin_rounded_36 : decode b_Kin_rounded 36 = .ok (.lload 6, 2) := by decide +kernel
theorem d_Kin_rounded_38 : decode b_Kin_rounded 38 = .ok (.lload 8, 2) := by decide +kernel
theorem d_Kin_rounded_40 : decode b_Kin_rounded 40 = .ok (.lcmp, 1) := by decide +kernel
theorem d_Kin_rounded_41 : decode b_Kin_rounded 41 = .ok (.ifCond .ne 20, 3) := by decide +kernel
theorem d_Kin_rounded_44 : decode b_Kin_rounded 44 = .ok (.iload_n 3, 1) := by decide +kernel
theorem d_Kin_rounded_45 : decode b_Kin_rounded 45 = .ok (.ifCond .ne 12, 3) := by decide +kernel
theorem d_Kin_rounded_48 : decode b_Kin_rounded 48 = .ok (.lload 4, 2) := by decide +kernel
theorem d_Kin_rounded_50 : decode b_Kin_rounded 50 = .ok (.lconst 1, 1) := by decide +kernel
theorem d_Kin_rounded_51 : decode b_Kin_rounded 51 = .ok (.land, 1) := by decide +kernel
theorem d_Kin_rounded_52 : decode b_Kin_rounded 52 = .ok (.lconst 1, 1) := by decide +kernel
theorem d_Kin_rounded_53 : decode b_Kin_rounded 53 = .ok (.lcmp, 1) := by decide +kernel
theorem d_Kin_rounded_54 : decode b_Kin_rounded 54 = .ok (.ifCond .ne 7, 3) := by decide +kernel
theorem d_Kin_rounded_57 : decode b_Kin_rounded 57 = .ok (.iconst 1, 1) := by decide +kernel
theorem d_Kin_rounded_58 : decode b_Kin_rounded 58 = .ok (.goto 4, 3) := by decide +kernel
theorem d_Kin_rounded_61 : decode b_Kin_rounded 61 = .ok (.iconst 0, 1) := by decide +kernel
theorem d_Kin_rounded_62 : decode b_Kin_rounded 62 = .ok (.istore 10, 2) := by decide +kernel
theorem d_Kin_rounded_64 : decode b_Kin_rounded 64 = .ok (.iload 10, 2) := by decide +kernel
theorem d_Kin_rounded_66 : decode b_Kin_rounded 66 = .ok (.ifCond .eq 10, 3) := by decide +kernel
theorem d_Kin_rounded_69 : decode b_Kin_rounded 69 = .ok (.lload 4, 2) := by decide +kernel
theorem d_Kin_rounded_71 : decode b_Kin_rounded 71 = .ok (.lconst 1, 1) := by decide +kernel
theorem d_Kin_rounded_72 : decode b_Kin_rounded 72 = .ok (.ladd, 1) := by decide +kernel
theorem d_Kin_rounded_73 : decode b_Kin_rounded 73 = .ok (.goto 5, 3) := by decide +kernel
theorem d_Kin_rounded_76 : decode b_Kin_rounded 76 = .ok (.lload 4, 2) := by decide +kernel
theorem d_Kin_rounded_78 : decode b_Kin_rounded 78 = .ok (.lreturn, 1) := by decide +kernel
theorem d_Kin_nearest_0 : decode b_Kin_nearest 0 = .ok (.lload_n 1, 1) := by decide +kernel
theorem d_Kin_nearest_1 : decode b_Kin_nearest 1 = .ok (.lconst 0, 1) := by decide +kernel
theorem d_Kin_nearest_2 : decode b_Kin_nearest 2 = .ok (.lcmp, 1) := by decide +kernel
theorem d_Kin_nearest_3 : decode b_Kin_nearest 3 = .ok (.ifCond .ne 5, 3) := by decide +kernel
theorem d_Kin_nearest_6 : decode b_Kin_nearest 6 = .ok (.lconst 0, 1) := by decide +kernel
theorem d_Kin_nearest_7 : decode b_Kin_nearest 7 = .ok (.lreturn, 1) := by decide +kernel
theorem d_Kin_nearest_8 : decode b_Kin_nearest 8 = .ok (.iload_n 3, 1) := by decide +kernel
theorem d_Kin_nearest_9 : decode b_Kin_nearest 9 = .ok (.lload_n 1, 1) := by decide +kernel
theorem d_Kin_nearest_10 : decode b_Kin_nearest 10 = .ok (.invokestatic 66, 3) := by decide +kernel
theorem d_Kin_nearest_13 : decode b_Kin_nearest 13 = .ok (.iadd, 1) := by decide +kernel
theorem d_Kin_nearest_14 : decode b_Kin_nearest 14 = .ok (.aload_n 0, 1) := by decide +kernel
theorem d_Kin_nearest_15 : decode b_Kin_nearest 15 = .ok (.getfield 29, 3) := by decide +kernel
theorem d_Kin_nearest_18 : decode b_Kin_nearest 18 = .ok (.isub, 1) := by decide +kernel
theorem d_Kin_nearest_19 : decode b_Kin_nearest 19 = .ok (.aload_n 0, 1) := by decide +kernel
theorem d_Kin_nearest_20 : decode b_Kin_nearest 20 = .ok (.getfield 33, 3) := by decide +kernel
theorem d_Kin_nearest_23 : decode b_Kin_nearest 23 = .ok (.invokestatic 72, 3) := by decide +kernel
theorem d_Kin_nearest_26 : decode b_Kin_nearest 26 = .ok (.istore 5, 2) := by decide +kernel
theorem d_Kin_nearest_28 : decode b_Kin_nearest 28 = .ok (.iload 5, 2) := by decide +kernel
theorem d_Kin_nearest_30 : decode b_Kin_nearest 30 = .ok (.aload_n 0, 1) := by decide +kernel
theorem d_Kin_nearest_31 : decode b_Kin_nearest 31 = .ok (.getfield 36, 3) := by decide +kernel
theorem d_Kin_nearest_34 : decode b_Kin_nearest 34 = .ok (.if_icmp .le 8, 3) := by decide +kernel
theorem d_Kin_nearest_37 : decode b_Kin_nearest 37 = .ok (.aload_n 0, 1) := by decide +kernel
theorem d_Kin_nearest_38 : decode b_Kin_nearest 38 = .ok (.getfield 48, 3) := by decide +kernel
theorem d_Kin_nearest_41 : decode b_Kin_nearest 41 = .ok (.lreturn, 1) := by decide +kernel
theorem d_Kin_nearest_42 : decode b_Kin_nearest 42 = .ok (.iload 5, 2) := by decide +kernel
theorem d_Kin_nearest_44 : decode b_Kin_nearest 44 = .ok (.iload_n 3, 1) := by decide +kernel
theorem d_Kin_nearest_45 : decode b_Kin_nearest 45 = .ok (.if_icmp .gt 12, 3) := by decide +kernel
theorem d_Kin_nearest_48 : decode b_Kin_nearest 48 = .ok (.lload_n 1, 1) := by decide +kernel
theorem d_Kin_nearest_49 : decode b_Kin_nearest 49 = .ok (.iload_n 3, 1) := by decide +kernel
theorem d_Kin_nearest_50 : decode b_Kin_nearest 50 = .ok (.iload 5, 2) := by decide +kernel
theorem d_Kin_nearest_52 : decode b_Kin_nearest 52 = .ok (.isub, 1) := by decide +kernel
theorem d_Kin_nearest_53 : decode b_Kin_nearest 53 = .ok (.lshl, 1) := by decide +kernel
theorem d_Kin_nearest_54 : decode b_Kin_nearest 54 = .ok (.goto 13, 3) := by decide +kernel
theorem d_Kin_nearest_57 : decode b_Kin_nearest 57 = .ok (.lload_n 1, 1) := by decide +kernel
theorem d_Kin_nearest_58 : decode b_Kin_nearest 58 = .ok (.iload 5, 2) := by decide +kernel
theorem d_Kin_nearest_60 : decode b_Kin_nearest 60 = .ok (.iload_n 3, 1) := by decide +kernel
theorem d_Kin_nearest_61 : decode b_Kin_nearest 61 = .ok (.isub, 1) := by decide +kernel
theorem d_Kin_nearest_62 : decode b_Kin_nearest 62 = .ok (.iload 4, 2) := by decide +kernel
theorem d_Kin_nearest_64 : decode b_Kin_nearest 64 = .ok (.invokestatic 78, 3) := by decide +kernel
theorem d_Kin_nearest_67 : decode b_Kin_nearest 67 = .ok (.lstore 6, 2) := by decide +kernel
theorem d_Kin_nearest_69 : decode b_Kin_nearest 69 = .ok (.iload 5, 2) := by decide +kernel
theorem d_Kin_nearest_71 : decode b_Kin_nearest 71 = .ok (.aload_n 0, 1) := by decide +kernel
theorem d_Kin_nearest_72 : decode b_Kin_nearest 72 = .ok (.getfield 33, 3) := by decide +kernel
theorem d_Kin_nearest_75 : decode b_Kin_nearest 75 = .ok (.isub, 1) := by decide +kernel
theorem d_Kin_nearest_76 : decode b_Kin_nearest 76 = .ok (.i2l, 1) := by decide +kernel
theorem d_Kin_nearest_77 : decode b_Kin_nearest 77 = .ok (.aload_n 0, 1) := by decide +kernel
theorem d_Kin_nearest_78 : decode b_Kin_nearest 78 = .ok (.getfield 29, 3) := by decide +kernel
theorem d_Kin_nearest_81 : decode b_Kin_nearest 81 = .ok (.iconst 1, 1) := by decide +kernel
theorem d_Kin_nearest_82 : decode b_Kin_nearest 82 = .ok (.isub, 1) := by decide +kernel
theorem d_Kin_nearest_83 : decode b_Kin_nearest 83 = .ok (.lshl, 1) := by decide +kernel
theorem d_Kin_nearest_84 : decode b_Kin_nearest 84 = .ok (.lload 6, 2) := by decide +kernel
theorem d_Kin_nearest_86 : decode b_Kin_nearest 86 = .ok (.ladd, 1) := by decide +kernel
theorem d_Kin_nearest_87 : decode b_Kin_nearest 87 = .ok (.lreturn, 1) := by decide +kernel
set_option maxHeartbeats 4000000 in
set_option maxRecDepth 100000 in
theorem c_Kin_sizeOf (l : Launch) (D : va_G) (E : evD) (i : Nat) (hi : i < 2) (v : Nat) (hv : v < 2 ^ 64) : Cl (S := Unit) l y_Kin_sizeOf (wz y_Kin_sizeOf b_Kin_sizeOf 3 (some .long)) ({ frames := 0, cells := 0, slots := 0, locals := 0 }) D vcl (ev1 E) [.ref (E.1 i), .long (lN v)] [] [] 0 0 (fun (r : Int64) (_ : Unit) => r = lN (szN i v)) (fun _ => []) (fun _ : Unit => []) := by
  have hev := ev1_ok E
  unfold Cl
  refine ct_of (y := y_Kin_sizeOf) (av := [.ref (E.1 i), .long (lN v)]) (cc := b_Kin_sizeOf) (maxL := 3) (ret := (some .long)) (Qc := fun A => va_Ql (S := Unit) (fun (r : Int64) (_ : Unit) => r = lN (szN i v)) (fun u t => ctB D vcl ((fun _ => []) u) ((fun _ : Unit => []) u) A t) A) (by decide) rfl (Nat.le_of_ble_eq_true rfl) ?_
  intro p e s m below meth cde ls A H locs hx hb hml hrt hlocks hown hin hts hA hP hK hD hS hE hl
  have hown : s.vm.findClass R_Kin = some m.cls := hown
  have hts := wz_g hts
  have hl : lv_has ls 3 [(0, .ref (E.1 i)), (1, .long (lN v))] := hl
  refine lv_lload_n hx hb d_Kin_sizeOf_0 rfl (lv_at hl 1 rfl) ?_
  refine lv_aload_n hx hb d_Kin_sizeOf_1 rfl (lv_at hl 0 rfl) ?_
  refine va_getX hx hb hE.2.2.1 (i := i) hi hS hown (hts _ kF_Kin_55) (fun _ h9 => h9) d_Kin_sizeOf_2 ?_
  refine lv_lconst (v := 1) hx hb d_Kin_sizeOf_5 (by decide) ?_
  refine lv_lsub hx hb d_Kin_sizeOf_6 ?_
  refine lv_land hx hb d_Kin_sizeOf_7 ?_
  refine tv_l (lN (szN i v)) (sz_l hi hv) ?_
  exact rt_l hx hb hrt hlocks (()) (rfl) (hP.sub [] rfl) (hK.sub [] rfl) (hD.sub [] (by decide) rfl) hS d_Kin_sizeOf_8

set_option maxHeartbeats 4000000 in
set_option maxRecDepth 100000 in
theorem c_Kin_isBelow (l : Launch) (D : va_G) (E : evD) (i : Nat) (hi : i < 2) (v : Nat) (hv : v < 2 ^ 64) : Ci (S := Unit) l y_Kin_isBelow (wz y_Kin_isBelow b_Kin_isBelow 3 (some .boolean)) ({ frames := 0, cells := 0, slots := 0, locals := 0 }) D vcl (ev1 E) [.ref (E.1 i), .long (lN v)] [] [] 0 0 (fun (r : Int32) (_ : Unit) => (r = 1 ∨ r = 0) ∧ (r = 1 ↔ blN i v)) (fun _ => []) (fun _ : Unit => []) := by
  have hev := ev1_ok E
  unfold Ci
  refine ct_of (y := y_Kin_isBelow) (av := [.ref (E.1 i), .long (lN v)]) (cc := b_Kin_isBelow) (maxL := 3) (ret := (some .boolean)) (Qc := fun A => va_Qi (S := Unit) (fun (r : Int32) (_ : Unit) => (r = 1 ∨ r = 0) ∧ (r = 1 ↔ blN i v)) (fun u t => ctB D vcl ((fun _ => []) u) ((fun _ : Unit => []) u) A t) A) (by decide) rfl (Nat.le_of_ble_eq_true rfl) ?_
  intro p e s m below meth cde ls A H locs hx hb hml hrt hlocks hown hin hts hA hP hK hD hS hE hl
  have hown : s.vm.findClass R_Kin = some m.cls := hown
  have hts := wz_g hts
  have hl : lv_has ls 3 [(0, .ref (E.1 i)), (1, .long (lN v))] := hl
  refine lv_lload_n hx hb d_Kin_isBelow_0 rfl (lv_at hl 1 rfl) ?_
  refine lv_aload_n hx hb d_Kin_isBelow_1 rfl (lv_at hl 0 rfl) ?_
  refine va_getX hx hb hE.2.2.1 (i := i) hi hS hown (hts _ kF_Kin_55) (fun _ h9 => h9) d_Kin_isBelow_2 ?_
  refine lv_land hx hb d_Kin_isBelow_5 ?_
  refine lv_lconst (v := 0) hx hb d_Kin_isBelow_6 (by decide) ?_
  refine W.lcmp hx hb d_Kin_isBelow_7 ?_
  refine lv_if_eq (tgt := 15) hx hb d_Kin_isBelow_8 (by decide) (fun c8 => ?_) (fun c8 => ?_)
  · refine lv_iconst (v := 0) hx hb d_Kin_isBelow_15 (by decide) ?_
    exact rt_i hx hb hrt hlocks (rfl) (()) (⟨Or.inr rfl, iff_of_false (by decide) ((bl_l hi hv).mp ((lg_cmp_eq _ _).mp c8))⟩) (hP.sub [] rfl) (hK.sub [] rfl) (hD.sub [] (by decide) rfl) hS d_Kin_isBelow_16
  · refine lv_iconst (v := 1) hx hb d_Kin_isBelow_11 (by decide) ?_
    refine lv_goto (tgt := 16) hx hb d_Kin_isBelow_12 (by decide) ?_
    exact rt_i hx hb hrt hlocks (rfl) (()) (⟨Or.inl rfl, iff_of_true rfl (Classical.byContradiction (fun z => c8 ((lg_cmp_eq _ _).mpr ((bl_l hi hv).mpr z))))⟩) (hP.sub [] rfl) (hK.sub [] rfl) (hD.sub [] (by decide) rfl) hS d_Kin_isBelow_16

set_option maxHeartbeats 4000000 in
set_option maxRecDepth 100000 in
theorem c_Kin_isNone (l : Launch) (D : va_G) (E : evD) (i : Nat) (hi : i < 2) (v : Nat) (hv : v < 2 ^ 64) : Ci (S := Unit) l y_Kin_isNone (wz y_Kin_isNone b_Kin_isNone 3 (some .boolean)) ({ frames := 1, cells := 0, slots := 0, locals := 22 }) D vcl (ev1 E) [.ref (E.1 i), .long (lN v)] [] [] 0 0 (fun (r : Int32) (_ : Unit) => (r = 1 ∨ r = 0) ∧ (r = 1 ↔ kIN i < szN i v)) (fun _ => []) (fun _ : Unit => []) := by
  have hev := ev1_ok E
  unfold Ci
  refine ct_of (y := y_Kin_isNone) (av := [.ref (E.1 i), .long (lN v)]) (cc := b_Kin_isNone) (maxL := 3) (ret := (some .boolean)) (Qc := fun A => va_Qi (S := Unit) (fun (r : Int32) (_ : Unit) => (r = 1 ∨ r = 0) ∧ (r = 1 ↔ kIN i < szN i v)) (fun u t => ctB D vcl ((fun _ => []) u) ((fun _ : Unit => []) u) A t) A) (by decide) rfl (Nat.le_of_ble_eq_true rfl) ?_
  intro p e s m below meth cde ls A H locs hx hb hml hrt hlocks hown hin hts hA hP hK hD hS hE hl
  have hown : s.vm.findClass R_Kin = some m.cls := hown
  have hts := wz_g hts
  have hl : lv_has ls 3 [(0, .ref (E.1 i)), (1, .long (lN v))] := hl
  refine lv_aload_n hx hb d_Kin_isNone_0 rfl (lv_at hl 0 rfl) ?_
  refine lv_lload_n hx hb d_Kin_isNone_1 rfl (lv_at hl 1 rfl) ?_
  refine ca_l [] (va_runV (As := [.long (lN v)]) (rest := []) ⟨hx, hb, hml, hown, hts⟩ (c_Kin_sizeOf l D E i hi v (hv) H.size) (xV 1 hts kC_Kin_sizeOf kM_Kin_58 kI_Kin_sizeOf kS_Kin_sizeOf kN_Kin rfl rfl (by decide +kernel) ⟨Nat.le_of_ble_eq_true rfl, Nat.le_of_ble_eq_true rfl⟩) ⟨ct_blind hev, va_recvE (i := i) hE.2.1 hi hS, ct_pre hev hP hK hD hS hA hE [] rfl (by decide) [] rfl⟩ rfl rfl hl.1 rfl (lv_room (Nat.le_of_ble_eq_true rfl)) d_Kin_isNone_2 ⟨Nat.le_of_ble_eq_true rfl, Nat.le_of_ble_eq_true rfl⟩) hP hD hS hA [] [] rfl rfl (by decide) (by decide) (fun r u H locs hw hP hD hS hK1 => ?_)
  subst hw
  have hP : va_P D vcl [] H := hP
  have hD : va_D A [] := hD
  refine lv_aload_n hx hb d_Kin_isNone_5 rfl (lv_at hl 0 rfl) ?_
  refine va_getX hx hb hE.2.2.2.1 (i := i) hi hS hown (hts _ kF_Kin_48) (fun _ h9 => h9) d_Kin_isNone_6 ?_
  refine tv_l (lN (kIN i)) (kf_I i hi) ?_
  refine W.lcmp hx hb d_Kin_isNone_9 ?_
  refine lv_if_le (tgt := 17) hx hb d_Kin_isNone_10 (by decide) (fun c10 => ?_) (fun c10 => ?_)
  · refine lv_iconst (v := 0) hx hb d_Kin_isNone_17 (by decide) ?_
    exact rt_i hx hb hrt hlocks (rfl) (()) (⟨Or.inr rfl, iff_of_false (by decide) (Nat.not_lt.mpr ((pk_lLE (szN_lt hi) (kIN_63 i hi)).mp ((lg_cmp_le _ _).mp c10)))⟩) (hP.sub [] rfl) (hK.sub [] rfl) (hD.sub [] (by decide) rfl) hS d_Kin_isNone_18
  · refine lv_iconst (v := 1) hx hb d_Kin_isNone_13 (by decide) ?_
    refine lv_goto (tgt := 18) hx hb d_Kin_isNone_14 (by decide) ?_
    exact rt_i hx hb hrt hlocks (rfl) (()) (⟨Or.inl rfl, iff_of_true rfl (Nat.lt_of_not_le (fun z => c10 ((lg_cmp_le _ _).mpr ((pk_lLE (szN_lt hi) (kIN_63 i hi)).mpr z))))⟩) (hP.sub [] rfl) (hK.sub [] rfl) (hD.sub [] (by decide) rfl) hS d_Kin_isNone_18

set_option maxHeartbeats 4000000 in
set_option maxRecDepth 100000 in
theorem c_Kin_signed (l : Launch) (D : va_G) (E : evD) (i : Nat) (hi : i < 2) (X : Int64) (b : Int32) : Cl (S := Unit) l y_Kin_signed (wz y_Kin_signed b_Kin_signed 4 (some .long)) ({ frames := 0, cells := 0, slots := 0, locals := 0 }) D vcl (ev1 E) [.ref (E.1 i), .long X, .int b] [] [] 0 0 (fun (r : Int64) (_ : Unit) => r = sgd i X b) (fun _ => []) (fun _ : Unit => []) := by
  have hev := ev1_ok E
  unfold Cl
  refine ct_of (y := y_Kin_signed) (av := [.ref (E.1 i), .long X, .int b]) (cc := b_Kin_signed) (maxL := 4) (ret := (some .long)) (Qc := fun A => va_Ql (S := Unit) (fun (r : Int64) (_ : Unit) => r = sgd i X b) (fun u t => ctB D vcl ((fun _ => []) u) ((fun _ : Unit => []) u) A t) A) (by decide) rfl (Nat.le_of_ble_eq_true rfl) ?_
  intro p e s m below meth cde ls A H locs hx hb hml hrt hlocks hown hin hts hA hP hK hD hS hE hl
  have hown : s.vm.findClass R_Kin = some m.cls := hown
  have hts := wz_g hts
  have hl : lv_has ls 4 [(0, .ref (E.1 i)), (1, .long X), (3, .int b)] := hl
  refine lv_iload_n hx hb d_Kin_signed_0 rfl (lv_at hl 2 rfl) ?_
  refine lv_if_eq (tgt := 13) hx hb d_Kin_signed_1 (by decide) (fun c1 => ?_) (fun c1 => ?_)
  · refine lv_lload_n hx hb d_Kin_signed_13 rfl (lv_at hl 1 rfl) ?_
    exact rt_l hx hb hrt hlocks (()) (by unfold sgd; rw [if_pos c1]) (hP.sub [] rfl) (hK.sub [] rfl) (hD.sub [] (by decide) rfl) hS d_Kin_signed_14
  · refine lv_lload_n hx hb d_Kin_signed_4 rfl (lv_at hl 1 rfl) ?_
    refine lv_aload_n hx hb d_Kin_signed_5 rfl (lv_at hl 0 rfl) ?_
    refine va_getX hx hb hE.2.2.1 (i := i) hi hS hown (hts _ kF_Kin_55) (fun _ h9 => h9) d_Kin_signed_6 ?_
    refine lv_lor hx hb d_Kin_signed_9 ?_
    refine lv_goto (tgt := 14) hx hb d_Kin_signed_10 (by decide) ?_
    exact rt_l hx hb hrt hlocks (()) (by unfold sgd; rw [if_neg c1]) (hP.sub [] rfl) (hK.sub [] rfl) (hD.sub [] (by decide) rfl) hS d_Kin_signed_14

def rkN (i v : Nat) : Int64 := if v / 2 ^ kB i % 2 = 1 then -lN (szN i v) else lN (szN i v)
set_option maxHeartbeats 4000000 in
set_option maxRecDepth 100000 in
theorem c_Kin_rank (l : Launch) (D : va_G) (E : evD) (i : Nat) (hi : i < 2) (v : Nat) (hv : v < 2 ^ 64) : Cl (S := Unit) l y_Kin_rank (wz y_Kin_rank b_Kin_rank 3 (some .long)) ({ frames := 1, cells := 0, slots := 0, locals := 22 }) D vcl (ev1 E) [.ref (E.1 i), .long (lN v)] [] [] 0 0 (fun (r : Int64) (_ : Unit) => r = rkN i v) (fun _ => []) (fun _ : Unit => []) := by
  have hev := ev1_ok E
  unfold Cl
  refine ct_of (y := y_Kin_rank) (av := [.ref (E.1 i), .long (lN v)]) (cc := b_Kin_rank) (maxL := 3) (ret := (some .long)) (Qc := fun A => va_Ql (S := Unit) (fun (r : Int64) (_ : Unit) => r = rkN i v) (fun u t => ctB D vcl ((fun _ => []) u) ((fun _ : Unit => []) u) A t) A) (by decide) rfl (Nat.le_of_ble_eq_true rfl) ?_
  intro p e s m below meth cde ls A H locs hx hb hml hrt hlocks hown hin hts hA hP hK hD hS hE hl
  have hown : s.vm.findClass R_Kin = some m.cls := hown
  have hts := wz_g hts
  have hl : lv_has ls 3 [(0, .ref (E.1 i)), (1, .long (lN v))] := hl
  refine lv_aload_n hx hb d_Kin_rank_0 rfl (lv_at hl 0 rfl) ?_
  refine lv_lload_n hx hb d_Kin_rank_1 rfl (lv_at hl 1 rfl) ?_
  refine ca_i [] (va_runV (As := [.long (lN v)]) (rest := []) ⟨hx, hb, hml, hown, hts⟩ (c_Kin_isBelow l D E i hi v (hv) H.size) (xV 1 hts kC_Kin_isBelow kM_Kin_62 kI_Kin_isBelow kS_Kin_isBelow kN_Kin rfl rfl (by decide +kernel) ⟨Nat.le_of_ble_eq_true rfl, Nat.le_of_ble_eq_true rfl⟩) ⟨ct_blind hev, va_recvE (i := i) hE.2.1 hi hS, ct_pre hev hP hK hD hS hA hE [] rfl (by decide) [] rfl⟩ rfl rfl hl.1 rfl (lv_room (Nat.le_of_ble_eq_true rfl)) d_Kin_rank_2 ⟨Nat.le_of_ble_eq_true rfl, Nat.le_of_ble_eq_true rfl⟩) hP hD hS hA [] [] rfl rfl (by decide) (by decide) (fun r u H locs hw hP hD hS hK1 => ?_)
  have hP : va_P D vcl [] H := hP
  have hD : va_D A [] := hD
  refine lv_if_eq (tgt := 17) hx hb d_Kin_rank_5 (by decide) (fun c5 => ?_) (fun c5 => ?_)
  · have e5 : ¬ blN i v := fun z => by have := hw.2.mpr z; rw [c5] at this; exact absurd this (by decide)
    refine lv_aload_n hx hb d_Kin_rank_17 rfl (lv_at hl 0 rfl) ?_
    refine lv_lload_n hx hb d_Kin_rank_18 rfl (lv_at hl 1 rfl) ?_
    refine ca_l [] (va_runV (As := [.long (lN v)]) (rest := []) ⟨hx, hb, hml, hown, hts⟩ (c_Kin_sizeOf l D E i hi v (hv) H.size) (xV 1 hts kC_Kin_sizeOf kM_Kin_58 kI_Kin_sizeOf kS_Kin_sizeOf kN_Kin rfl rfl (by decide +kernel) ⟨Nat.le_of_ble_eq_true rfl, Nat.le_of_ble_eq_true rfl⟩) ⟨ct_blind hev, va_recvE (i := i) hE.2.1 hi hS, ct_pre hev hP hK hD hS hA hE [] rfl (by decide) [] rfl⟩ rfl rfl hl.1 rfl (lv_room (Nat.le_of_ble_eq_true rfl)) d_Kin_rank_19 ⟨Nat.le_of_ble_eq_true rfl, Nat.le_of_ble_eq_true rfl⟩) hP hD hS hA [] [] rfl rfl (by decide) (by decide) (fun r u H locs hw hP hD hS hK1 => ?_)
    subst hw
    have hP : va_P D vcl [] H := hP
    have hD : va_D A [] := hD
    exact rt_l hx hb hrt hlocks (()) ((if_neg e5).symm) (hP.sub [] rfl) (hK.sub [] rfl) (hD.sub [] (by decide) rfl) hS d_Kin_rank_22
  · have e5 : blN i v := hw.2.mp (hw.1.elim id (fun z => absurd z c5))
    refine lv_aload_n hx hb d_Kin_rank_8 rfl (lv_at hl 0 rfl) ?_
    refine lv_lload_n hx hb d_Kin_rank_9 rfl (lv_at hl 1 rfl) ?_
    refine ca_l [] (va_runV (As := [.long (lN v)]) (rest := []) ⟨hx, hb, hml, hown, hts⟩ (c_Kin_sizeOf l D E i hi v (hv) H.size) (xV 1 hts kC_Kin_sizeOf kM_Kin_58 kI_Kin_sizeOf kS_Kin_sizeOf kN_Kin rfl rfl (by decide +kernel) ⟨Nat.le_of_ble_eq_true rfl, Nat.le_of_ble_eq_true rfl⟩) ⟨ct_blind hev, va_recvE (i := i) hE.2.1 hi hS, ct_pre hev hP hK hD hS hA hE [] rfl (by decide) [] rfl⟩ rfl rfl hl.1 rfl (lv_room (Nat.le_of_ble_eq_true rfl)) d_Kin_rank_10 ⟨Nat.le_of_ble_eq_true rfl, Nat.le_of_ble_eq_true rfl⟩) hP hD hS hA [] [] rfl rfl (by decide) (by decide) (fun r u H locs hw hP hD hS hK1 => ?_)
    subst hw
    have hP : va_P D vcl [] H := hP
    have hD : va_D A [] := hD
    refine lv_lneg hx hb d_Kin_rank_13 ?_
    refine lv_goto (tgt := 22) hx hb d_Kin_rank_14 (by decide) ?_
    exact rt_l hx hb hrt hlocks (()) ((if_pos e5).symm) (hP.sub [] rfl) (hK.sub [] rfl) (hD.sub [] (by decide) rfl) hS d_Kin_rank_22

set_option maxHeartbeats 4000000 in
set_option maxRecDepth 100000 in
theorem c_Kin_rounded (l : Launch) (D : va_G) (E : evD) (n d : Nat) (mb : Bool) (hn63 : n < 9223372036854775808) (hd0 : 0 < d) (hd31 : d < 2147483648) : Cl (S := Unit) l y_Kin_rounded (wz y_Kin_rounded b_Kin_rounded 11 (some .long)) ({ frames := 0, cells := 0, slots := 0, locals := 0 }) D vcl (ev1 E) [.long (lN n), .int (nI d), .int (bI mb)] [] [] 0 0 (fun (r : Int64) (_ : Unit) => r = lN (rd n d mb)) (fun _ => []) (fun _ : Unit => []) := by
  have hev := ev1_ok E
  unfold Cl
  refine ct_of (y := y_Kin_rounded) (av := [.long (lN n), .int (nI d), .int (bI mb)]) (cc := b_Kin_rounded) (maxL := 11) (ret := (some .long)) (Qc := fun A => va_Ql (S := Unit) (fun (r : Int64) (_ : Unit) => r = lN (rd n d mb)) (fun u t => ctB D vcl ((fun _ => []) u) ((fun _ : Unit => []) u) A t) A) (by decide) rfl (Nat.le_of_ble_eq_true rfl) ?_
  intro p e s m below meth cde ls A H locs hx hb hml hrt hlocks hown hin hts hA hP hK hD hS hE hl
  have hown : s.vm.findClass R_Kin = some m.cls := hown
  have hts := wz_g hts
  have hl : lv_has ls 11 [(0, .long (lN n)), (2, .int (nI d)), (3, .int (bI mb))] := hl
  refine lv_iload_n hx hb d_Kin_rounded_0 rfl (lv_at hl 1 rfl) ?_
  refine lv_bipush (v := 63) hx hb d_Kin_rounded_1 (by decide) ?_
  refine lv_icmp_le (tgt := 8) hx hb d_Kin_rounded_3 (by decide) (fun c3 => ?_) (fun c3 => ?_)
  · have e3 : d ≤ 63 := (nI_leI (b := 63) (by omega) (by decide)).mp c3
    have hp1 : 2 ^ (d - 1) ≤ 2 ^ 62 := two_pow_le (by omega)
    have hp2 : 2 ^ d = 2 * 2 ^ (d - 1) := by rw [show d = d - 1 + 1 by omega, Nat.pow_succ, Nat.mul_comm]; rfl
    have hp3 := Nat.mod_lt n (Nat.two_pow_pos d)
    have hp4 := Nat.div_le_self n (2 ^ d)
    refine lv_lload_n hx hb d_Kin_rounded_8 rfl (lv_at hl 0 rfl) ?_
    refine lv_iload_n hx hb d_Kin_rounded_9 rfl (lv_at hl 1 rfl) ?_
    refine lv_lushr (v := lN (n / 2 ^ d)) hx hb d_Kin_rounded_10 (wb_shr (by omega) (by omega)) ?_
    refine lv_lstore (lv' := [(4, .long (lN (n / 2 ^ d))), (0, .long (lN n)), (2, .int (nI d)), (3, .int (bI mb))]) hx hb d_Kin_rounded_11 hl (by decide) rfl (fun ls hl => ?_)
    refine lv_lload_n hx hb d_Kin_rounded_13 rfl (lv_at hl 1 rfl) ?_
    refine lv_lload hx hb d_Kin_rounded_14 (lv_at hl 0 rfl) ?_
    refine lv_iload_n hx hb d_Kin_rounded_16 rfl (lv_at hl 2 rfl) ?_
    refine lv_lshl (v := (lN (n / 2 ^ d)) <<< ((nI d).toInt64 &&& 63)) hx hb d_Kin_rounded_17 (rfl) ?_
    refine lv_lsub hx hb d_Kin_rounded_18 ?_
    refine tv_l (lN (n % 2 ^ d)) (rest_l (by omega)) ?_
    refine lv_lstore (lv' := [(6, .long (lN (n % 2 ^ d))), (4, .long (lN (n / 2 ^ d))), (0, .long (lN n)), (2, .int (nI d)), (3, .int (bI mb))]) hx hb d_Kin_rounded_19 hl (by decide) rfl (fun ls hl => ?_)
    refine lv_lconst (v := 1) hx hb d_Kin_rounded_21 (by decide) ?_
    refine lv_iload_n hx hb d_Kin_rounded_22 rfl (lv_at hl 3 rfl) ?_
    refine lv_iconst (v := 1) hx hb d_Kin_rounded_23 (by decide) ?_
    refine lv_isub hx hb d_Kin_rounded_24 ?_
    refine tv_i (nI (d - 1)) (nI_dec hd0) ?_
    refine lv_lshl (v := lN (2 ^ (d - 1))) hx hb d_Kin_rounded_25 (by have h9 := wb_shl 1 (k := d - 1) (by omega); rw [Nat.one_mul] at h9; exact h9) ?_
    refine lv_lstore (lv' := [(8, .long (lN (2 ^ (d - 1)))), (6, .long (lN (n % 2 ^ d))), (4, .long (lN (n / 2 ^ d))), (0, .long (lN n)), (2, .int (nI d)), (3, .int (bI mb))]) hx hb d_Kin_rounded_26 hl (by decide) rfl (fun ls hl => ?_)
    refine lv_lload hx hb d_Kin_rounded_28 (lv_at hl 1 rfl) ?_
    refine lv_lload hx hb d_Kin_rounded_30 (lv_at hl 0 rfl) ?_
    refine W.lcmp hx hb d_Kin_rounded_32 ?_
    refine lv_if_gt (tgt := 57) hx hb d_Kin_rounded_33 (by decide) (fun c33 => ?_) (fun c33 => ?_)
    · have e33 : 2 ^ (d - 1) < n % 2 ^ d := (pk_lLT (by omega) (by omega)).mp ((lg_cmp_gt _ _).mp c33)
      refine lv_iconst (v := 1) hx hb d_Kin_rounded_57 (by decide) ?_
      refine lv_goto (tgt := 62) hx hb d_Kin_rounded_58 (by decide) ?_
      refine lv_istore (lv' := [(10, .int 1), (8, .long (lN (2 ^ (d - 1)))), (6, .long (lN (n % 2 ^ d))), (4, .long (lN (n / 2 ^ d))), (0, .long (lN n)), (2, .int (nI d)), (3, .int (bI mb))]) hx hb d_Kin_rounded_62 hl (by decide) rfl (fun ls hl => ?_)
      refine lv_iload hx hb d_Kin_rounded_64 (lv_at hl 0 rfl) ?_
      refine lv_if_eq (tgt := 76) hx hb d_Kin_rounded_66 (by decide) (fun c66 => ?_) (fun c66 => ?_)
      · exact absurd c66 (by decide)
      · refine lv_lload hx hb d_Kin_rounded_69 (lv_at hl 3 rfl) ?_
        refine lv_lconst (v := 1) hx hb d_Kin_rounded_71 (by decide) ?_
        refine lv_ladd hx hb d_Kin_rounded_72 ?_
        refine tv_l (lN (n / 2 ^ d + 1)) (lN_1 _) ?_
        refine lv_goto (tgt := 78) hx hb d_Kin_rounded_73 (by decide) ?_
        exact rt_l hx hb hrt hlocks (()) (by rw [rd_up (Or.inl e33)]) (hP.sub [] rfl) (hK.sub [] rfl) (hD.sub [] (by decide) rfl) hS d_Kin_rounded_78
    · have e33 : ¬ 2 ^ (d - 1) < n % 2 ^ d := fun z => c33 ((lg_cmp_gt _ _).mpr ((pk_lLT (by omega) (by omega)).mpr z))
      refine lv_lload hx hb d_Kin_rounded_36 (lv_at hl 1 rfl) ?_
      refine lv_lload hx hb d_Kin_rounded_38 (lv_at hl 0 rfl) ?_
      refine W.lcmp hx hb d_Kin_rounded_40 ?_
      refine lv_if_ne (tgt := 61) hx hb d_Kin_rounded_41 (by decide) (fun c41 => ?_) (fun c41 => ?_)
      · have e41 : n % 2 ^ d ≠ 2 ^ (d - 1) := fun z => c41 ((lg_cmp_eq _ _).mpr (by rw [z]))
        refine lv_iconst (v := 0) hx hb d_Kin_rounded_61 (by decide) ?_
        refine lv_istore (lv' := [(10, .int 0), (8, .long (lN (2 ^ (d - 1)))), (6, .long (lN (n % 2 ^ d))), (4, .long (lN (n / 2 ^ d))), (0, .long (lN n)), (2, .int (nI d)), (3, .int (bI mb))]) hx hb d_Kin_rounded_62 hl (by decide) rfl (fun ls hl => ?_)
        refine lv_iload hx hb d_Kin_rounded_64 (lv_at hl 0 rfl) ?_
        refine lv_if_eq (tgt := 76) hx hb d_Kin_rounded_66 (by decide) (fun c66 => ?_) (fun c66 => ?_)
        · refine lv_lload hx hb d_Kin_rounded_76 (lv_at hl 3 rfl) ?_
          exact rt_l hx hb hrt hlocks (()) (by rw [rd_dn (fun z => z.elim e33 (fun y => e41 y.1))]) (hP.sub [] rfl) (hK.sub [] rfl) (hD.sub [] (by decide) rfl) hS d_Kin_rounded_78
        · exact absurd rfl c66
      · have e41 : n % 2 ^ d = 2 ^ (d - 1) := (pk_lEQ (by omega) (by omega)).mp ((lg_cmp_eq _ _).mp c41)
        refine lv_iload_n hx hb d_Kin_rounded_44 rfl (lv_at hl 5 rfl) ?_
        refine lv_if_ne (tgt := 57) hx hb d_Kin_rounded_45 (by decide) (fun c45 => ?_) (fun c45 => ?_)
        · have e45 : mb = true := by cases mb; (· exact absurd rfl c45); rfl
          refine lv_iconst (v := 1) hx hb d_Kin_rounded_57 (by decide) ?_
          refine lv_goto (tgt := 62) hx hb d_Kin_rounded_58 (by decide) ?_
          refine lv_istore (lv' := [(10, .int 1), (8, .long (lN (2 ^ (d - 1)))), (6, .long (lN (n % 2 ^ d))), (4, .long (lN (n / 2 ^ d))), (0, .long (lN n)), (2, .int (nI d)), (3, .int (bI mb))]) hx hb d_Kin_rounded_62 hl (by decide) rfl (fun ls hl => ?_)
          refine lv_iload hx hb d_Kin_rounded_64 (lv_at hl 0 rfl) ?_
          refine lv_if_eq (tgt := 76) hx hb d_Kin_rounded_66 (by decide) (fun c66 => ?_) (fun c66 => ?_)
          · exact absurd c66 (by decide)
          · refine lv_lload hx hb d_Kin_rounded_69 (lv_at hl 3 rfl) ?_
            refine lv_lconst (v := 1) hx hb d_Kin_rounded_71 (by decide) ?_
            refine lv_ladd hx hb d_Kin_rounded_72 ?_
            refine tv_l (lN (n / 2 ^ d + 1)) (lN_1 _) ?_
            refine lv_goto (tgt := 78) hx hb d_Kin_rounded_73 (by decide) ?_
            exact rt_l hx hb hrt hlocks (()) (by rw [rd_up (Or.inr ⟨e41, Or.inl e45⟩)]) (hP.sub [] rfl) (hK.sub [] rfl) (hD.sub [] (by decide) rfl) hS d_Kin_rounded_78
        · have e45 : mb = false := (bI_0 mb).mp c45
          refine lv_lload hx hb d_Kin_rounded_48 (lv_at hl 2 rfl) ?_
          refine lv_lconst (v := 1) hx hb d_Kin_rounded_50 (by decide) ?_
          refine lv_land hx hb d_Kin_rounded_51 ?_
          refine tv_l (lN (n / 2 ^ d % 2)) (wb_a1 (by omega)) ?_
          refine lv_lconst (v := 1) hx hb d_Kin_rounded_52 (by decide) ?_
          refine W.lcmp hx hb d_Kin_rounded_53 ?_
          refine lv_if_ne (tgt := 61) hx hb d_Kin_rounded_54 (by decide) (fun c54 => ?_) (fun c54 => ?_)
          · have e54 : n / 2 ^ d % 2 ≠ 1 := fun z => c54 ((lg_cmp_eq _ _).mpr (by rw [z]; rfl))
            refine lv_iconst (v := 0) hx hb d_Kin_rounded_61 (by decide) ?_
            refine lv_istore (lv' := [(10, .int 0), (8, .long (lN (2 ^ (d - 1)))), (6, .long (lN (n % 2 ^ d))), (4, .long (lN (n / 2 ^ d))), (0, .long (lN n)), (2, .int (nI d)), (3, .int (bI mb))]) hx hb d_Kin_rounded_62 hl (by decide) rfl (fun ls hl => ?_)
            refine lv_iload hx hb d_Kin_rounded_64 (lv_at hl 0 rfl) ?_
            refine lv_if_eq (tgt := 76) hx hb d_Kin_rounded_66 (by decide) (fun c66 => ?_) (fun c66 => ?_)
            · refine lv_lload hx hb d_Kin_rounded_76 (lv_at hl 3 rfl) ?_
              exact rt_l hx hb hrt hlocks (()) (by rw [rd_dn (fun z => z.elim e33 (fun y => y.2.elim (fun q => absurd (e45.symm.trans q) (by decide)) e54))]) (hP.sub [] rfl) (hK.sub [] rfl) (hD.sub [] (by decide) rfl) hS d_Kin_rounded_78
            · exact absurd rfl c66
          · have e54 : n / 2 ^ d % 2 = 1 := (pk_lEQ (b := 1) (by omega) (by decide)).mp ((lg_cmp_eq _ _).mp c54)
            refine lv_iconst (v := 1) hx hb d_Kin_rounded_57 (by decide) ?_
            refine lv_goto (tgt := 62) hx hb d_Kin_rounded_58 (by decide) ?_
            refine lv_istore (lv' := [(10, .int 1), (8, .long (lN (2 ^ (d - 1)))), (6, .long (lN (n % 2 ^ d))), (4, .long (lN (n / 2 ^ d))), (0, .long (lN n)), (2, .int (nI d)), (3, .int (bI mb))]) hx hb d_Kin_rounded_62 hl (by decide) rfl (fun ls hl => ?_)
            refine lv_iload hx hb d_Kin_rounded_64 (lv_at hl 0 rfl) ?_
            refine lv_if_eq (tgt := 76) hx hb d_Kin_rounded_66 (by decide) (fun c66 => ?_) (fun c66 => ?_)
            · exact absurd c66 (by decide)
            · refine lv_lload hx hb d_Kin_rounded_69 (lv_at hl 3 rfl) ?_
              refine lv_lconst (v := 1) hx hb d_Kin_rounded_71 (by decide) ?_
              refine lv_ladd hx hb d_Kin_rounded_72 ?_
              refine tv_l (lN (n / 2 ^ d + 1)) (lN_1 _) ?_
              refine lv_goto (tgt := 78) hx hb d_Kin_rounded_73 (by decide) ?_
              exact rt_l hx hb hrt hlocks (()) (by rw [rd_up (Or.inr ⟨e41, Or.inr e54⟩)]) (hP.sub [] rfl) (hK.sub [] rfl) (hD.sub [] (by decide) rfl) hS d_Kin_rounded_78
  · have e3 : 63 < d := Nat.lt_of_not_le (fun z => c3 ((nI_leI (b := 63) (by omega) (by decide)).mpr z))
    refine lv_lconst (v := 0) hx hb d_Kin_rounded_6 (by decide) ?_
    exact rt_l hx hb hrt hlocks (()) (by rw [rd_lt hn63 e3]; rfl) (hP.sub [] rfl) (hK.sub [] rfl) (hD.sub [] (by decide) rfl) hS d_Kin_rounded_7

set_option maxHeartbeats 4000000 in
set_option maxRecDepth 100000 in
theorem c_Kin_nearest (l : Launch) (D : va_G) (E : evD) (i : Nat) (hi : i < 2) (n : Nat) (q : Int) (mb : Bool) (hn63 : n < 9223372036854775808) (hq1 : -10000000 ≤ q) (hq2 : q ≤ 10000000) : Cl (S := Unit) l y_Kin_nearest (wz y_Kin_nearest b_Kin_nearest 8 (some .long)) ({ frames := 1, cells := 0, slots := 0, locals := 30 }) D vcl (ev1 E) [.ref (E.1 i), .long (lN n), .int (zI q), .int (bI mb)] [] [] 0 0 (fun (r : Int64) (_ : Unit) => r = lN (kn (kP i) (kZ i) n (q + kLw i) mb)) (fun _ => []) (fun _ : Unit => []) := by
  have hev := ev1_ok E
  unfold Cl
  refine ct_of (y := y_Kin_nearest) (av := [.ref (E.1 i), .long (lN n), .int (zI q), .int (bI mb)]) (cc := b_Kin_nearest) (maxL := 8) (ret := (some .long)) (Qc := fun A => va_Ql (S := Unit) (fun (r : Int64) (_ : Unit) => r = lN (kn (kP i) (kZ i) n (q + kLw i) mb)) (fun u t => ctB D vcl ((fun _ => []) u) ((fun _ : Unit => []) u) A t) A) (by decide) rfl (Nat.le_of_ble_eq_true rfl) ?_
  intro p e s m below meth cde ls A H locs hx hb hml hrt hlocks hown hin hts hA hP hK hD hS hE hl
  have hown : s.vm.findClass R_Kin = some m.cls := hown
  have hts := wz_g hts
  have hl : lv_has ls 8 [(0, .ref (E.1 i)), (1, .long (lN n)), (3, .int (zI q)), (4, .int (bI mb))] := hl
  refine lv_lload_n hx hb d_Kin_nearest_0 rfl (lv_at hl 1 rfl) ?_
  refine lv_lconst (v := 0) hx hb d_Kin_nearest_1 (by decide) ?_
  refine W.lcmp hx hb d_Kin_nearest_2 ?_
  refine lv_if_ne (tgt := 8) hx hb d_Kin_nearest_3 (by decide) (fun c3 => ?_) (fun c3 => ?_)
  · have e3 : n ≠ 0 := fun z => c3 ((lg_cmp_eq _ _).mpr (by rw [z]; rfl))
    have hbl : bln n ≤ 63 := bln_le_of hn63
    obtain ⟨hk1, hk2, hk3, hk4, hk5, -⟩ := kP_b i hi
    obtain ⟨J, hJ⟩ : ∃ J : Nat, J = (q + kLw i + bln n - kP i).toNat := ⟨_, rfl⟩
    refine lv_iload_n hx hb d_Kin_nearest_8 rfl (lv_at hl 2 rfl) ?_
    refine lv_lload_n hx hb d_Kin_nearest_9 rfl (lv_at hl 1 rfl) ?_
    refine ca_i [] (va_runSN (As := [.long (lN n)]) (rest := [.int (zI q)]) ⟨hx, hb, hml, hown, hts⟩ (c_Rea_bitLengthOf l D E n (by omega) H.size) (xSN 1 hts kC_Rea_bitLengthOf hE.1.2.1 kT_Rea_bitLengthOf kN_Rea rfl rfl (by decide +kernel) ⟨Nat.le_of_ble_eq_true rfl, Nat.le_of_ble_eq_true rfl⟩) ⟨ct_blind hev, ct_pre hev hP hK hD hS hA hE [] rfl (by decide) [] rfl⟩ rfl rfl hl.1 rfl (lv_room (Nat.le_of_ble_eq_true rfl)) d_Kin_nearest_10 ⟨Nat.le_of_ble_eq_true rfl, Nat.le_of_ble_eq_true rfl⟩) hP hD hS hA [] [] rfl rfl (by decide) (by decide) (fun r u H locs hw hP hD hS hK1 => ?_)
    subst hw
    have hP : va_P D vcl [] H := hP
    have hD : va_D A [] := hD
    refine lv_iadd hx hb d_Kin_nearest_13 ?_
    refine tv_i (zI (q + bln n)) (by rw [← zI_nI, zI_add]) ?_
    refine lv_aload_n hx hb d_Kin_nearest_14 rfl (lv_at hl 0 rfl) ?_
    refine va_getE hx hb hE.2.1 (i := i) hi hS hown (q := kF[0]) (List.getElem_mem _) (hts _ kF_Kin_29) (fun _ h9 => h9) d_Kin_nearest_15 ?_
    refine tv_i (nI (kP i)) (kf_P i hi) ?_
    refine lv_isub hx hb d_Kin_nearest_18 ?_
    refine tv_i (zI (q + bln n - kP i)) (by rw [← zI_nI, zI_sub]) ?_
    refine lv_aload_n hx hb d_Kin_nearest_19 rfl (lv_at hl 0 rfl) ?_
    refine va_getE hx hb hE.2.1 (i := i) hi hS hown (q := kF[1]) (List.getElem_mem _) (hts _ kF_Kin_33) (fun _ h9 => h9) d_Kin_nearest_20 ?_
    refine tv_i (zI (-(kLw i : Int))) (kf_L i hi) ?_
    refine va_mmax hx hb (by rw [hml]; exact hl.1.symm) hown (hts _ kM_Kin_72) (hts _ kT_mmax) (hts _ kN_Math) (hts _ kC_mmax) (Nat.le_of_ble_eq_true rfl) (Nat.le_of_ble_eq_true rfl) (Nat.le_of_ble_eq_true rfl) (Nat.le_of_ble_eq_true rfl) d_Kin_nearest_23 ?_
    refine tv_i (zI ((J : Int) - kLw i)) (by rw [k_unit (by omega) (by omega) (by omega) (by omega), hJ]; congr 3; omega) ?_
    refine lv_istore (lv' := [(5, .int (zI ((J : Int) - kLw i))), (0, .ref (E.1 i)), (1, .long (lN n)), (3, .int (zI q)), (4, .int (bI mb))]) hx hb d_Kin_nearest_26 hl (by decide) rfl (fun ls hl => ?_)
    refine lv_iload hx hb d_Kin_nearest_28 (lv_at hl 0 rfl) ?_
    refine lv_aload_n hx hb d_Kin_nearest_30 rfl (lv_at hl 1 rfl) ?_
    refine va_getE hx hb hE.2.1 (i := i) hi hS hown (q := kF[2]) (List.getElem_mem _) (hts _ kF_Kin_36) (fun _ h9 => h9) d_Kin_nearest_31 ?_
    refine tv_i (zI ((kZ i : Int) - kLw i)) (kf_H i hi) ?_
    refine lv_icmp_le (tgt := 42) hx hb d_Kin_nearest_34 (by decide) (fun c34 => ?_) (fun c34 => ?_)
    · have e34 : ¬ kZ i < J := by have := (zI_le (by omega) (by omega) (by omega) (by omega)).mp c34; omega
      refine lv_iload hx hb d_Kin_nearest_42 (lv_at hl 0 rfl) ?_
      refine lv_iload_n hx hb d_Kin_nearest_44 rfl (lv_at hl 3 rfl) ?_
      refine lv_icmp_gt (tgt := 57) hx hb d_Kin_nearest_45 (by decide) (fun c45 => ?_) (fun c45 => ?_)
      · have e45 : ¬ (J : Int) ≤ q + kLw i := by have := (zI_lt (by omega) (by omega) (by omega) (by omega)).mp c45; omega
        refine lv_lload_n hx hb d_Kin_nearest_57 rfl (lv_at hl 2 rfl) ?_
        refine lv_iload hx hb d_Kin_nearest_58 (lv_at hl 0 rfl) ?_
        refine lv_iload_n hx hb d_Kin_nearest_60 rfl (lv_at hl 3 rfl) ?_
        refine lv_isub hx hb d_Kin_nearest_61 ?_
        refine tv_i (nI (J - (q + kLw i)).toNat) (by rw [zI_sub, ← zI_nI]; congr 1; omega) ?_
        refine lv_iload hx hb d_Kin_nearest_62 (lv_at hl 4 rfl) ?_
        refine ca_l [] (va_runS (As := [.long (lN n), .int (nI (J - (q + kLw i)).toNat), .int (bI mb)]) (rest := []) ⟨hx, hb, hml, hown, hts⟩ (c_Kin_rounded l D E n (J - (q + kLw i)).toNat mb (hn63) (by omega) (by omega) H.size) (xS 3 hts kC_Kin_rounded kM_Kin_78 kT_Kin_rounded kN_Kin rfl rfl (by decide +kernel) ⟨Nat.le_of_ble_eq_true rfl, Nat.le_of_ble_eq_true rfl⟩) ⟨ct_blind hev, ct_pre hev hP hK hD hS hA hE [] rfl (by decide) [] rfl⟩ rfl rfl hl.1 rfl (lv_room (Nat.le_of_ble_eq_true rfl)) d_Kin_nearest_64 ⟨Nat.le_of_ble_eq_true rfl, Nat.le_of_ble_eq_true rfl⟩) hP hD hS hA [] [] rfl rfl (by decide) (by decide) (fun r u H locs hw hP hD hS hK1 => ?_)
        subst hw
        have hP : va_P D vcl [] H := hP
        have hD : va_D A [] := hD
        refine lv_lstore (lv' := [(6, .long (lN (rd n (J - (q + kLw i)).toNat mb))), (5, .int (zI ((J : Int) - kLw i))), (0, .ref (E.1 i)), (1, .long (lN n)), (3, .int (zI q)), (4, .int (bI mb))]) hx hb d_Kin_nearest_67 hl (by decide) rfl (fun ls hl => ?_)
        refine lv_iload hx hb d_Kin_nearest_69 (lv_at hl 1 rfl) ?_
        refine lv_aload_n hx hb d_Kin_nearest_71 rfl (lv_at hl 2 rfl) ?_
        refine va_getE hx hb hE.2.1 (i := i) hi hS hown (q := kF[1]) (List.getElem_mem _) (hts _ kF_Kin_33) (fun _ h9 => h9) d_Kin_nearest_72 ?_
        refine tv_i (zI (-(kLw i : Int))) (kf_L i hi) ?_
        refine lv_isub hx hb d_Kin_nearest_75 ?_
        refine tv_i (zI (J : Int)) (by rw [zI_sub]; congr 1; omega) ?_
        refine lv_i2l (v := (zI (J : Int)).toInt64) hx hb d_Kin_nearest_76 (rfl) ?_
        refine tv_l (lN J) (zI_l (by omega)) ?_
        refine lv_aload_n hx hb d_Kin_nearest_77 rfl (lv_at hl 2 rfl) ?_
        refine va_getE hx hb hE.2.1 (i := i) hi hS hown (q := kF[0]) (List.getElem_mem _) (hts _ kF_Kin_29) (fun _ h9 => h9) d_Kin_nearest_78 ?_
        refine tv_i (nI (kP i)) (kf_P i hi) ?_
        refine lv_iconst (v := 1) hx hb d_Kin_nearest_81 (by decide) ?_
        refine lv_isub hx hb d_Kin_nearest_82 ?_
        refine tv_i (nI (kP i - 1)) (nI_dec (by omega)) ?_
        refine lv_lshl (v := lN (J * 2 ^ (kP i - 1))) hx hb d_Kin_nearest_83 (wb_shl _ (by omega)) ?_
        refine lv_lload hx hb d_Kin_nearest_84 (lv_at hl 0 rfl) ?_
        refine lv_ladd hx hb d_Kin_nearest_86 ?_
        exact rt_l hx hb hrt hlocks (()) (by rw [kn_rd e3 hJ e34 e45, lN_add]) (hP.sub [] rfl) (hK.sub [] rfl) (hD.sub [] (by decide) rfl) hS d_Kin_nearest_87
      · have e45 : (J : Int) ≤ q + kLw i := by have := mt (zI_lt (by omega) (by omega) (by omega) (by omega)).mpr c45; omega
        refine lv_lload_n hx hb d_Kin_nearest_48 rfl (lv_at hl 2 rfl) ?_
        refine lv_iload_n hx hb d_Kin_nearest_49 rfl (lv_at hl 3 rfl) ?_
        refine lv_iload hx hb d_Kin_nearest_50 (lv_at hl 0 rfl) ?_
        refine lv_isub hx hb d_Kin_nearest_52 ?_
        refine tv_i (nI (q + kLw i - J).toNat) (by rw [zI_sub, ← zI_nI]; congr 1; omega) ?_
        refine lv_lshl (v := lN (n * 2 ^ (q + kLw i - J).toNat)) hx hb d_Kin_nearest_53 (wb_shl _ (by omega)) ?_
        refine lv_goto (tgt := 67) hx hb d_Kin_nearest_54 (by decide) ?_
        refine lv_lstore (lv' := [(6, .long (lN (n * 2 ^ (q + kLw i - J).toNat))), (5, .int (zI ((J : Int) - kLw i))), (0, .ref (E.1 i)), (1, .long (lN n)), (3, .int (zI q)), (4, .int (bI mb))]) hx hb d_Kin_nearest_67 hl (by decide) rfl (fun ls hl => ?_)
        refine lv_iload hx hb d_Kin_nearest_69 (lv_at hl 1 rfl) ?_
        refine lv_aload_n hx hb d_Kin_nearest_71 rfl (lv_at hl 2 rfl) ?_
        refine va_getE hx hb hE.2.1 (i := i) hi hS hown (q := kF[1]) (List.getElem_mem _) (hts _ kF_Kin_33) (fun _ h9 => h9) d_Kin_nearest_72 ?_
        refine tv_i (zI (-(kLw i : Int))) (kf_L i hi) ?_
        refine lv_isub hx hb d_Kin_nearest_75 ?_
        refine tv_i (zI (J : Int)) (by rw [zI_sub]; congr 1; omega) ?_
        refine lv_i2l (v := (zI (J : Int)).toInt64) hx hb d_Kin_nearest_76 (rfl) ?_
        refine tv_l (lN J) (zI_l (by omega)) ?_
        refine lv_aload_n hx hb d_Kin_nearest_77 rfl (lv_at hl 2 rfl) ?_
        refine va_getE hx hb hE.2.1 (i := i) hi hS hown (q := kF[0]) (List.getElem_mem _) (hts _ kF_Kin_29) (fun _ h9 => h9) d_Kin_nearest_78 ?_
        refine tv_i (nI (kP i)) (kf_P i hi) ?_
        refine lv_iconst (v := 1) hx hb d_Kin_nearest_81 (by decide) ?_
        refine lv_isub hx hb d_Kin_nearest_82 ?_
        refine tv_i (nI (kP i - 1)) (nI_dec (by omega)) ?_
        refine lv_lshl (v := lN (J * 2 ^ (kP i - 1))) hx hb d_Kin_nearest_83 (wb_shl _ (by omega)) ?_
        refine lv_lload hx hb d_Kin_nearest_84 (lv_at hl 0 rfl) ?_
        refine lv_ladd hx hb d_Kin_nearest_86 ?_
        exact rt_l hx hb hrt hlocks (()) (by rw [kn_ex e3 hJ e34 e45, lN_add]) (hP.sub [] rfl) (hK.sub [] rfl) (hD.sub [] (by decide) rfl) hS d_Kin_nearest_87
    · have e34 : kZ i < J := by have := mt (zI_le (by omega) (by omega) (by omega) (by omega)).mpr c34; omega
      refine lv_aload_n hx hb d_Kin_nearest_37 rfl (lv_at hl 1 rfl) ?_
      refine va_getX hx hb hE.2.2.2.1 (i := i) hi hS hown (hts _ kF_Kin_48) (fun _ h9 => h9) d_Kin_nearest_38 ?_
      refine tv_l (lN (kIN i)) (kf_I i hi) ?_
      exact rt_l hx hb hrt hlocks (()) (by rw [kn_inf e3 hJ e34]; rfl) (hP.sub [] rfl) (hK.sub [] rfl) (hD.sub [] (by decide) rfl) hS d_Kin_nearest_41
  · have e3 : n = 0 := (lN_ne0 (by omega)).mp ((lg_cmp_eq _ _).mp c3)
    refine lv_lconst (v := 0) hx hb d_Kin_nearest_6 (by decide) ?_
    exact rt_l hx hb hrt hlocks (()) (by rw [e3, kn_0]; rfl) (hP.sub [] rfl) (hK.sub [] rfl) (hD.sub [] (by decide) rfl) hS d_Kin_nearest_7
end
section
theorem isB_nb {f : Nat → Int32} {n V : Nat} (h : isB f n V) : 32 * n ≤ bln V + 31 := by
  cases n with
  | zero => omega
  | succ n =>
    have hne : f n ≠ 0 := by
      rcases h.2.2 with z | z
      · omega
      · exact z
    have := bl_B h
    have := bln_pos (w32_ne hne)
    omega
theorem bl_pow {N s : Nat} (h : N ≠ 0) : N * 2 ^ s < 2 ^ (bln N + s) := by
  rw [Nat.pow_add]; exact Nat.mul_lt_mul_of_pos_right (bln_lt N) (Nat.two_pow_pos s)
theorem pw96 {Y e : Nat} (h : Y < 2 ^ e) (he : e ≤ 3000) : 2 * Y < pw 96 := by
  have h1 : 2 ^ e ≤ 2 ^ 3000 := two_pow_le he
  have h2 : (2 : Nat) * 2 ^ 3000 ≤ pw 96 := by decide +kernel
  omega
theorem fd_start {N D s1 s2 : Nat} (hN : N ≠ 0) (hD : D ≠ 0) (hb : bln N + s1 = bln D + s2) : N * 2 ^ s1 * 2 ^ 0 = 2 * (0 * (D * 2 ^ s2)) + N * 2 ^ s1 ∧ N * 2 ^ s1 < 2 * (D * 2 ^ s2) := by
  constructor
  · rw [Nat.pow_zero, Nat.mul_one, Nat.zero_mul]; omega
  · have d1 := bln_le hD
    have d0 := bln_pos hD
    have h1 := bl_pow (s := s1) hN
    have h2 : 2 ^ (bln D - 1 + s2) ≤ D * 2 ^ s2 := by rw [Nat.pow_add]; exact Nat.mul_le_mul_right _ d1
    have e : bln N + s1 = bln D - 1 + s2 + 1 := by omega
    rw [e, Nat.pow_succ] at h1
    omega
theorem l1_or {n : Nat} (h : n < 9223372036854775808) : lN (n * 2) ||| 1 = lN (2 * n + 1) := by
  show lN (n * 2) ||| lN 1 = _
  rw [wb_or (by omega) (by decide)]
  congr 1
  have := Nat.two_pow_add_eq_or_of_lt (i := 1) (b := 1) (by decide) n
  rw [show n * 2 = 2 ^ 1 * n by omega, ← this]
end
section
theorem d_Fra_nearest_0 : decode b_Fra_nearest 0 = .ok (.aload_n 0, 1) := by decide +kernel
theorem d_Fra_nearest_1 : decode b_Fra_nearest 1 = .ok (.getfield 10, 3) := by decide +kernel
theorem d_Fra_nearest_4 : decode b_Fra_nearest 4 = .ok (.invokevirtual 19, 3) := by decide +kernel
theorem d_Fra_nearest_7 : decode b_Fra_nearest 7 = .ok (.aload_n 0, 1) := by decide +kernel
theorem d_Fra_nearest_8 : decode b_Fra_nearest 8 = .ok (.getfield 16, 3) := by decide +kernel
theorem d_Fra_nearest_11 : decode b_Fra_nearest 11 = .ok (.invokevirtual 19, 3) := by decide +kernel
theorem d_Fra_nearest_14 : decode b_Fra_nearest 14 = .ok (.isub, 1) := by decide +kernel
theorem d_Fra_nearest_15 : decode b_Fra_nearest 15 = .ok (.istore_n 3, 1) := by decide +kernel
theorem d_Fra_nearest_16 : decode b_Fra_nearest 16 = .ok (.iload_n 3, 1) := by decide +kernel
theorem d_Fra_nearest_17 : decode b_Fra_nearest 17 = .ok (.ifCond .ge 15, 3) := by decide +kernel
theorem d_Fra_nearest_20 : decode b_Fra_nearest 20 = .ok (.aload_n 0, 1) := by decide +kernel
theorem d_Fra_nearest_21 : decode b_Fra_nearest 21 = .ok (.getfield 10, 3) := by decide +kernel
theorem d_Fra_nearest_24 : decode b_Fra_nearest 24 = .ok (.iload_n 3, 1) := by decide +kernel
theorem d_Fra_nearest_25 : decode b_Fra_nearest 25 = .ok (.ineg, 1) := by decide +kernel
theorem d_Fra_nearest_26 : decode b_Fra_nearest 26 = .ok (.invokevirtual 23, 3) := by decide +kernel
theorem d_Fra_nearest_29 : decode b_Fra_nearest 29 = .ok (.goto 11, 3) := by decide +kernel
theorem d_Fra_nearest_32 : decode b_Fra_nearest 32 = .ok (.aload_n 0, 1) := by decide +kernel
theorem d_Fra_nearest_33 : decode b_Fra_nearest 33 = .ok (.getfield 16, 3) := by decide +kernel
theorem d_Fra_nearest_36 : decode b_Fra_nearest 36 = .ok (.iload_n 3, 1) := by decide +kernel
theorem d_Fra_nearest_37 : decode b_Fra_nearest 37 = .ok (.invokevirtual 23, 3) := by decide +kernel
theorem d_Fra_nearest_40 : decode b_Fra_nearest 40 = .ok (.aload_n 1, 1) := by decide +kernel
theorem d_Fra_nearest_41 : decode b_Fra_nearest 41 = .ok (.getfield 27, 3) := by decide +kernel
theorem d_Fra_nearest_44 : decode b_Fra_nearest 44 = .ok (.iconst 2, 1) := by decide +kernel
theorem d_Fra_nearest_45 : decode b_Fra_nearest 45 = .ok (.iadd, 1) := by decide +kernel
theorem d_Fra_nearest_46 : decode b_Fra_nearest 46 = .ok (.istore 4, 2) := by decide +kernel
theorem d_Fra_nearest_48 : decode b_Fra_nearest 48 = .ok (.lconst 0, 1) := by decide +kernel
theorem d_Fra_nearest_49 : decode b_Fra_nearest 49 = .ok (.lstore 5, 2) := by decide +kernel
theorem d_Fra_nearest_51 : decode b_Fra_nearest 51 = .ok (.iconst 0, 1) := by decide +kernel
theorem d_Fra_nearest_52 : decode b_Fra_nearest 52 = .ok (.istore 7, 2) := by decide +kernel
theorem d_Fra_nearest_54 : decode b_Fra_nearest 54 = .ok (.iload 7, 2) := by decide +kernel
theorem d_Fra_nearest_56 : decode b_Fra_nearest 56 = .ok (.iload 4, 2) := by decide +kernel
theorem d_Fra_nearest_58 : decode b_Fra_nearest 58 = .ok (.if_icmp .ge 55, 3) := by decide +kernel
theorem d_Fra_nearest_61 : decode b_Fra_nearest 61 = .ok (.lload 5, 2) := by decide +kernel
theorem d_Fra_nearest_63 : decode b_Fra_nearest 63 = .ok (.iconst 1, 1) := by decide +kernel
theorem d_Fra_nearest_64 : decode b_Fra_nearest 64 = .ok (.lshl, 1) := by decide +kernel
theorem d_Fra_nearest_65 : decode b_Fra_nearest 65 = .ok (.lstore 5, 2) := by decide +kernel
theorem d_Fra_nearest_67 : decode b_Fra_nearest 67 = .ok (.aload_n 0, 1) := by decide +kernel
theorem d_Fra_nearest_68 : decode b_Fra_nearest 68 = .ok (.getfield 10, 3) := by decide +kernel
theorem d_Fra_nearest_71 : decode b_Fra_nearest 71 = .ok (.aload_n 0, 1) := by decide +kernel
theorem d_Fra_nearest_72 : decode b_Fra_nearest 72 = .ok (.getfield 16, 3) := by decide +kernel
theorem d_Fra_nearest_75 : decode b_Fra_nearest 75 = .ok (.invokevirtual 33, 3) := by decide +kernel
theorem d_Fra_nearest_78 : decode b_Fra_nearest 78 = .ok (.ifCond .eq 20, 3) := by decide +kernel
theorem d_Fra_nearest_81 : decode b_Fra_nearest 81 = .ok (.aload_n 0, 1) := by decide +kernel
theorem d_Fra_nearest_82 : decode b_Fra_nearest 82 = .ok (.getfield 10, 3) := by decide +kernel
theorem d_Fra_nearest_85 : decode b_Fra_nearest 85 = .ok (.aload_n 0, 1) := by decide +kernel
theorem d_Fra_nearest_86 : decode b_Fra_nearest 86 = .ok (.getfield 16, 3) := by decide +kernel
theorem d_Fra_nearest_89 : decode b_Fra_nearest 89 = .ok (.invokevirtual 37, 3) := by decide +kernel
theorem d_Fra_nearest_92 : decode b_Fra_nearest 92 = .ok (.lload 5, 2) := by decide +kernel
theorem d_Fra_nearest_94 : decode b_Fra_nearest 94 = .ok (.lconst 1, 1) := by decide +kernel
theorem d_Fra_nearest_95 : decode b_Fra_nearest 95 = .ok (.lor, 1) := by decide +kernel
theorem d_Fra_nearest_96 : decode b_Fra_nearest 96 = .ok (.lstore 5, 2) := by decide +kernel
theorem d_Fra_nearest_98 : decode b_Fra_nearest 98 = .ok (.aload_n 0, 1) := by decide +kernel
theorem d_Fra_nearest_99 : decode b_Fra_nearest 99 = .ok (.getfield 10, 3) := by decide +kernel
theorem d_Fra_nearest_102 : decode b_Fra_nearest 102 = .ok (.iconst 2, 1) := by decide +kernel
theorem d_Fra_nearest_103 : decode b_Fra_nearest 103 = .ok (.iconst 0, 1) := by decide +kernel
theorem d_Fra_nearest_104 : decode b_Fra_nearest 104 = .ok (.invokevirtual 41, 3) := by decide +kernel
theorem d_Fra_nearest_107 : decode b_Fra_nearest 107 = .ok (.iinc 7 1, 3) := by decide +kernel
theorem d_Fra_nearest_110 : decode b_Fra_nearest 110 = .ok (.goto (-56), 3) := by decide +kernel
theorem d_Fra_nearest_113 : decode b_Fra_nearest 113 = .ok (.aload_n 1, 1) := by decide +kernel
theorem d_Fra_nearest_114 : decode b_Fra_nearest 114 = .ok (.lload 5, 2) := by decide +kernel
theorem d_Fra_nearest_116 : decode b_Fra_nearest 116 = .ok (.iload_n 2, 1) := by decide +kernel
theorem d_Fra_nearest_117 : decode b_Fra_nearest 117 = .ok (.iload_n 3, 1) := by decide +kernel
theorem d_Fra_nearest_118 : decode b_Fra_nearest 118 = .ok (.iadd, 1) := by decide +kernel
theorem d_Fra_nearest_119 : decode b_Fra_nearest 119 = .ok (.iload 4, 2) := by decide +kernel
theorem d_Fra_nearest_121 : decode b_Fra_nearest 121 = .ok (.iconst 1, 1) := by decide +kernel
theorem d_Fra_nearest_122 : decode b_Fra_nearest 122 = .ok (.isub, 1) := by decide +kernel
theorem d_Fra_nearest_123 : decode b_Fra_nearest 123 = .ok (.isub, 1) := by decide +kernel
theorem d_Fra_nearest_124 : decode b_Fra_nearest 124 = .ok (.aload_n 0, 1) := by decide +kernel
theorem d_Fra_nearest_125 : decode b_Fra_nearest 125 = .ok (.getfield 10, 3) := by decide +kernel
theorem d_Fra_nearest_128 : decode b_Fra_nearest 128 = .ok (.invokevirtual 45, 3) := by decide +kernel
theorem d_Fra_nearest_131 : decode b_Fra_nearest 131 = .ok (.ifCond .ne 7, 3) := by decide +kernel
theorem d_Fra_nearest_134 : decode b_Fra_nearest 134 = .ok (.iconst 1, 1) := by decide +kernel
theorem d_Fra_nearest_135 : decode b_Fra_nearest 135 = .ok (.goto 4, 3) := by decide +kernel
theorem d_Fra_nearest_138 : decode b_Fra_nearest 138 = .ok (.iconst 0, 1) := by decide +kernel
theorem d_Fra_nearest_139 : decode b_Fra_nearest 139 = .ok (.invokevirtual 49, 3) := by decide +kernel
theorem d_Fra_nearest_142 : decode b_Fra_nearest 142 = .ok (.lreturn, 1) := by decide +kernel
theorem d_Fra_init_0 : decode b_Fra_init 0 = .ok (.aload_n 0, 1) := by decide +kernel
theorem d_Fra_init_1 : decode b_Fra_init 1 = .ok (.invokespecial 1, 3) := by decide +kernel
theorem d_Fra_init_4 : decode b_Fra_init 4 = .ok (.aload_n 0, 1) := by decide +kernel
theorem d_Fra_init_5 : decode b_Fra_init 5 = .ok (.new 7, 3) := by decide +kernel
theorem d_Fra_init_8 : decode b_Fra_init 8 = .ok (.dup, 1) := by decide +kernel
theorem d_Fra_init_9 : decode b_Fra_init 9 = .ok (.invokespecial 9, 3) := by decide +kernel
theorem d_Fra_init_12 : decode b_Fra_init 12 = .ok (.putfield 10, 3) := by decide +kernel
theorem d_Fra_init_15 : decode b_Fra_init 15 = .ok (.aload_n 0, 1) := by decide +kernel
theorem d_Fra_init_16 : decode b_Fra_init 16 = .ok (.new 7, 3) := by decide +kernel
theorem d_Fra_init_19 : decode b_Fra_init 19 = .ok (.dup, 1) := by decide +kernel
theorem d_Fra_init_20 : decode b_Fra_init 20 = .ok (.invokespecial 9, 3) := by decide +kernel
theorem d_Fra_init_23 : decode b_Fra_init 23 = .ok (.putfield 16, 3) := by decide +kernel
theorem d_Fra_init_26 : decode b_Fra_init 26 = .ok (.return_, 1) := by decide +kernel
set_option maxHeartbeats 4000000 in
set_option maxRecDepth 100000 in
theorem c_Fra_nearest (l : Launch) (D : va_G) (E : evD) (i : Nat) (hi : i < 2) (h t ta b ba : Nat) (cA cB : ClassId) (f g : Nat → Int32) (n k N Dn : Nat) (wp : Int) (hB : isB f n N) (hO : isB g k Dn) (hNn : N ≠ 0) (hDn : Dn ≠ 0) (hbN : bln N ≤ 2900) (hbD : bln Dn ≤ 2900) (hw1 : -1000000 ≤ wp) (hw2 : wp ≤ 1000000) : Cl (S := ((Nat → Int32) × Nat) × ((Nat → Int32) × Nat)) l y_Fra_nearest (wz y_Fra_nearest b_Fra_nearest 8 (some .long)) ({ frames := 2, cells := 0, slots := 0, locals := 57 }) D vcl (ev1 E) [.ref h, .ref (E.1 i), .int (zI wp)] [(cA, .int), (cB, .int)] [(h, .inr (2, [.ref t, .ref b])), (t, .inr (0, [.ref ta, .int (nI n)])), (ta, .inl (cA, 96, .inl f)), (b, .inr (0, [.ref ba, .int (nI k)])), (ba, .inl (cB, 96, .inl g))] 0 0 (fun (r : Int64) (_ : ((Nat → Int32) × Nat) × ((Nat → Int32) × Nat)) => r = lN (frn (kP i) (kZ i) (kLw i) N Dn wp)) (fun _ => [(cA, .int), (cB, .int)]) (fun u : ((Nat → Int32) × Nat) × ((Nat → Int32) × Nat) => [(h, .inr (2, [.ref t, .ref b])), (t, .inr (0, [.ref ta, .int (nI u.1.2)])), (ta, .inl (cA, 96, .inl u.1.1)), (b, .inr (0, [.ref ba, .int (nI u.2.2)])), (ba, .inl (cB, 96, .inl u.2.1))]) := by
  have hev := ev1_ok E
  unfold Cl
  refine ct_of (y := y_Fra_nearest) (av := [.ref h, .ref (E.1 i), .int (zI wp)]) (cc := b_Fra_nearest) (maxL := 8) (ret := (some .long)) (Qc := fun A => va_Ql (S := ((Nat → Int32) × Nat) × ((Nat → Int32) × Nat)) (fun (r : Int64) (_ : ((Nat → Int32) × Nat) × ((Nat → Int32) × Nat)) => r = lN (frn (kP i) (kZ i) (kLw i) N Dn wp)) (fun u tS => ctB D vcl ((fun _ => [(cA, .int), (cB, .int)]) u) ((fun u : ((Nat → Int32) × Nat) × ((Nat → Int32) × Nat) => [(h, .inr (2, [.ref t, .ref b])), (t, .inr (0, [.ref ta, .int (nI u.1.2)])), (ta, .inl (cA, 96, .inl u.1.1)), (b, .inr (0, [.ref ba, .int (nI u.2.2)])), (ba, .inl (cB, 96, .inl u.2.1))]) u) A tS) A) (by decide) rfl (Nat.le_of_ble_eq_true rfl) ?_
  intro p e s m below meth cde ls A H locs hx hb hml hrt hlocks hown hin hts hA hP hK hD hS hE hl
  have hown : s.vm.findClass R_Fra = some m.cls := hown
  have hts := wz_g hts
  have hl : lv_has ls 8 [(0, .ref h), (1, .ref (E.1 i)), (2, .int (zI wp))] := hl
  obtain ⟨hk1, hk2, hk3, hk4, hk5, -⟩ := kP_b i hi
  obtain ⟨s1, hs1⟩ : ∃ s1 : Nat, s1 = bln Dn - bln N := ⟨_, rfl⟩
  obtain ⟨s2, hs2⟩ : ∃ s2 : Nat, s2 = bln N - bln Dn := ⟨_, rfl⟩
  have hbl : bln N + s1 = bln Dn + s2 := by omega
  refine lv_aload_n hx hb d_Fra_nearest_0 rfl (lv_at hl 0 rfl) ?_
  refine va_get (D := D) (ci := 2) (v := .ref t) (C := R_Fra) (T := F_Fra) (N := 2) hx hb hts w_Fra hown hK hP 0 rfl rfl 0 (by decide) (hts _ kF_Fra_10) (fun _ h9 => h9) rfl d_Fra_nearest_1 ?_
  refine ca_i [(h, .inr (2, [.ref t, .ref b])), (b, .inr (0, [.ref ba, .int (nI k)])), (ba, .inl (cB, 96, .inl g))] (va_runV (As := []) (rest := []) ⟨hx, hb, hml, hown, hts⟩ (c_Big_bitLength l D E t ta cA f n N hB H.size) (xV 0 hts kC_Big_bitLength kM_Fra_19 kI_Big_bitLength kS_Big_bitLength kN_Big rfl rfl (by decide +kernel) ⟨Nat.le_of_ble_eq_true rfl, Nat.le_of_ble_eq_true rfl⟩) ⟨ct_blind hev, va_recv hK hP (ci := 0) (q0 := 1) rfl rfl, ct_pre hev hP hK hD hS hA hE [1, 2] rfl (by decide) [0] rfl⟩ rfl rfl hl.1 rfl (lv_room (Nat.le_of_ble_eq_true rfl)) d_Fra_nearest_4 ⟨Nat.le_of_ble_eq_true rfl, Nat.le_of_ble_eq_true rfl⟩) hP hD hS hA [1, 2] [0, 3, 4] rfl rfl (by decide) (by decide) (fun r u H locs hw hP hD hS hK1 => ?_)
  subst hw
  have hP : va_P D vcl [(h, .inr (2, [.ref t, .ref b])), (b, .inr (0, [.ref ba, .int (nI k)])), (ba, .inl (cB, 96, .inl g)), (t, .inr (0, [.ref ta, .int (nI n)])), (ta, .inl (cA, 96, .inl f))] H := hP
  have hD : va_D A [(h, .inr (2, [.ref t, .ref b])), (b, .inr (0, [.ref ba, .int (nI k)])), (ba, .inl (cB, 96, .inl g)), (t, .inr (0, [.ref ta, .int (nI n)])), (ta, .inl (cA, 96, .inl f))] := hD
  refine lv_aload_n hx hb d_Fra_nearest_7 rfl (lv_at hl 0 rfl) ?_
  refine va_get (D := D) (ci := 2) (v := .ref b) (C := R_Fra) (T := F_Fra) (N := 2) hx hb hts w_Fra hown hK hP 0 rfl rfl 1 (by decide) (hts _ kF_Fra_16) (fun _ h9 => h9) rfl d_Fra_nearest_8 ?_
  refine ca_i [(h, .inr (2, [.ref t, .ref b])), (t, .inr (0, [.ref ta, .int (nI n)])), (ta, .inl (cA, 96, .inl f))] (va_runV (As := []) (rest := [.int (nI (bln N))]) ⟨hx, hb, hml, hown, hts⟩ (c_Big_bitLength l D E b ba cB g k Dn hO H.size) (xV 0 hts kC_Big_bitLength kM_Fra_19 kI_Big_bitLength kS_Big_bitLength kN_Big rfl rfl (by decide +kernel) ⟨Nat.le_of_ble_eq_true rfl, Nat.le_of_ble_eq_true rfl⟩) ⟨ct_blind hev, va_recv hK hP (ci := 0) (q0 := 1) rfl rfl, ct_pre hev hP hK hD hS hA hE [1, 2] rfl (by decide) [1] rfl⟩ rfl rfl hl.1 rfl (lv_room (Nat.le_of_ble_eq_true rfl)) d_Fra_nearest_11 ⟨Nat.le_of_ble_eq_true rfl, Nat.le_of_ble_eq_true rfl⟩) hP hD hS hA [1, 2] [0, 3, 4] rfl rfl (by decide) (by decide) (fun r u H locs hw hP hD hS hK1 => ?_)
  subst hw
  have hP : va_P D vcl [(h, .inr (2, [.ref t, .ref b])), (t, .inr (0, [.ref ta, .int (nI n)])), (ta, .inl (cA, 96, .inl f)), (b, .inr (0, [.ref ba, .int (nI k)])), (ba, .inl (cB, 96, .inl g))] H := hP
  have hD : va_D A [(h, .inr (2, [.ref t, .ref b])), (t, .inr (0, [.ref ta, .int (nI n)])), (ta, .inl (cA, 96, .inl f)), (b, .inr (0, [.ref ba, .int (nI k)])), (ba, .inl (cB, 96, .inl g))] := hD
  refine lv_isub hx hb d_Fra_nearest_14 ?_
  refine tv_i (zI ((s2 : Int) - s1)) (by rw [← zI_nI, ← zI_nI, zI_sub]; congr 1; omega) ?_
  refine lv_istore_n (lv' := [(3, .int (zI ((s2 : Int) - s1))), (0, .ref h), (1, .ref (E.1 i)), (2, .int (zI wp))]) hx hb d_Fra_nearest_15 rfl hl (by decide) rfl (fun ls hl => ?_)
  refine lv_iload_n hx hb d_Fra_nearest_16 rfl (lv_at hl 0 rfl) ?_
  refine lv_if_ge (tgt := 32) hx hb d_Fra_nearest_17 (by decide) (fun c17 => ?_) (fun c17 => ?_)
  · have e17 : 0 ≤ (s2 : Int) - s1 := (zI_le (a := 0) (by omega) (by omega) (by omega) (by omega)).mp c17
    refine lv_aload_n hx hb d_Fra_nearest_32 rfl (lv_at hl 1 rfl) ?_
    refine va_get (D := D) (ci := 2) (v := .ref b) (C := R_Fra) (T := F_Fra) (N := 2) hx hb hts w_Fra hown hK hP 0 rfl rfl 1 (by decide) (hts _ kF_Fra_16) (fun _ h9 => h9) rfl d_Fra_nearest_33 ?_
    refine lv_iload_n hx hb d_Fra_nearest_36 rfl (lv_at hl 0 rfl) ?_
    refine tv_i (nI s2) (by rw [← zI_nI]; congr 1; omega) ?_
    refine ca_v [(h, .inr (2, [.ref t, .ref b])), (t, .inr (0, [.ref ta, .int (nI n)])), (ta, .inl (cA, 96, .inl f))] (va_runV (As := [.int (nI s2)]) (rest := []) ⟨hx, hb, hml, hown, hts⟩ (c_Big_shiftLeft l D E b ba cB g k Dn s2 hO (by omega) (by have := isB_nb hO; omega) H.size) (xV 1 hts kC_Big_shiftLeft kM_Fra_23 kI_Big_shiftLeft kS_Big_shiftLeft kN_Big rfl rfl (by decide +kernel) ⟨Nat.le_of_ble_eq_true rfl, Nat.le_of_ble_eq_true rfl⟩) ⟨ct_blind hev, va_recv hK hP (ci := 0) (q0 := 3) rfl rfl, ct_pre hev hP hK hD hS hA hE [3, 4] rfl (by decide) [1] rfl⟩ rfl rfl hl.1 rfl (lv_room (Nat.le_of_ble_eq_true rfl)) d_Fra_nearest_37 ⟨Nat.le_of_ble_eq_true rfl, Nat.le_of_ble_eq_true rfl⟩) hP hD hS hA [3, 4] [0, 1, 2] rfl rfl (by decide) (by decide) (fun u H locs hw hP hD hS hK1 => ?_)
    obtain ⟨f1, n2⟩ := u
    have hB3 : isB f1 n2 (Dn * 2 ^ s2) := hw
    have hP : va_P D vcl [(h, .inr (2, [.ref t, .ref b])), (t, .inr (0, [.ref ta, .int (nI n)])), (ta, .inl (cA, 96, .inl f)), (b, .inr (0, [.ref ba, .int (nI n2)])), (ba, .inl (cB, 96, .inl f1))] H := hP
    have hD : va_D A [(h, .inr (2, [.ref t, .ref b])), (t, .inr (0, [.ref ta, .int (nI n)])), (ta, .inl (cA, 96, .inl f)), (b, .inr (0, [.ref ba, .int (nI n2)])), (ba, .inl (cB, 96, .inl f1))] := hD
    have hX : isB f n (N * 2 ^ s1) := by rw [show s1 = 0 by omega, Nat.pow_zero, Nat.mul_one]; exact hB
    obtain ⟨hst, hlt0⟩ := fd_start hNn hDn hbl
    have hfitY := pw96 (bl_pow (s := s2) hDn) (by omega)
    refine lv_aload_n hx hb d_Fra_nearest_40 rfl (lv_at hl 2 rfl) ?_
    refine va_getE hx hb hE.2.1 (i := i) hi hS hown (q := kF[0]) (List.getElem_mem _) (hts _ kF_Fra_27) (fun _ h9 => h9) d_Fra_nearest_41 ?_
    refine tv_i (nI (kP i)) (kf_P i hi) ?_
    refine lv_iconst (v := 2) hx hb d_Fra_nearest_44 (by decide) ?_
    refine lv_iadd hx hb d_Fra_nearest_45 ?_
    refine tv_i (nI (kP i + 2)) (nI_add _ 2) ?_
    refine lv_istore (lv' := [(4, .int (nI (kP i + 2))), (3, .int (zI ((s2 : Int) - s1))), (0, .ref h), (1, .ref (E.1 i)), (2, .int (zI wp))]) hx hb d_Fra_nearest_46 hl (by decide) rfl (fun ls hl => ?_)
    refine lv_lconst (v := 0) hx hb d_Fra_nearest_48 (by decide) ?_
    refine tv_l (lN 0) (rfl) ?_
    refine lv_lstore (lv' := [(5, .long (lN 0)), (4, .int (nI (kP i + 2))), (3, .int (zI ((s2 : Int) - s1))), (0, .ref h), (1, .ref (E.1 i)), (2, .int (zI wp))]) hx hb d_Fra_nearest_49 hl (by decide) rfl (fun ls hl => ?_)
    refine lv_iconst (v := 0) hx hb d_Fra_nearest_51 (by decide) ?_
    refine tv_i (nI 0) (rfl) ?_
    refine lv_istore (lv' := [(7, .int (nI 0)), (5, .long (lN 0)), (4, .int (nI (kP i + 2))), (3, .int (zI ((s2 : Int) - s1))), (0, .ref h), (1, .ref (E.1 i)), (2, .int (zI wp))]) hx hb d_Fra_nearest_52 hl (by decide) rfl (fun ls hl => ?_)
    have L54 : ∀ (kk : Nat) (j : Nat) (lead : Nat) (tt : Nat) (ft : Nat → Int32) (nt : Nat), kP i + 2 - j < kk → (j ≤ kP i + 2) → (lead < 2 ^ j) → (N * 2 ^ s1 * 2 ^ j = 2 * (lead * (Dn * 2 ^ s2)) + tt) → (tt < 2 * (Dn * 2 ^ s2)) → (isB ft nt tt) → ∀ (H : Heap) (locs : List Loc) (ls : Array Slot), va_P D vcl [(h, .inr (2, [.ref t, .ref b])), (t, .inr (0, [.ref ta, .int (nI nt)])), (ta, .inl (cA, 96, .inl ft)), (b, .inr (0, [.ref ba, .int (nI n2)])), (ba, .inl (cB, 96, .inl f1))] H → va_D A [(h, .inr (2, [.ref t, .ref b])), (t, .inr (0, [.ref ta, .int (nI nt)])), (ta, .inl (cA, 96, .inl ft)), (b, .inr (0, [.ref ba, .int (nI n2)])), (ba, .inl (cB, 96, .inl f1))] → va_S A s.heap H locs → lv_has ls 8 [(0, .ref h), (1, .ref (E.1 i)), (2, .int (zI wp)), (3, .int (zI ((s2 : Int) - s1))), (4, .int (nI (kP i + 2))), (5, .long (lN lead)), (7, .int (nI j))] → W p l e ({ frames := 2, cells := 0, slots := 0, locals := 57 }) s m ([.ref h, .ref (E.1 i), .int (zI wp)] : List Value).toArray below meth cde H locs 0 0 (MQ below (va_Ql (S := ((Nat → Int32) × Nat) × ((Nat → Int32) × Nat)) (fun (r : Int64) (_ : ((Nat → Int32) × Nat) × ((Nat → Int32) × Nat)) => r = lN (frn (kP i) (kZ i) (kLw i) N Dn wp)) (fun u tS => ctB D vcl ((fun _ => [(cA, .int), (cB, .int)]) u) ((fun u : ((Nat → Int32) × Nat) × ((Nat → Int32) × Nat) => [(h, .inr (2, [.ref t, .ref b])), (t, .inr (0, [.ref ta, .int (nI u.1.2)])), (ta, .inl (cA, 96, .inl u.1.1)), (b, .inr (0, [.ref ba, .int (nI u.2.2)])), (ba, .inl (cB, 96, .inl u.2.1))]) u) A tS) A) ([.ref h, .ref (E.1 i), .int (zI wp)] : List Value).toArray s 0 0 A) (F0 m 54 ls []) := by
      intro kk
      induction kk with
      | zero => intro j lead tt ft nt hmz; exact absurd hmz (Nat.not_lt_zero _)
      | succ kk ih =>
        intro j lead tt ft nt hmz hj hld hv htt hT H locs ls hP hD hS hl
        refine lv_iload hx hb d_Fra_nearest_54 (lv_at hl 6 rfl) ?_
        refine lv_iload hx hb d_Fra_nearest_56 (lv_at hl 4 rfl) ?_
        refine lv_icmp_ge (tgt := 113) hx hb d_Fra_nearest_58 (by decide) (fun c58 => ?_) (fun c58 => ?_)
        · have e58 : j = kP i + 2 := by have := (nI_leI (by omega) (by omega)).mp c58; omega
          rw [e58] at hv hld
          refine lv_aload_n hx hb d_Fra_nearest_113 rfl (lv_at hl 1 rfl) ?_
          refine lv_lload hx hb d_Fra_nearest_114 (lv_at hl 5 rfl) ?_
          refine lv_iload_n hx hb d_Fra_nearest_116 rfl (lv_at hl 2 rfl) ?_
          refine lv_iload_n hx hb d_Fra_nearest_117 rfl (lv_at hl 3 rfl) ?_
          refine lv_iadd hx hb d_Fra_nearest_118 ?_
          refine lv_iload hx hb d_Fra_nearest_119 (lv_at hl 4 rfl) ?_
          refine lv_iconst (v := 1) hx hb d_Fra_nearest_121 (by decide) ?_
          refine lv_isub hx hb d_Fra_nearest_122 ?_
          refine lv_isub hx hb d_Fra_nearest_123 ?_
          refine tv_i (zI (wp + ((s2 : Int) - s1) - ((kP i : Int) + 1))) (by show zI wp + zI _ - (nI (kP i + 2) - nI 1) = _; rw [pk_sub (by omega), ← zI_nI, zI_add, zI_sub]; exact congrArg zI (by omega)) ?_
          refine lv_aload_n hx hb d_Fra_nearest_124 rfl (lv_at hl 0 rfl) ?_
          refine va_get (D := D) (ci := 2) (v := .ref t) (C := R_Fra) (T := F_Fra) (N := 2) hx hb hts w_Fra hown hK hP 0 rfl rfl 0 (by decide) (hts _ kF_Fra_10) (fun _ h9 => h9) rfl d_Fra_nearest_125 ?_
          refine ca_i [(h, .inr (2, [.ref t, .ref b])), (b, .inr (0, [.ref ba, .int (nI n2)])), (ba, .inl (cB, 96, .inl f1))] (va_runV (As := []) (rest := [.int (zI (wp + ((s2 : Int) - s1) - ((kP i : Int) + 1))), .long (lN lead), .ref (E.1 i)]) ⟨hx, hb, hml, hown, hts⟩ (c_Big_isZero l D E t ta cA ft nt tt hT H.size) (xV 0 hts kC_Big_isZero kM_Fra_45 kI_Big_isZero kS_Big_isZero kN_Big rfl rfl (by decide +kernel) ⟨Nat.le_of_ble_eq_true rfl, Nat.le_of_ble_eq_true rfl⟩) ⟨ct_blind hev, va_recv hK hP (ci := 0) (q0 := 1) rfl rfl, ct_pre hev hP hK hD hS hA hE [1, 2] rfl (by decide) [0] rfl⟩ rfl rfl hl.1 rfl (lv_room (Nat.le_of_ble_eq_true rfl)) d_Fra_nearest_128 ⟨Nat.le_of_ble_eq_true rfl, Nat.le_of_ble_eq_true rfl⟩) hP hD hS hA [1, 2] [0, 3, 4] rfl rfl (by decide) (by decide) (fun r u H locs hw hP hD hS hK1 => ?_)
          have hP : va_P D vcl [(h, .inr (2, [.ref t, .ref b])), (b, .inr (0, [.ref ba, .int (nI n2)])), (ba, .inl (cB, 96, .inl f1)), (t, .inr (0, [.ref ta, .int (nI nt)])), (ta, .inl (cA, 96, .inl ft))] H := hP
          have hD : va_D A [(h, .inr (2, [.ref t, .ref b])), (b, .inr (0, [.ref ba, .int (nI n2)])), (ba, .inl (cB, 96, .inl f1)), (t, .inr (0, [.ref ta, .int (nI nt)])), (ta, .inl (cA, 96, .inl ft))] := hD
          refine lv_if_ne (tgt := 138) hx hb d_Fra_nearest_131 (by decide) (fun c131 => ?_) (fun c131 => ?_)
          · have e131 : tt = 0 := hw.2.mp (hw.1.elim id (fun z => absurd z c131))
            refine lv_iconst (v := 0) hx hb d_Fra_nearest_138 (by decide) ?_
            refine tv_i (bI false) (rfl) ?_
            refine ca_l [(h, .inr (2, [.ref t, .ref b])), (b, .inr (0, [.ref ba, .int (nI n2)])), (ba, .inl (cB, 96, .inl f1)), (t, .inr (0, [.ref ta, .int (nI nt)])), (ta, .inl (cA, 96, .inl ft))] (va_runV (As := [.long (lN lead), .int (zI (wp + ((s2 : Int) - s1) - ((kP i : Int) + 1))), .int (bI false)]) (rest := []) ⟨hx, hb, hml, hown, hts⟩ (c_Kin_nearest l D E i hi lead (wp + ((s2 : Int) - s1) - ((kP i : Int) + 1)) false (by have h9 : 2 ^ (kP i + 2) ≤ 2 ^ 55 := two_pow_le (by omega); omega) (by omega) (by omega) H.size) (xV 3 hts kC_Kin_nearest kM_Fra_49 kI_Kin_nearest kS_Kin_nearest kN_Kin rfl rfl (by decide +kernel) ⟨Nat.le_of_ble_eq_true rfl, Nat.le_of_ble_eq_true rfl⟩) ⟨ct_blind hev, va_recvE (i := i) hE.2.1 hi hS, ct_pre hev hP hK hD hS hA hE [] rfl (by decide) [] rfl⟩ rfl rfl hl.1 rfl (lv_room (Nat.le_of_ble_eq_true rfl)) d_Fra_nearest_139 ⟨Nat.le_of_ble_eq_true rfl, Nat.le_of_ble_eq_true rfl⟩) hP hD hS hA [] [0, 1, 2, 3, 4] rfl rfl (by decide) (by decide) (fun r u H locs hw hP hD hS hK1 => ?_)
            subst hw
            have hP : va_P D vcl [(h, .inr (2, [.ref t, .ref b])), (b, .inr (0, [.ref ba, .int (nI n2)])), (ba, .inl (cB, 96, .inl f1)), (t, .inr (0, [.ref ta, .int (nI nt)])), (ta, .inl (cA, 96, .inl ft))] H := hP
            have hD : va_D A [(h, .inr (2, [.ref t, .ref b])), (b, .inr (0, [.ref ba, .int (nI n2)])), (ba, .inl (cB, 96, .inl f1)), (t, .inr (0, [.ref ta, .int (nI nt)])), (ta, .inl (cA, 96, .inl ft))] := hD
            exact rt_l hx hb hrt hlocks (((ft, nt), (f1, n2))) (by rw [(fd_end (P := kP i) (Z := kZ i) (Lw := kLw i) (w := wp) (more := false) hNn hDn hbl hv htt (iff_of_false (by decide) (fun z => z e131))).1]) (hP.sub [0, 3, 4, 1, 2] rfl) (hK.sub [0, 1] rfl) (hD.sub [0, 3, 4, 1, 2] (by decide) rfl) hS d_Fra_nearest_142
          · have e131 : tt ≠ 0 := fun z => by have := hw.2.mpr z; rw [c131] at this; exact absurd this (by decide)
            refine lv_iconst (v := 1) hx hb d_Fra_nearest_134 (by decide) ?_
            refine tv_i (bI true) (rfl) ?_
            refine lv_goto (tgt := 139) hx hb d_Fra_nearest_135 (by decide) ?_
            refine ca_l [(h, .inr (2, [.ref t, .ref b])), (b, .inr (0, [.ref ba, .int (nI n2)])), (ba, .inl (cB, 96, .inl f1)), (t, .inr (0, [.ref ta, .int (nI nt)])), (ta, .inl (cA, 96, .inl ft))] (va_runV (As := [.long (lN lead), .int (zI (wp + ((s2 : Int) - s1) - ((kP i : Int) + 1))), .int (bI true)]) (rest := []) ⟨hx, hb, hml, hown, hts⟩ (c_Kin_nearest l D E i hi lead (wp + ((s2 : Int) - s1) - ((kP i : Int) + 1)) true (by have h9 : 2 ^ (kP i + 2) ≤ 2 ^ 55 := two_pow_le (by omega); omega) (by omega) (by omega) H.size) (xV 3 hts kC_Kin_nearest kM_Fra_49 kI_Kin_nearest kS_Kin_nearest kN_Kin rfl rfl (by decide +kernel) ⟨Nat.le_of_ble_eq_true rfl, Nat.le_of_ble_eq_true rfl⟩) ⟨ct_blind hev, va_recvE (i := i) hE.2.1 hi hS, ct_pre hev hP hK hD hS hA hE [] rfl (by decide) [] rfl⟩ rfl rfl hl.1 rfl (lv_room (Nat.le_of_ble_eq_true rfl)) d_Fra_nearest_139 ⟨Nat.le_of_ble_eq_true rfl, Nat.le_of_ble_eq_true rfl⟩) hP hD hS hA [] [0, 1, 2, 3, 4] rfl rfl (by decide) (by decide) (fun r u H locs hw hP hD hS hK1 => ?_)
            subst hw
            have hP : va_P D vcl [(h, .inr (2, [.ref t, .ref b])), (b, .inr (0, [.ref ba, .int (nI n2)])), (ba, .inl (cB, 96, .inl f1)), (t, .inr (0, [.ref ta, .int (nI nt)])), (ta, .inl (cA, 96, .inl ft))] H := hP
            have hD : va_D A [(h, .inr (2, [.ref t, .ref b])), (b, .inr (0, [.ref ba, .int (nI n2)])), (ba, .inl (cB, 96, .inl f1)), (t, .inr (0, [.ref ta, .int (nI nt)])), (ta, .inl (cA, 96, .inl ft))] := hD
            exact rt_l hx hb hrt hlocks (((ft, nt), (f1, n2))) (by rw [(fd_end (P := kP i) (Z := kZ i) (Lw := kLw i) (w := wp) (more := true) hNn hDn hbl hv htt (iff_of_true rfl e131)).1]) (hP.sub [0, 3, 4, 1, 2] rfl) (hK.sub [0, 1] rfl) (hD.sub [0, 3, 4, 1, 2] (by decide) rfl) hS d_Fra_nearest_142
        · have e58 : j < kP i + 2 := Nat.lt_of_not_le (fun z => c58 ((nI_leI (by omega) (by omega)).mpr z))
          have hl55 : 2 ^ j ≤ 2 ^ 55 := two_pow_le (by omega)
          refine lv_lload hx hb d_Fra_nearest_61 (lv_at hl 5 rfl) ?_
          refine lv_iconst (v := 1) hx hb d_Fra_nearest_63 (by decide) ?_
          refine lv_lshl (v := lN (lead * 2)) hx hb d_Fra_nearest_64 (wb_shl _ (k := 1) (by decide)) ?_
          refine lv_lstore (lv' := [(5, .long (lN (lead * 2))), (0, .ref h), (1, .ref (E.1 i)), (2, .int (zI wp)), (3, .int (zI ((s2 : Int) - s1))), (4, .int (nI (kP i + 2))), (7, .int (nI j))]) hx hb d_Fra_nearest_65 hl (by decide) rfl (fun ls hl => ?_)
          refine lv_aload_n hx hb d_Fra_nearest_67 rfl (lv_at hl 1 rfl) ?_
          refine va_get (D := D) (ci := 2) (v := .ref t) (C := R_Fra) (T := F_Fra) (N := 2) hx hb hts w_Fra hown hK hP 0 rfl rfl 0 (by decide) (hts _ kF_Fra_10) (fun _ h9 => h9) rfl d_Fra_nearest_68 ?_
          refine lv_aload_n hx hb d_Fra_nearest_71 rfl (lv_at hl 1 rfl) ?_
          refine va_get (D := D) (ci := 2) (v := .ref b) (C := R_Fra) (T := F_Fra) (N := 2) hx hb hts w_Fra hown hK hP 0 rfl rfl 1 (by decide) (hts _ kF_Fra_16) (fun _ h9 => h9) rfl d_Fra_nearest_72 ?_
          refine ca_i [(h, .inr (2, [.ref t, .ref b]))] (va_runV (As := [.ref b]) (rest := []) ⟨hx, hb, hml, hown, hts⟩ (c_Big_isAtLeast l D E t ta b ba cA cB ft f1 nt n2 tt (Dn * 2 ^ s2) hT hB3 H.size) (xV 1 hts kC_Big_isAtLeast kM_Fra_33 kI_Big_isAtLeast kS_Big_isAtLeast kN_Big rfl rfl (by decide +kernel) ⟨Nat.le_of_ble_eq_true rfl, Nat.le_of_ble_eq_true rfl⟩) ⟨ct_blind hev, va_recv hK hP (ci := 0) (q0 := 1) rfl rfl, ct_pre hev hP hK hD hS hA hE [1, 2, 3, 4] rfl (by decide) [0, 1] rfl⟩ rfl rfl hl.1 rfl (lv_room (Nat.le_of_ble_eq_true rfl)) d_Fra_nearest_75 ⟨Nat.le_of_ble_eq_true rfl, Nat.le_of_ble_eq_true rfl⟩) hP hD hS hA [1, 2, 3, 4] [0] rfl rfl (by decide) (by decide) (fun r u H locs hw hP hD hS hK1 => ?_)
          have hP : va_P D vcl [(h, .inr (2, [.ref t, .ref b])), (t, .inr (0, [.ref ta, .int (nI nt)])), (ta, .inl (cA, 96, .inl ft)), (b, .inr (0, [.ref ba, .int (nI n2)])), (ba, .inl (cB, 96, .inl f1))] H := hP
          have hD : va_D A [(h, .inr (2, [.ref t, .ref b])), (t, .inr (0, [.ref ta, .int (nI nt)])), (ta, .inl (cA, 96, .inl ft)), (b, .inr (0, [.ref ba, .int (nI n2)])), (ba, .inl (cB, 96, .inl f1))] := hD
          refine lv_if_eq (tgt := 98) hx hb d_Fra_nearest_78 (by decide) (fun c78 => ?_) (fun c78 => ?_)
          · have e78 : ¬ Dn * 2 ^ s2 ≤ tt := fun z => by have := hw.2.mpr z; rw [c78] at this; exact absurd this (by decide)
            refine lv_aload_n hx hb d_Fra_nearest_98 rfl (lv_at hl 1 rfl) ?_
            refine va_get (D := D) (ci := 2) (v := .ref t) (C := R_Fra) (T := F_Fra) (N := 2) hx hb hts w_Fra hown hK hP 0 rfl rfl 0 (by decide) (hts _ kF_Fra_10) (fun _ h9 => h9) rfl d_Fra_nearest_99 ?_
            refine lv_iconst (v := 2) hx hb d_Fra_nearest_102 (by decide) ?_
            refine tv_i (nI 2) (rfl) ?_
            refine lv_iconst (v := 0) hx hb d_Fra_nearest_103 (by decide) ?_
            refine tv_i (nI 0) (rfl) ?_
            refine ca_v [(h, .inr (2, [.ref t, .ref b])), (b, .inr (0, [.ref ba, .int (nI n2)])), (ba, .inl (cB, 96, .inl f1))] (va_runV (As := [.int (nI 2), .int (nI 0)]) (rest := []) ⟨hx, hb, hml, hown, hts⟩ (c_Big_timesPlus l D E t ta cA ft nt tt 2 0 hT (by decide) (by decide) (by decide) (by omega) H.size) (xV 2 hts kC_Big_timesPlus kM_Fra_41 kI_Big_timesPlus kS_Big_timesPlus kN_Big rfl rfl (by decide +kernel) ⟨Nat.le_of_ble_eq_true rfl, Nat.le_of_ble_eq_true rfl⟩) ⟨ct_blind hev, va_recv hK hP (ci := 0) (q0 := 1) rfl rfl, ct_pre hev hP hK hD hS hA hE [1, 2] rfl (by decide) [0] rfl⟩ rfl rfl hl.1 rfl (lv_room (Nat.le_of_ble_eq_true rfl)) d_Fra_nearest_104 ⟨Nat.le_of_ble_eq_true rfl, Nat.le_of_ble_eq_true rfl⟩) hP hD hS hA [1, 2] [0, 3, 4] rfl rfl (by decide) (by decide) (fun u H locs hw hP hD hS hK1 => ?_)
            obtain ⟨f4, n5⟩ := u
            have hB6 : isB f4 n5 (tt * 2) := hw
            have hP : va_P D vcl [(h, .inr (2, [.ref t, .ref b])), (b, .inr (0, [.ref ba, .int (nI n2)])), (ba, .inl (cB, 96, .inl f1)), (t, .inr (0, [.ref ta, .int (nI n5)])), (ta, .inl (cA, 96, .inl f4))] H := hP
            have hD : va_D A [(h, .inr (2, [.ref t, .ref b])), (b, .inr (0, [.ref ba, .int (nI n2)])), (ba, .inl (cB, 96, .inl f1)), (t, .inr (0, [.ref ta, .int (nI n5)])), (ta, .inl (cA, 96, .inl f4))] := hD
            refine lv_iinc (v := nI (j + 1)) (lv' := [(7, .int (nI (j + 1))), (5, .long (lN (lead * 2))), (0, .ref h), (1, .ref (E.1 i)), (2, .int (zI wp)), (3, .int (zI ((s2 : Int) - s1))), (4, .int (nI (kP i + 2)))]) hx hb d_Fra_nearest_107 hl (k := 6) rfl (nI_1 j) (by decide) rfl (fun ls hl => ?_)
            refine lv_goto (tgt := 54) hx hb d_Fra_nearest_110 (by decide) ?_
            exact ih (j + 1) (lead * 2) (tt * 2) f4 n5 (by omega) (by omega) (by rw [Nat.pow_succ]; omega) (by have h9 := ((fd_step hv htt).2 e78).1; rw [Nat.mul_comm lead 2]; exact h9) (((fd_step hv htt).2 e78).2) (hB6) _ _ _ (hP.sub [0, 3, 4, 1, 2] rfl) (hD.sub [0, 3, 4, 1, 2] (by decide) rfl) hS (lv_sub hl [2, 3, 4, 5, 6, 1, 0] rfl)
          · have e78 : Dn * 2 ^ s2 ≤ tt := hw.2.mp (hw.1.elim id (fun z => absurd z c78))
            refine lv_aload_n hx hb d_Fra_nearest_81 rfl (lv_at hl 1 rfl) ?_
            refine va_get (D := D) (ci := 2) (v := .ref t) (C := R_Fra) (T := F_Fra) (N := 2) hx hb hts w_Fra hown hK hP 0 rfl rfl 0 (by decide) (hts _ kF_Fra_10) (fun _ h9 => h9) rfl d_Fra_nearest_82 ?_
            refine lv_aload_n hx hb d_Fra_nearest_85 rfl (lv_at hl 1 rfl) ?_
            refine va_get (D := D) (ci := 2) (v := .ref b) (C := R_Fra) (T := F_Fra) (N := 2) hx hb hts w_Fra hown hK hP 0 rfl rfl 1 (by decide) (hts _ kF_Fra_16) (fun _ h9 => h9) rfl d_Fra_nearest_86 ?_
            refine ca_v [(h, .inr (2, [.ref t, .ref b]))] (va_runV (As := [.ref b]) (rest := []) ⟨hx, hb, hml, hown, hts⟩ (c_Big_subtract l D E t ta b ba cA cB ft f1 nt n2 tt (Dn * 2 ^ s2) hT hB3 (e78) H.size) (xV 1 hts kC_Big_subtract kM_Fra_37 kI_Big_subtract kS_Big_subtract kN_Big rfl rfl (by decide +kernel) ⟨Nat.le_of_ble_eq_true rfl, Nat.le_of_ble_eq_true rfl⟩) ⟨ct_blind hev, va_recv hK hP (ci := 0) (q0 := 1) rfl rfl, ct_pre hev hP hK hD hS hA hE [1, 2, 3, 4] rfl (by decide) [0, 1] rfl⟩ rfl rfl hl.1 rfl (lv_room (Nat.le_of_ble_eq_true rfl)) d_Fra_nearest_89 ⟨Nat.le_of_ble_eq_true rfl, Nat.le_of_ble_eq_true rfl⟩) hP hD hS hA [1, 2, 3, 4] [0] rfl rfl (by decide) (by decide) (fun u H locs hw hP hD hS hK1 => ?_)
            obtain ⟨f7, n8⟩ := u
            have hB9 : isB f7 n8 (tt - (Dn * 2 ^ s2)) := hw
            have hP : va_P D vcl [(h, .inr (2, [.ref t, .ref b])), (t, .inr (0, [.ref ta, .int (nI n8)])), (ta, .inl (cA, 96, .inl f7)), (b, .inr (0, [.ref ba, .int (nI n2)])), (ba, .inl (cB, 96, .inl f1))] H := hP
            have hD : va_D A [(h, .inr (2, [.ref t, .ref b])), (t, .inr (0, [.ref ta, .int (nI n8)])), (ta, .inl (cA, 96, .inl f7)), (b, .inr (0, [.ref ba, .int (nI n2)])), (ba, .inl (cB, 96, .inl f1))] := hD
            refine lv_lload hx hb d_Fra_nearest_92 (lv_at hl 0 rfl) ?_
            refine lv_lconst (v := 1) hx hb d_Fra_nearest_94 (by decide) ?_
            refine lv_lor hx hb d_Fra_nearest_95 ?_
            refine tv_l (lN (2 * lead + 1)) (l1_or (by omega)) ?_
            refine lv_lstore (lv' := [(5, .long (lN (2 * lead + 1))), (0, .ref h), (1, .ref (E.1 i)), (2, .int (zI wp)), (3, .int (zI ((s2 : Int) - s1))), (4, .int (nI (kP i + 2))), (7, .int (nI j))]) hx hb d_Fra_nearest_96 hl (by decide) rfl (fun ls hl => ?_)
            refine lv_aload_n hx hb d_Fra_nearest_98 rfl (lv_at hl 1 rfl) ?_
            refine va_get (D := D) (ci := 2) (v := .ref t) (C := R_Fra) (T := F_Fra) (N := 2) hx hb hts w_Fra hown hK hP 0 rfl rfl 0 (by decide) (hts _ kF_Fra_10) (fun _ h9 => h9) rfl d_Fra_nearest_99 ?_
            refine lv_iconst (v := 2) hx hb d_Fra_nearest_102 (by decide) ?_
            refine tv_i (nI 2) (rfl) ?_
            refine lv_iconst (v := 0) hx hb d_Fra_nearest_103 (by decide) ?_
            refine tv_i (nI 0) (rfl) ?_
            refine ca_v [(h, .inr (2, [.ref t, .ref b])), (b, .inr (0, [.ref ba, .int (nI n2)])), (ba, .inl (cB, 96, .inl f1))] (va_runV (As := [.int (nI 2), .int (nI 0)]) (rest := []) ⟨hx, hb, hml, hown, hts⟩ (c_Big_timesPlus l D E t ta cA f7 n8 (tt - (Dn * 2 ^ s2)) 2 0 hB9 (by decide) (by decide) (by decide) (by omega) H.size) (xV 2 hts kC_Big_timesPlus kM_Fra_41 kI_Big_timesPlus kS_Big_timesPlus kN_Big rfl rfl (by decide +kernel) ⟨Nat.le_of_ble_eq_true rfl, Nat.le_of_ble_eq_true rfl⟩) ⟨ct_blind hev, va_recv hK hP (ci := 0) (q0 := 1) rfl rfl, ct_pre hev hP hK hD hS hA hE [1, 2] rfl (by decide) [0] rfl⟩ rfl rfl hl.1 rfl (lv_room (Nat.le_of_ble_eq_true rfl)) d_Fra_nearest_104 ⟨Nat.le_of_ble_eq_true rfl, Nat.le_of_ble_eq_true rfl⟩) hP hD hS hA [1, 2] [0, 3, 4] rfl rfl (by decide) (by decide) (fun u H locs hw hP hD hS hK1 => ?_)
            obtain ⟨f10, n11⟩ := u
            have hB12 : isB f10 n11 ((tt - Dn * 2 ^ s2) * 2) := hw
            have hP : va_P D vcl [(h, .inr (2, [.ref t, .ref b])), (b, .inr (0, [.ref ba, .int (nI n2)])), (ba, .inl (cB, 96, .inl f1)), (t, .inr (0, [.ref ta, .int (nI n11)])), (ta, .inl (cA, 96, .inl f10))] H := hP
            have hD : va_D A [(h, .inr (2, [.ref t, .ref b])), (b, .inr (0, [.ref ba, .int (nI n2)])), (ba, .inl (cB, 96, .inl f1)), (t, .inr (0, [.ref ta, .int (nI n11)])), (ta, .inl (cA, 96, .inl f10))] := hD
            refine lv_iinc (v := nI (j + 1)) (lv' := [(7, .int (nI (j + 1))), (5, .long (lN (2 * lead + 1))), (0, .ref h), (1, .ref (E.1 i)), (2, .int (zI wp)), (3, .int (zI ((s2 : Int) - s1))), (4, .int (nI (kP i + 2)))]) hx hb d_Fra_nearest_107 hl (k := 6) rfl (nI_1 j) (by decide) rfl (fun ls hl => ?_)
            refine lv_goto (tgt := 54) hx hb d_Fra_nearest_110 (by decide) ?_
            exact ih (j + 1) (2 * lead + 1) ((tt - Dn * 2 ^ s2) * 2) f10 n11 (by omega) (by omega) (by rw [Nat.pow_succ]; omega) (((fd_step hv htt).1 e78).1) (((fd_step hv htt).1 e78).2) (hB12) _ _ _ (hP.sub [0, 3, 4, 1, 2] rfl) (hD.sub [0, 3, 4, 1, 2] (by decide) rfl) hS (lv_sub hl [2, 3, 4, 5, 6, 1, 0] rfl)
    exact L54 (kP i + 3) 0 0 (N * 2 ^ s1) f n (by omega) (Nat.zero_le _) (by decide) (hst) (hlt0) (hX) _ _ _ (hP.sub [0, 1, 2, 3, 4] rfl) (hD.sub [0, 1, 2, 3, 4] (by decide) rfl) hS (lv_sub hl [4, 5, 6, 3, 2, 1, 0] rfl)
  · have e17 : ¬ 0 ≤ (s2 : Int) - s1 := fun z => c17 ((zI_le (a := 0) (by omega) (by omega) (by omega) (by omega)).mpr z)
    refine lv_aload_n hx hb d_Fra_nearest_20 rfl (lv_at hl 1 rfl) ?_
    refine va_get (D := D) (ci := 2) (v := .ref t) (C := R_Fra) (T := F_Fra) (N := 2) hx hb hts w_Fra hown hK hP 0 rfl rfl 0 (by decide) (hts _ kF_Fra_10) (fun _ h9 => h9) rfl d_Fra_nearest_21 ?_
    refine lv_iload_n hx hb d_Fra_nearest_24 rfl (lv_at hl 0 rfl) ?_
    refine lv_ineg hx hb d_Fra_nearest_25 ?_
    refine tv_i (nI s1) (by rw [zI_neg, ← zI_nI]; congr 1; omega) ?_
    refine ca_v [(h, .inr (2, [.ref t, .ref b])), (b, .inr (0, [.ref ba, .int (nI k)])), (ba, .inl (cB, 96, .inl g))] (va_runV (As := [.int (nI s1)]) (rest := []) ⟨hx, hb, hml, hown, hts⟩ (c_Big_shiftLeft l D E t ta cA f n N s1 hB (by omega) (by have := isB_nb hB; omega) H.size) (xV 1 hts kC_Big_shiftLeft kM_Fra_23 kI_Big_shiftLeft kS_Big_shiftLeft kN_Big rfl rfl (by decide +kernel) ⟨Nat.le_of_ble_eq_true rfl, Nat.le_of_ble_eq_true rfl⟩) ⟨ct_blind hev, va_recv hK hP (ci := 0) (q0 := 1) rfl rfl, ct_pre hev hP hK hD hS hA hE [1, 2] rfl (by decide) [0] rfl⟩ rfl rfl hl.1 rfl (lv_room (Nat.le_of_ble_eq_true rfl)) d_Fra_nearest_26 ⟨Nat.le_of_ble_eq_true rfl, Nat.le_of_ble_eq_true rfl⟩) hP hD hS hA [1, 2] [0, 3, 4] rfl rfl (by decide) (by decide) (fun u H locs hw hP hD hS hK1 => ?_)
    obtain ⟨f13, n14⟩ := u
    have hB15 : isB f13 n14 (N * 2 ^ s1) := hw
    have hP : va_P D vcl [(h, .inr (2, [.ref t, .ref b])), (b, .inr (0, [.ref ba, .int (nI k)])), (ba, .inl (cB, 96, .inl g)), (t, .inr (0, [.ref ta, .int (nI n14)])), (ta, .inl (cA, 96, .inl f13))] H := hP
    have hD : va_D A [(h, .inr (2, [.ref t, .ref b])), (b, .inr (0, [.ref ba, .int (nI k)])), (ba, .inl (cB, 96, .inl g)), (t, .inr (0, [.ref ta, .int (nI n14)])), (ta, .inl (cA, 96, .inl f13))] := hD
    refine lv_goto (tgt := 40) hx hb d_Fra_nearest_29 (by decide) ?_
    have hY : isB g k (Dn * 2 ^ s2) := by rw [show s2 = 0 by omega, Nat.pow_zero, Nat.mul_one]; exact hO
    obtain ⟨hst, hlt0⟩ := fd_start hNn hDn hbl
    have hfitY := pw96 (bl_pow (s := s2) hDn) (by omega)
    refine lv_aload_n hx hb d_Fra_nearest_40 rfl (lv_at hl 2 rfl) ?_
    refine va_getE hx hb hE.2.1 (i := i) hi hS hown (q := kF[0]) (List.getElem_mem _) (hts _ kF_Fra_27) (fun _ h9 => h9) d_Fra_nearest_41 ?_
    refine tv_i (nI (kP i)) (kf_P i hi) ?_
    refine lv_iconst (v := 2) hx hb d_Fra_nearest_44 (by decide) ?_
    refine lv_iadd hx hb d_Fra_nearest_45 ?_
    refine tv_i (nI (kP i + 2)) (nI_add _ 2) ?_
    refine lv_istore (lv' := [(4, .int (nI (kP i + 2))), (3, .int (zI ((s2 : Int) - s1))), (0, .ref h), (1, .ref (E.1 i)), (2, .int (zI wp))]) hx hb d_Fra_nearest_46 hl (by decide) rfl (fun ls hl => ?_)
    refine lv_lconst (v := 0) hx hb d_Fra_nearest_48 (by decide) ?_
    refine tv_l (lN 0) (rfl) ?_
    refine lv_lstore (lv' := [(5, .long (lN 0)), (4, .int (nI (kP i + 2))), (3, .int (zI ((s2 : Int) - s1))), (0, .ref h), (1, .ref (E.1 i)), (2, .int (zI wp))]) hx hb d_Fra_nearest_49 hl (by decide) rfl (fun ls hl => ?_)
    refine lv_iconst (v := 0) hx hb d_Fra_nearest_51 (by decide) ?_
    refine tv_i (nI 0) (rfl) ?_
    refine lv_istore (lv' := [(7, .int (nI 0)), (5, .long (lN 0)), (4, .int (nI (kP i + 2))), (3, .int (zI ((s2 : Int) - s1))), (0, .ref h), (1, .ref (E.1 i)), (2, .int (zI wp))]) hx hb d_Fra_nearest_52 hl (by decide) rfl (fun ls hl => ?_)
    have L54 : ∀ (kk : Nat) (j : Nat) (lead : Nat) (tt : Nat) (ft : Nat → Int32) (nt : Nat), kP i + 2 - j < kk → (j ≤ kP i + 2) → (lead < 2 ^ j) → (N * 2 ^ s1 * 2 ^ j = 2 * (lead * (Dn * 2 ^ s2)) + tt) → (tt < 2 * (Dn * 2 ^ s2)) → (isB ft nt tt) → ∀ (H : Heap) (locs : List Loc) (ls : Array Slot), va_P D vcl [(h, .inr (2, [.ref t, .ref b])), (t, .inr (0, [.ref ta, .int (nI nt)])), (ta, .inl (cA, 96, .inl ft)), (b, .inr (0, [.ref ba, .int (nI k)])), (ba, .inl (cB, 96, .inl g))] H → va_D A [(h, .inr (2, [.ref t, .ref b])), (t, .inr (0, [.ref ta, .int (nI nt)])), (ta, .inl (cA, 96, .inl ft)), (b, .inr (0, [.ref ba, .int (nI k)])), (ba, .inl (cB, 96, .inl g))] → va_S A s.heap H locs → lv_has ls 8 [(0, .ref h), (1, .ref (E.1 i)), (2, .int (zI wp)), (3, .int (zI ((s2 : Int) - s1))), (4, .int (nI (kP i + 2))), (5, .long (lN lead)), (7, .int (nI j))] → W p l e ({ frames := 2, cells := 0, slots := 0, locals := 57 }) s m ([.ref h, .ref (E.1 i), .int (zI wp)] : List Value).toArray below meth cde H locs 0 0 (MQ below (va_Ql (S := ((Nat → Int32) × Nat) × ((Nat → Int32) × Nat)) (fun (r : Int64) (_ : ((Nat → Int32) × Nat) × ((Nat → Int32) × Nat)) => r = lN (frn (kP i) (kZ i) (kLw i) N Dn wp)) (fun u tS => ctB D vcl ((fun _ => [(cA, .int), (cB, .int)]) u) ((fun u : ((Nat → Int32) × Nat) × ((Nat → Int32) × Nat) => [(h, .inr (2, [.ref t, .ref b])), (t, .inr (0, [.ref ta, .int (nI u.1.2)])), (ta, .inl (cA, 96, .inl u.1.1)), (b, .inr (0, [.ref ba, .int (nI u.2.2)])), (ba, .inl (cB, 96, .inl u.2.1))]) u) A tS) A) ([.ref h, .ref (E.1 i), .int (zI wp)] : List Value).toArray s 0 0 A) (F0 m 54 ls []) := by
      intro kk
      induction kk with
      | zero => intro j lead tt ft nt hmz; exact absurd hmz (Nat.not_lt_zero _)
      | succ kk ih =>
        intro j lead tt ft nt hmz hj hld hv htt hT H locs ls hP hD hS hl
        refine lv_iload hx hb d_Fra_nearest_54 (lv_at hl 6 rfl) ?_
        refine lv_iload hx hb d_Fra_nearest_56 (lv_at hl 4 rfl) ?_
        refine lv_icmp_ge (tgt := 113) hx hb d_Fra_nearest_58 (by decide) (fun c58 => ?_) (fun c58 => ?_)
        · have e58 : j = kP i + 2 := by have := (nI_leI (by omega) (by omega)).mp c58; omega
          rw [e58] at hv hld
          refine lv_aload_n hx hb d_Fra_nearest_113 rfl (lv_at hl 1 rfl) ?_
          refine lv_lload hx hb d_Fra_nearest_114 (lv_at hl 5 rfl) ?_
          refine lv_iload_n hx hb d_Fra_nearest_116 rfl (lv_at hl 2 rfl) ?_
          refine lv_iload_n hx hb d_Fra_nearest_117 rfl (lv_at hl 3 rfl) ?_
          refine lv_iadd hx hb d_Fra_nearest_118 ?_
          refine lv_iload hx hb d_Fra_nearest_119 (lv_at hl 4 rfl) ?_
          refine lv_iconst (v := 1) hx hb d_Fra_nearest_121 (by decide) ?_
          refine lv_isub hx hb d_Fra_nearest_122 ?_
          refine lv_isub hx hb d_Fra_nearest_123 ?_
          refine tv_i (zI (wp + ((s2 : Int) - s1) - ((kP i : Int) + 1))) (by show zI wp + zI _ - (nI (kP i + 2) - nI 1) = _; rw [pk_sub (by omega), ← zI_nI, zI_add, zI_sub]; exact congrArg zI (by omega)) ?_
          refine lv_aload_n hx hb d_Fra_nearest_124 rfl (lv_at hl 0 rfl) ?_
          refine va_get (D := D) (ci := 2) (v := .ref t) (C := R_Fra) (T := F_Fra) (N := 2) hx hb hts w_Fra hown hK hP 0 rfl rfl 0 (by decide) (hts _ kF_Fra_10) (fun _ h9 => h9) rfl d_Fra_nearest_125 ?_
          refine ca_i [(h, .inr (2, [.ref t, .ref b])), (b, .inr (0, [.ref ba, .int (nI k)])), (ba, .inl (cB, 96, .inl g))] (va_runV (As := []) (rest := [.int (zI (wp + ((s2 : Int) - s1) - ((kP i : Int) + 1))), .long (lN lead), .ref (E.1 i)]) ⟨hx, hb, hml, hown, hts⟩ (c_Big_isZero l D E t ta cA ft nt tt hT H.size) (xV 0 hts kC_Big_isZero kM_Fra_45 kI_Big_isZero kS_Big_isZero kN_Big rfl rfl (by decide +kernel) ⟨Nat.le_of_ble_eq_true rfl, Nat.le_of_ble_eq_true rfl⟩) ⟨ct_blind hev, va_recv hK hP (ci := 0) (q0 := 1) rfl rfl, ct_pre hev hP hK hD hS hA hE [1, 2] rfl (by decide) [0] rfl⟩ rfl rfl hl.1 rfl (lv_room (Nat.le_of_ble_eq_true rfl)) d_Fra_nearest_128 ⟨Nat.le_of_ble_eq_true rfl, Nat.le_of_ble_eq_true rfl⟩) hP hD hS hA [1, 2] [0, 3, 4] rfl rfl (by decide) (by decide) (fun r u H locs hw hP hD hS hK1 => ?_)
          have hP : va_P D vcl [(h, .inr (2, [.ref t, .ref b])), (b, .inr (0, [.ref ba, .int (nI k)])), (ba, .inl (cB, 96, .inl g)), (t, .inr (0, [.ref ta, .int (nI nt)])), (ta, .inl (cA, 96, .inl ft))] H := hP
          have hD : va_D A [(h, .inr (2, [.ref t, .ref b])), (b, .inr (0, [.ref ba, .int (nI k)])), (ba, .inl (cB, 96, .inl g)), (t, .inr (0, [.ref ta, .int (nI nt)])), (ta, .inl (cA, 96, .inl ft))] := hD
          refine lv_if_ne (tgt := 138) hx hb d_Fra_nearest_131 (by decide) (fun c131 => ?_) (fun c131 => ?_)
          · have e131 : tt = 0 := hw.2.mp (hw.1.elim id (fun z => absurd z c131))
            refine lv_iconst (v := 0) hx hb d_Fra_nearest_138 (by decide) ?_
            refine tv_i (bI false) (rfl) ?_
            refine ca_l [(h, .inr (2, [.ref t, .ref b])), (b, .inr (0, [.ref ba, .int (nI k)])), (ba, .inl (cB, 96, .inl g)), (t, .inr (0, [.ref ta, .int (nI nt)])), (ta, .inl (cA, 96, .inl ft))] (va_runV (As := [.long (lN lead), .int (zI (wp + ((s2 : Int) - s1) - ((kP i : Int) + 1))), .int (bI false)]) (rest := []) ⟨hx, hb, hml, hown, hts⟩ (c_Kin_nearest l D E i hi lead (wp + ((s2 : Int) - s1) - ((kP i : Int) + 1)) false (by have h9 : 2 ^ (kP i + 2) ≤ 2 ^ 55 := two_pow_le (by omega); omega) (by omega) (by omega) H.size) (xV 3 hts kC_Kin_nearest kM_Fra_49 kI_Kin_nearest kS_Kin_nearest kN_Kin rfl rfl (by decide +kernel) ⟨Nat.le_of_ble_eq_true rfl, Nat.le_of_ble_eq_true rfl⟩) ⟨ct_blind hev, va_recvE (i := i) hE.2.1 hi hS, ct_pre hev hP hK hD hS hA hE [] rfl (by decide) [] rfl⟩ rfl rfl hl.1 rfl (lv_room (Nat.le_of_ble_eq_true rfl)) d_Fra_nearest_139 ⟨Nat.le_of_ble_eq_true rfl, Nat.le_of_ble_eq_true rfl⟩) hP hD hS hA [] [0, 1, 2, 3, 4] rfl rfl (by decide) (by decide) (fun r u H locs hw hP hD hS hK1 => ?_)
            subst hw
            have hP : va_P D vcl [(h, .inr (2, [.ref t, .ref b])), (b, .inr (0, [.ref ba, .int (nI k)])), (ba, .inl (cB, 96, .inl g)), (t, .inr (0, [.ref ta, .int (nI nt)])), (ta, .inl (cA, 96, .inl ft))] H := hP
            have hD : va_D A [(h, .inr (2, [.ref t, .ref b])), (b, .inr (0, [.ref ba, .int (nI k)])), (ba, .inl (cB, 96, .inl g)), (t, .inr (0, [.ref ta, .int (nI nt)])), (ta, .inl (cA, 96, .inl ft))] := hD
            exact rt_l hx hb hrt hlocks (((ft, nt), (g, k))) (by rw [(fd_end (P := kP i) (Z := kZ i) (Lw := kLw i) (w := wp) (more := false) hNn hDn hbl hv htt (iff_of_false (by decide) (fun z => z e131))).1]) (hP.sub [0, 3, 4, 1, 2] rfl) (hK.sub [0, 1] rfl) (hD.sub [0, 3, 4, 1, 2] (by decide) rfl) hS d_Fra_nearest_142
          · have e131 : tt ≠ 0 := fun z => by have := hw.2.mpr z; rw [c131] at this; exact absurd this (by decide)
            refine lv_iconst (v := 1) hx hb d_Fra_nearest_134 (by decide) ?_
            refine tv_i (bI true) (rfl) ?_
            refine lv_goto (tgt := 139) hx hb d_Fra_nearest_135 (by decide) ?_
            refine ca_l [(h, .inr (2, [.ref t, .ref b])), (b, .inr (0, [.ref ba, .int (nI k)])), (ba, .inl (cB, 96, .inl g)), (t, .inr (0, [.ref ta, .int (nI nt)])), (ta, .inl (cA, 96, .inl ft))] (va_runV (As := [.long (lN lead), .int (zI (wp + ((s2 : Int) - s1) - ((kP i : Int) + 1))), .int (bI true)]) (rest := []) ⟨hx, hb, hml, hown, hts⟩ (c_Kin_nearest l D E i hi lead (wp + ((s2 : Int) - s1) - ((kP i : Int) + 1)) true (by have h9 : 2 ^ (kP i + 2) ≤ 2 ^ 55 := two_pow_le (by omega); omega) (by omega) (by omega) H.size) (xV 3 hts kC_Kin_nearest kM_Fra_49 kI_Kin_nearest kS_Kin_nearest kN_Kin rfl rfl (by decide +kernel) ⟨Nat.le_of_ble_eq_true rfl, Nat.le_of_ble_eq_true rfl⟩) ⟨ct_blind hev, va_recvE (i := i) hE.2.1 hi hS, ct_pre hev hP hK hD hS hA hE [] rfl (by decide) [] rfl⟩ rfl rfl hl.1 rfl (lv_room (Nat.le_of_ble_eq_true rfl)) d_Fra_nearest_139 ⟨Nat.le_of_ble_eq_true rfl, Nat.le_of_ble_eq_true rfl⟩) hP hD hS hA [] [0, 1, 2, 3, 4] rfl rfl (by decide) (by decide) (fun r u H locs hw hP hD hS hK1 => ?_)
            subst hw
            have hP : va_P D vcl [(h, .inr (2, [.ref t, .ref b])), (b, .inr (0, [.ref ba, .int (nI k)])), (ba, .inl (cB, 96, .inl g)), (t, .inr (0, [.ref ta, .int (nI nt)])), (ta, .inl (cA, 96, .inl ft))] H := hP
            have hD : va_D A [(h, .inr (2, [.ref t, .ref b])), (b, .inr (0, [.ref ba, .int (nI k)])), (ba, .inl (cB, 96, .inl g)), (t, .inr (0, [.ref ta, .int (nI nt)])), (ta, .inl (cA, 96, .inl ft))] := hD
            exact rt_l hx hb hrt hlocks (((ft, nt), (g, k))) (by rw [(fd_end (P := kP i) (Z := kZ i) (Lw := kLw i) (w := wp) (more := true) hNn hDn hbl hv htt (iff_of_true rfl e131)).1]) (hP.sub [0, 3, 4, 1, 2] rfl) (hK.sub [0, 1] rfl) (hD.sub [0, 3, 4, 1, 2] (by decide) rfl) hS d_Fra_nearest_142
        · have e58 : j < kP i + 2 := Nat.lt_of_not_le (fun z => c58 ((nI_leI (by omega) (by omega)).mpr z))
          have hl55 : 2 ^ j ≤ 2 ^ 55 := two_pow_le (by omega)
          refine lv_lload hx hb d_Fra_nearest_61 (lv_at hl 5 rfl) ?_
          refine lv_iconst (v := 1) hx hb d_Fra_nearest_63 (by decide) ?_
          refine lv_lshl (v := lN (lead * 2)) hx hb d_Fra_nearest_64 (wb_shl _ (k := 1) (by decide)) ?_
          refine lv_lstore (lv' := [(5, .long (lN (lead * 2))), (0, .ref h), (1, .ref (E.1 i)), (2, .int (zI wp)), (3, .int (zI ((s2 : Int) - s1))), (4, .int (nI (kP i + 2))), (7, .int (nI j))]) hx hb d_Fra_nearest_65 hl (by decide) rfl (fun ls hl => ?_)
          refine lv_aload_n hx hb d_Fra_nearest_67 rfl (lv_at hl 1 rfl) ?_
          refine va_get (D := D) (ci := 2) (v := .ref t) (C := R_Fra) (T := F_Fra) (N := 2) hx hb hts w_Fra hown hK hP 0 rfl rfl 0 (by decide) (hts _ kF_Fra_10) (fun _ h9 => h9) rfl d_Fra_nearest_68 ?_
          refine lv_aload_n hx hb d_Fra_nearest_71 rfl (lv_at hl 1 rfl) ?_
          refine va_get (D := D) (ci := 2) (v := .ref b) (C := R_Fra) (T := F_Fra) (N := 2) hx hb hts w_Fra hown hK hP 0 rfl rfl 1 (by decide) (hts _ kF_Fra_16) (fun _ h9 => h9) rfl d_Fra_nearest_72 ?_
          refine ca_i [(h, .inr (2, [.ref t, .ref b]))] (va_runV (As := [.ref b]) (rest := []) ⟨hx, hb, hml, hown, hts⟩ (c_Big_isAtLeast l D E t ta b ba cA cB ft g nt k tt (Dn * 2 ^ s2) hT hY H.size) (xV 1 hts kC_Big_isAtLeast kM_Fra_33 kI_Big_isAtLeast kS_Big_isAtLeast kN_Big rfl rfl (by decide +kernel) ⟨Nat.le_of_ble_eq_true rfl, Nat.le_of_ble_eq_true rfl⟩) ⟨ct_blind hev, va_recv hK hP (ci := 0) (q0 := 1) rfl rfl, ct_pre hev hP hK hD hS hA hE [1, 2, 3, 4] rfl (by decide) [0, 1] rfl⟩ rfl rfl hl.1 rfl (lv_room (Nat.le_of_ble_eq_true rfl)) d_Fra_nearest_75 ⟨Nat.le_of_ble_eq_true rfl, Nat.le_of_ble_eq_true rfl⟩) hP hD hS hA [1, 2, 3, 4] [0] rfl rfl (by decide) (by decide) (fun r u H locs hw hP hD hS hK1 => ?_)
          have hP : va_P D vcl [(h, .inr (2, [.ref t, .ref b])), (t, .inr (0, [.ref ta, .int (nI nt)])), (ta, .inl (cA, 96, .inl ft)), (b, .inr (0, [.ref ba, .int (nI k)])), (ba, .inl (cB, 96, .inl g))] H := hP
          have hD : va_D A [(h, .inr (2, [.ref t, .ref b])), (t, .inr (0, [.ref ta, .int (nI nt)])), (ta, .inl (cA, 96, .inl ft)), (b, .inr (0, [.ref ba, .int (nI k)])), (ba, .inl (cB, 96, .inl g))] := hD
          refine lv_if_eq (tgt := 98) hx hb d_Fra_nearest_78 (by decide) (fun c78 => ?_) (fun c78 => ?_)
          · have e78 : ¬ Dn * 2 ^ s2 ≤ tt := fun z => by have := hw.2.mpr z; rw [c78] at this; exact absurd this (by decide)
            refine lv_aload_n hx hb d_Fra_nearest_98 rfl (lv_at hl 1 rfl) ?_
            refine va_get (D := D) (ci := 2) (v := .ref t) (C := R_Fra) (T := F_Fra) (N := 2) hx hb hts w_Fra hown hK hP 0 rfl rfl 0 (by decide) (hts _ kF_Fra_10) (fun _ h9 => h9) rfl d_Fra_nearest_99 ?_
            refine lv_iconst (v := 2) hx hb d_Fra_nearest_102 (by decide) ?_
            refine tv_i (nI 2) (rfl) ?_
            refine lv_iconst (v := 0) hx hb d_Fra_nearest_103 (by decide) ?_
            refine tv_i (nI 0) (rfl) ?_
            refine ca_v [(h, .inr (2, [.ref t, .ref b])), (b, .inr (0, [.ref ba, .int (nI k)])), (ba, .inl (cB, 96, .inl g))] (va_runV (As := [.int (nI 2), .int (nI 0)]) (rest := []) ⟨hx, hb, hml, hown, hts⟩ (c_Big_timesPlus l D E t ta cA ft nt tt 2 0 hT (by decide) (by decide) (by decide) (by omega) H.size) (xV 2 hts kC_Big_timesPlus kM_Fra_41 kI_Big_timesPlus kS_Big_timesPlus kN_Big rfl rfl (by decide +kernel) ⟨Nat.le_of_ble_eq_true rfl, Nat.le_of_ble_eq_true rfl⟩) ⟨ct_blind hev, va_recv hK hP (ci := 0) (q0 := 1) rfl rfl, ct_pre hev hP hK hD hS hA hE [1, 2] rfl (by decide) [0] rfl⟩ rfl rfl hl.1 rfl (lv_room (Nat.le_of_ble_eq_true rfl)) d_Fra_nearest_104 ⟨Nat.le_of_ble_eq_true rfl, Nat.le_of_ble_eq_true rfl⟩) hP hD hS hA [1, 2] [0, 3, 4] rfl rfl (by decide) (by decide) (fun u H locs hw hP hD hS hK1 => ?_)
            obtain ⟨f16, n17⟩ := u
            have hB18 : isB f16 n17 (tt * 2) := hw
            have hP : va_P D vcl [(h, .inr (2, [.ref t, .ref b])), (b, .inr (0, [.ref ba, .int (nI k)])), (ba, .inl (cB, 96, .inl g)), (t, .inr (0, [.ref ta, .int (nI n17)])), (ta, .inl (cA, 96, .inl f16))] H := hP
            have hD : va_D A [(h, .inr (2, [.ref t, .ref b])), (b, .inr (0, [.ref ba, .int (nI k)])), (ba, .inl (cB, 96, .inl g)), (t, .inr (0, [.ref ta, .int (nI n17)])), (ta, .inl (cA, 96, .inl f16))] := hD
            refine lv_iinc (v := nI (j + 1)) (lv' := [(7, .int (nI (j + 1))), (5, .long (lN (lead * 2))), (0, .ref h), (1, .ref (E.1 i)), (2, .int (zI wp)), (3, .int (zI ((s2 : Int) - s1))), (4, .int (nI (kP i + 2)))]) hx hb d_Fra_nearest_107 hl (k := 6) rfl (nI_1 j) (by decide) rfl (fun ls hl => ?_)
            refine lv_goto (tgt := 54) hx hb d_Fra_nearest_110 (by decide) ?_
            exact ih (j + 1) (lead * 2) (tt * 2) f16 n17 (by omega) (by omega) (by rw [Nat.pow_succ]; omega) (by have h9 := ((fd_step hv htt).2 e78).1; rw [Nat.mul_comm lead 2]; exact h9) (((fd_step hv htt).2 e78).2) (hB18) _ _ _ (hP.sub [0, 3, 4, 1, 2] rfl) (hD.sub [0, 3, 4, 1, 2] (by decide) rfl) hS (lv_sub hl [2, 3, 4, 5, 6, 1, 0] rfl)
          · have e78 : Dn * 2 ^ s2 ≤ tt := hw.2.mp (hw.1.elim id (fun z => absurd z c78))
            refine lv_aload_n hx hb d_Fra_nearest_81 rfl (lv_at hl 1 rfl) ?_
            refine va_get (D := D) (ci := 2) (v := .ref t) (C := R_Fra) (T := F_Fra) (N := 2) hx hb hts w_Fra hown hK hP 0 rfl rfl 0 (by decide) (hts _ kF_Fra_10) (fun _ h9 => h9) rfl d_Fra_nearest_82 ?_
            refine lv_aload_n hx hb d_Fra_nearest_85 rfl (lv_at hl 1 rfl) ?_
            refine va_get (D := D) (ci := 2) (v := .ref b) (C := R_Fra) (T := F_Fra) (N := 2) hx hb hts w_Fra hown hK hP 0 rfl rfl 1 (by decide) (hts _ kF_Fra_16) (fun _ h9 => h9) rfl d_Fra_nearest_86 ?_
            refine ca_v [(h, .inr (2, [.ref t, .ref b]))] (va_runV (As := [.ref b]) (rest := []) ⟨hx, hb, hml, hown, hts⟩ (c_Big_subtract l D E t ta b ba cA cB ft g nt k tt (Dn * 2 ^ s2) hT hY (e78) H.size) (xV 1 hts kC_Big_subtract kM_Fra_37 kI_Big_subtract kS_Big_subtract kN_Big rfl rfl (by decide +kernel) ⟨Nat.le_of_ble_eq_true rfl, Nat.le_of_ble_eq_true rfl⟩) ⟨ct_blind hev, va_recv hK hP (ci := 0) (q0 := 1) rfl rfl, ct_pre hev hP hK hD hS hA hE [1, 2, 3, 4] rfl (by decide) [0, 1] rfl⟩ rfl rfl hl.1 rfl (lv_room (Nat.le_of_ble_eq_true rfl)) d_Fra_nearest_89 ⟨Nat.le_of_ble_eq_true rfl, Nat.le_of_ble_eq_true rfl⟩) hP hD hS hA [1, 2, 3, 4] [0] rfl rfl (by decide) (by decide) (fun u H locs hw hP hD hS hK1 => ?_)
            obtain ⟨f19, n20⟩ := u
            have hB21 : isB f19 n20 (tt - (Dn * 2 ^ s2)) := hw
            have hP : va_P D vcl [(h, .inr (2, [.ref t, .ref b])), (t, .inr (0, [.ref ta, .int (nI n20)])), (ta, .inl (cA, 96, .inl f19)), (b, .inr (0, [.ref ba, .int (nI k)])), (ba, .inl (cB, 96, .inl g))] H := hP
            have hD : va_D A [(h, .inr (2, [.ref t, .ref b])), (t, .inr (0, [.ref ta, .int (nI n20)])), (ta, .inl (cA, 96, .inl f19)), (b, .inr (0, [.ref ba, .int (nI k)])), (ba, .inl (cB, 96, .inl g))] := hD
            refine lv_lload hx hb d_Fra_nearest_92 (lv_at hl 0 rfl) ?_
            refine lv_lconst (v := 1) hx hb d_Fra_nearest_94 (by decide) ?_
            refine lv_lor hx hb d_Fra_nearest_95 ?_
            refine tv_l (lN (2 * lead + 1)) (l1_or (by omega)) ?_
            refine lv_lstore (lv' := [(5, .long (lN (2 * lead + 1))), (0, .ref h), (1, .ref (E.1 i)), (2, .int (zI wp)), (3, .int (zI ((s2 : Int) - s1))), (4, .int (nI (kP i + 2))), (7, .int (nI j))]) hx hb d_Fra_nearest_96 hl (by decide) rfl (fun ls hl => ?_)
            refine lv_aload_n hx hb d_Fra_nearest_98 rfl (lv_at hl 1 rfl) ?_
            refine va_get (D := D) (ci := 2) (v := .ref t) (C := R_Fra) (T := F_Fra) (N := 2) hx hb hts w_Fra hown hK hP 0 rfl rfl 0 (by decide) (hts _ kF_Fra_10) (fun _ h9 => h9) rfl d_Fra_nearest_99 ?_
            refine lv_iconst (v := 2) hx hb d_Fra_nearest_102 (by decide) ?_
            refine tv_i (nI 2) (rfl) ?_
            refine lv_iconst (v := 0) hx hb d_Fra_nearest_103 (by decide) ?_
            refine tv_i (nI 0) (rfl) ?_
            refine ca_v [(h, .inr (2, [.ref t, .ref b])), (b, .inr (0, [.ref ba, .int (nI k)])), (ba, .inl (cB, 96, .inl g))] (va_runV (As := [.int (nI 2), .int (nI 0)]) (rest := []) ⟨hx, hb, hml, hown, hts⟩ (c_Big_timesPlus l D E t ta cA f19 n20 (tt - (Dn * 2 ^ s2)) 2 0 hB21 (by decide) (by decide) (by decide) (by omega) H.size) (xV 2 hts kC_Big_timesPlus kM_Fra_41 kI_Big_timesPlus kS_Big_timesPlus kN_Big rfl rfl (by decide +kernel) ⟨Nat.le_of_ble_eq_true rfl, Nat.le_of_ble_eq_true rfl⟩) ⟨ct_blind hev, va_recv hK hP (ci := 0) (q0 := 1) rfl rfl, ct_pre hev hP hK hD hS hA hE [1, 2] rfl (by decide) [0] rfl⟩ rfl rfl hl.1 rfl (lv_room (Nat.le_of_ble_eq_true rfl)) d_Fra_nearest_104 ⟨Nat.le_of_ble_eq_true rfl, Nat.le_of_ble_eq_true rfl⟩) hP hD hS hA [1, 2] [0, 3, 4] rfl rfl (by decide) (by decide) (fun u H locs hw hP hD hS hK1 => ?_)
            obtain ⟨f22, n23⟩ := u
            have hB24 : isB f22 n23 ((tt - Dn * 2 ^ s2) * 2) := hw
            have hP : va_P D vcl [(h, .inr (2, [.ref t, .ref b])), (b, .inr (0, [.ref ba, .int (nI k)])), (ba, .inl (cB, 96, .inl g)), (t, .inr (0, [.ref ta, .int (nI n23)])), (ta, .inl (cA, 96, .inl f22))] H := hP
            have hD : va_D A [(h, .inr (2, [.ref t, .ref b])), (b, .inr (0, [.ref ba, .int (nI k)])), (ba, .inl (cB, 96, .inl g)), (t, .inr (0, [.ref ta, .int (nI n23)])), (ta, .inl (cA, 96, .inl f22))] := hD
            refine lv_iinc (v := nI (j + 1)) (lv' := [(7, .int (nI (j + 1))), (5, .long (lN (2 * lead + 1))), (0, .ref h), (1, .ref (E.1 i)), (2, .int (zI wp)), (3, .int (zI ((s2 : Int) - s1))), (4, .int (nI (kP i + 2)))]) hx hb d_Fra_nearest_107 hl (k := 6) rfl (nI_1 j) (by decide) rfl (fun ls hl => ?_)
            refine lv_goto (tgt := 54) hx hb d_Fra_nearest_110 (by decide) ?_
            exact ih (j + 1) (2 * lead + 1) ((tt - Dn * 2 ^ s2) * 2) f22 n23 (by omega) (by omega) (by rw [Nat.pow_succ]; omega) (((fd_step hv htt).1 e78).1) (((fd_step hv htt).1 e78).2) (hB24) _ _ _ (hP.sub [0, 3, 4, 1, 2] rfl) (hD.sub [0, 3, 4, 1, 2] (by decide) rfl) hS (lv_sub hl [2, 3, 4, 5, 6, 1, 0] rfl)
    exact L54 (kP i + 3) 0 0 (N * 2 ^ s1) f13 n14 (by omega) (Nat.zero_le _) (by decide) (hst) (hlt0) (hB15) _ _ _ (hP.sub [0, 3, 4, 1, 2] rfl) (hD.sub [0, 3, 4, 1, 2] (by decide) rfl) hS (lv_sub hl [4, 5, 6, 3, 2, 1, 0] rfl)
end
section
/-! THE DIGITS OF A LITERAL, with a point among them: whether it came, how many digits stand behind it, what they say -/
def tx (T : Nat → Nat) : Nat → Int32 := fun j => nI (T j)
def gp (T : Nat → Nat) (a : Nat) : Nat → Bool
  | 0 => false
  | n + 1 => if T (a + n) = 46 then true else gp T a n
def gf (T : Nat → Nat) (a : Nat) : Nat → Nat
  | 0 => 0
  | n + 1 => if T (a + n) = 46 then gf T a n else gf T a n + if gp T a n then 1 else 0
def gv (β : Nat) (T : Nat → Nat) (a : Nat) : Nat → Nat
  | 0 => 0
  | n + 1 => if T (a + n) = 46 then gv β T a n else gv β T a n * β + dg (T (a + n))
theorem gp_pt {T : Nat → Nat} {a n : Nat} (h : T (a + n) = 46) : gp T a (n + 1) = true := by show (if _ then _ else _) = _; rw [if_pos h]
theorem gf_pt {T : Nat → Nat} {a n : Nat} (h : T (a + n) = 46) : gf T a (n + 1) = gf T a n := by show (if _ then _ else _) = _; rw [if_pos h]
theorem gv_pt {β : Nat} {T : Nat → Nat} {a n : Nat} (h : T (a + n) = 46) : gv β T a (n + 1) = gv β T a n := by show (if _ then _ else _) = _; rw [if_pos h]
theorem gp_dg {T : Nat → Nat} {a n : Nat} (h : T (a + n) ≠ 46) : gp T a (n + 1) = gp T a n := by show (if _ then _ else _) = _; rw [if_neg h]
theorem gf_dg {T : Nat → Nat} {a n : Nat} (h : T (a + n) ≠ 46) : gf T a (n + 1) = gf T a n + if gp T a n then 1 else 0 := by show (if _ then _ else _) = _; rw [if_neg h]
theorem gv_dg {β : Nat} {T : Nat → Nat} {a n : Nat} (h : T (a + n) ≠ 46) : gv β T a (n + 1) = gv β T a n * β + dg (T (a + n)) := by show (if _ then _ else _) = _; rw [if_neg h]
theorem gf_le (T : Nat → Nat) (a n : Nat) : gf T a n ≤ n := by
  induction n with
  | zero => exact Nat.le_refl 0
  | succ n ih =>
    by_cases h : T (a + n) = 46
    · rw [gf_pt h]; omega
    · rw [gf_dg h]; split <;> omega
theorem dg10 {c : Nat} (h1 : 48 ≤ c) (h2 : c ≤ 57) : dg c = c - 48 := by unfold dg; rw [if_pos ⟨h1, h2⟩]
theorem dec_mul {P Z Lw K r : Nat} {q : Int} : dec P Z Lw (K * 10 ^ r) q = dec P Z Lw K (q + r) := by
  have hE : -q ≤ ((q.natAbs : Nat) : Int) := by omega
  rw [dec_at q.natAbs hE, dec_at (q := q + r) q.natAbs (by omega)]
  congr 2
  have : (q + r + (q.natAbs : Nat)).toNat = r + (q + (q.natAbs : Nat)).toNat := by omega
  rw [this, Nat.pow_add, Nat.mul_assoc]
theorem N1k : ∀ i, i < 2 → 2 ^ (kP i + 1 + kZ i) ≤ 10 ^ (kMd i - 1) * 2 ^ (kLw i + 1) := by decide +kernel
theorem N2k : ∀ i, i < 2 → 2 ^ (kP i + 1) * 5 ^ (kLw i + 1 - 1) ≤ 2 * 10 ^ (kMd i - 1) := by decide +kernel
theorem N3k : ∀ i, i < 2 → 2 ^ (kLw i + 1) ≤ 10 ^ (kLo i + 1) := by decide +kernel
theorem N4k : ∀ i, i < 2 → 2 ^ (kP i + kZ i) ≤ 10 ^ kHi i * 2 ^ kLw i := by decide +kernel
theorem stickyK {i K r t : Nat} {q : Int} (hi : i < 2) (hK : 10 ^ (kMd i - 1) ≤ K) (h0 : 0 < t) (ht : t < 10 ^ r) : dec (kP i) (kZ i) (kLw i) (K * 10 ^ r + t) q = dec (kP i) (kZ i) (kLw i) (K * 10 + 1) (q + r - 1) :=
  dec_sticky hK (N1k i hi) (N2k i hi) h0 ht
theorem ten771 : 10 ^ 772 < pw 96 := by decide +kernel
theorem fit10 {K e : Nat} (h : K < 10 ^ e) (he : e ≤ 772) : K < pw 96 := by
  have h1 : 10 ^ e ≤ 10 ^ 772 := Nat.pow_le_pow_right (by decide) he
  have h2 := ten771
  omega
theorem bln10 {K e : Nat} (h : K < 10 ^ e) (he : e ≤ 772) : bln K ≤ 2900 := by
  have h1 : 10 ^ e ≤ 10 ^ 772 := Nat.pow_le_pow_right (by decide) he
  have h2 : 10 ^ 772 ≤ 2 ^ 2900 := by decide +kernel
  exact bln_le_of (by omega)
/-- one more digit kept -/
theorem kd_step {K kp d : Nat} (hK : K < 10 ^ kp) (h1 : 0 < kp → 10 ^ (kp - 1) ≤ K) (hd : d ≤ 9) (hz : kp = 0 → d ≠ 0) : K * 10 + d < 10 ^ (kp + 1) ∧ 10 ^ kp ≤ K * 10 + d := by
  constructor
  · rw [Nat.pow_succ]; omega
  · rcases Nat.eq_zero_or_pos kp with h | h
    · have := hz h
      rw [h, Nat.pow_zero]; omega
    · have := h1 h
      have e : 10 ^ kp = 10 ^ (kp - 1) * 10 := by rw [← Nat.pow_succ]; congr 1; omega
      omega
theorem e9 {e gs : Nat} (h : gs = 10 ^ e) (he : e < 9) : 0 < gs ∧ gs ≤ 100000000 := by
  have h1 : 10 ^ e ≤ 10 ^ 8 := Nat.pow_le_pow_right (by decide) (by omega)
  have h2 := ten_pos e
  omega
theorem e9n {e gs : Nat} (h : gs = 10 ^ e) (he : e < 9) (hne : gs * 10 ≠ 1000000000) : e + 1 < 9 ∧ gs * 10 = 10 ^ (e + 1) := by
  refine ⟨?_, by rw [h, Nat.pow_succ]⟩
  rcases Nat.lt_or_ge (e + 1) 9 with z | z
  · exact z
  · have : e = 8 := by omega
    subst this
    rw [h] at hne
    exact absurd (by decide) hne
/-- what the gathered digits say -/
def gaOK (i M fr : Nat) (Kf kp : Nat) (pl : Int) : Prop :=
  Kf < 10 ^ kp ∧ (0 < kp → 10 ^ (kp - 1) ≤ Kf) ∧ kp ≤ kMd i + 1 ∧ -3000 ≤ pl ∧ pl ≤ 3000 ∧ ∀ q : Int, dec (kP i) (kZ i) (kLw i) M (q - fr) = dec (kP i) (kZ i) (kLw i) Kf (pl + q - kp)
theorem ga_no {i M fr K kp r : Nat} (hM : M = K * 10 ^ r + 0) (hK : K < 10 ^ kp) (h1 : 0 < kp → 10 ^ (kp - 1) ≤ K) (hk : kp ≤ kMd i) (hkr : kp + r ≤ 2400) (hfr : fr ≤ 2400) : gaOK i M fr K kp ((kp : Int) + r - fr) := by
  refine ⟨hK, h1, by omega, by omega, by omega, fun q => ?_⟩
  rw [hM, Nat.add_zero, dec_mul]
  congr 1
  omega
theorem ga_more {i M fr K kp r t : Nat} (hi : i < 2) (hM : M = K * 10 ^ r + t) (ht : t < 10 ^ r) (h0 : t ≠ 0) (hK : K < 10 ^ kp) (h1 : 0 < kp → 10 ^ (kp - 1) ≤ K) (hk : kp ≤ kMd i) (hr : kp < kMd i → r = 0) (hkr : kp + r ≤ 2400) (hfr : fr ≤ 2400) : gaOK i M fr (K * 10 + 1) (kp + 1) ((kp : Int) + r - fr) := by
  have hr0 : r ≠ 0 := fun z => by rw [z, Nat.pow_zero] at ht; omega
  have hkp : kp = kMd i := by
    rcases Nat.lt_or_ge kp (kMd i) with z | z
    · exact absurd (hr z) hr0
    · omega
  have hmd : 0 < kMd i := by have := kP_b i hi; omega
  have hK1 : 10 ^ (kMd i - 1) ≤ K := by rw [← hkp]; exact h1 (by omega)
  obtain ⟨z1, z2⟩ := kd_step (d := 1) hK h1 (by decide) (fun _ => by decide)
  refine ⟨z1, fun _ => by rw [Nat.add_sub_cancel]; exact z2, by omega, by omega, by omega, fun q => ?_⟩
  rw [hM, stickyK hi hK1 (Nat.pos_of_ne_zero h0) ht]
  congr 1
  omega
theorem tt_of {b : Bool} (h : ¬ b = false) : b = true := by cases b <;> first | rfl | exact absurd rfl h
theorem five_c {c : Nat} (h : c ≤ 1100) : 1 * 5 ^ c < pw 96 ∧ bln (1 * 5 ^ c) ≤ 2900 ∧ 1 * 5 ^ c ≠ 0 := by
  have h1 : 5 ^ c ≤ 5 ^ 1100 := Nat.pow_le_pow_right (by decide) h
  have h2 : 5 ^ 1100 < pw 96 := by decide +kernel
  have h3 : 5 ^ 1100 < 2 ^ 2900 := by decide +kernel
  have h4 : 0 < 5 ^ c := Nat.pow_pos (by decide)
  rw [Nat.one_mul]
  exact ⟨by omega, bln_le_of (by omega), by omega⟩
theorem five_t {K kp c : Nat} (hK : K < 10 ^ kp) (h : kp + c ≤ 772) : K * 5 ^ c < pw 96 ∧ bln (K * 5 ^ c) ≤ 2900 := by
  have h1 : K * 5 ^ c < 10 ^ (kp + c) := by
    rw [Nat.pow_add]
    refine Nat.lt_of_lt_of_le (Nat.mul_lt_mul_of_pos_right hK (Nat.pow_pos (by decide))) (Nat.mul_le_mul_left _ (Nat.pow_le_pow_left (by decide) c))
  exact ⟨fit10 h1 h, bln10 h1 h⟩
theorem dec_fn {P Z Lw K c : Nat} {t : Int} (h : t = -(c : Int)) : dec P Z Lw K t = frn P Z Lw K (1 * 5 ^ c) t := by
  rw [dec_frn, h, show (-(c : Int)).toNat = 0 by omega, show (- -(c : Int)).toNat = c by omega, Nat.pow_zero, Nat.mul_one, Nat.one_mul]
theorem dec_fp {P Z Lw K c : Nat} {t : Int} (h : t = (c : Int)) : dec P Z Lw K t = frn P Z Lw (K * 5 ^ c) 1 t := by
  rw [dec_frn, h, show ((c : Int)).toNat = c by omega, show (-(c : Int)).toNat = 0 by omega, Nat.pow_zero]
end
section
theorem d_Dec_init_0 : decode b_Dec_init 0 = .ok (.aload_n 0, 1) := by decide +kernel
theorem d_Dec_init_1 : decode b_Dec_init 1 = .ok (.invokespecial 1, 3) := by decide +kernel
theorem d_Dec_init_4 : decode b_Dec_init 4 = .ok (.aload_n 0, 1) := by decide +kernel
theorem d_Dec_init_5 : decode b_Dec_init 5 = .ok (.aload_n 1, 1) := by decide +kernel
theorem d_Dec_init_6 : decode b_Dec_init 6 = .ok (.putfield 7, 3) := by decide +kernel
theorem d_Dec_init_9 : decode b_Dec_init 9 = .ok (.aload_n 0, 1) := by decide +kernel
theorem d_Dec_init_10 : decode b_Dec_init 10 = .ok (.aload_n 2, 1) := by decide +kernel
theorem d_Dec_init_11 : decode b_Dec_init 11 = .ok (.putfield 13, 3) := by decide +kernel
theorem d_Dec_init_14 : decode b_Dec_init 14 = .ok (.return_, 1) := by decide +kernel
theorem d_Dec_keepDigit_0 : decode b_Dec_keepDigit 0 = .ok (.aload_n 0, 1) := by decide +kernel
theorem d_Dec_keepDigit_1 : decode b_Dec_keepDigit 1 = .ok (.aload_n 0, 1) := by decide +kernel
theorem d_Dec_keepDigit_2 : decode b_Dec_keepDigit 2 = .ok (.getfield 77, 3) := by decide +kernel
theorem d_Dec_keepDigit_5 : decode b_Dec_keepDigit 5 = .ok (.bipush 10, 2) := by decide +kernel
theorem d_Dec_keepDigit_7 : decode b_Dec_keepDigit 7 = .ok (.imul, 1) := by decide +kernel
theorem d_Dec_keepDigit_8 : decode b_Dec_keepDigit 8 = .ok (.iload_n 1, 1) := by decide +kernel
theorem d_Dec_keepDigit_9 : decode b_Dec_keepDigit 9 = .ok (.iadd, 1) := by decide +kernel
theorem d_Dec_keepDigit_10 : decode b_Dec_keepDigit 10 = .ok (.putfield 77, 3) := by decide +kernel
theorem d_Dec_keepDigit_13 : decode b_Dec_keepDigit 13 = .ok (.aload_n 0, 1) := by decide +kernel
theorem d_Dec_keepDigit_14 : decode b_Dec_keepDigit 14 = .ok (.dup, 1) := by decide +kernel
theorem d_Dec_keepDigit_15 : decode b_Dec_keepDigit 15 = .ok (.getfield 80, 3) := by decide +kernel
theorem d_Dec_keepDigit_18 : decode b_Dec_keepDigit 18 = .ok (.bipush 10, 2) := by decide +kernel
theorem d_Dec_keepDigit_20 : decode b_Dec_keepDigit 20 = .ok (.imul, 1) := by decide +kernel
theorem d_Dec_keepDigit_21 : decode b_Dec_keepDigit 21 = .ok (.putfield 80, 3) := by decide +kernel
theorem d_Dec_keepDigit_24 : decode b_Dec_keepDigit 24 = .ok (.aload_n 0, 1) := by decide +kernel
theorem d_Dec_keepDigit_25 : decode b_Dec_keepDigit 25 = .ok (.dup, 1) := by decide +kernel
theorem d_Dec_keepDigit_26 : decode b_Dec_keepDigit 26 = .ok (.getfield 41, 3) := by decide +kernel
theorem d_Dec_keepDigit_29 : decode b_Dec_keepDigit 29 = .ok (.iconst 1, 1) := by decide +kernel
theorem d_Dec_keepDigit_30 : decode b_Dec_keepDigit 30 = .ok (.iadd, 1) := by decide +kernel
theorem d_Dec_keepDigit_31 : decode b_Dec_keepDigit 31 = .ok (.putfield 41, 3) := by decide +kernel
theorem d_Dec_keepDigit_34 : decode b_Dec_keepDigit 34 = .ok (.aload_n 0, 1) := by decide +kernel
theorem d_Dec_keepDigit_35 : decode b_Dec_keepDigit 35 = .ok (.getfield 80, 3) := by decide +kernel
theorem d_Dec_keepDigit_38 : decode b_Dec_keepDigit 38 = .ok (.ldc 90, 2) := by decide +kernel
theorem d_Dec_keepDigit_40 : decode b_Dec_keepDigit 40 = .ok (.if_icmp .ne 31, 3) := by decide +kernel
theorem d_Dec_keepDigit_43 : decode b_Dec_keepDigit 43 = .ok (.aload_n 0, 1) := by decide +kernel
theorem d_Dec_keepDigit_44 : decode b_Dec_keepDigit 44 = .ok (.getfield 13, 3) := by decide +kernel
theorem d_Dec_keepDigit_47 : decode b_Dec_keepDigit 47 = .ok (.getfield 70, 3) := by decide +kernel
theorem d_Dec_keepDigit_50 : decode b_Dec_keepDigit 50 = .ok (.aload_n 0, 1) := by decide +kernel
theorem d_Dec_keepDigit_51 : decode b_Dec_keepDigit 51 = .ok (.getfield 80, 3) := by decide +kernel
theorem d_Dec_keepDigit_54 : decode b_Dec_keepDigit 54 = .ok (.aload_n 0, 1) := by decide +kernel
theorem d_Dec_keepDigit_55 : decode b_Dec_keepDigit 55 = .ok (.getfield 77, 3) := by decide +kernel
theorem d_Dec_keepDigit_58 : decode b_Dec_keepDigit 58 = .ok (.invokevirtual 86, 3) := by decide +kernel
theorem d_Dec_keepDigit_61 : decode b_Dec_keepDigit 61 = .ok (.aload_n 0, 1) := by decide +kernel
theorem d_Dec_keepDigit_62 : decode b_Dec_keepDigit 62 = .ok (.iconst 0, 1) := by decide +kernel
theorem d_Dec_keepDigit_63 : decode b_Dec_keepDigit 63 = .ok (.putfield 77, 3) := by decide +kernel
theorem d_Dec_keepDigit_66 : decode b_Dec_keepDigit 66 = .ok (.aload_n 0, 1) := by decide +kernel
theorem d_Dec_keepDigit_67 : decode b_Dec_keepDigit 67 = .ok (.iconst 1, 1) := by decide +kernel
theorem d_Dec_keepDigit_68 : decode b_Dec_keepDigit 68 = .ok (.putfield 80, 3) := by decide +kernel
theorem d_Dec_keepDigit_71 : decode b_Dec_keepDigit 71 = .ok (.return_, 1) := by decide +kernel
theorem d_Dec_gather_0 : decode b_Dec_gather 0 = .ok (.iconst 0, 1) := by decide +kernel
theorem d_Dec_gather_1 : decode b_Dec_gather 1 = .ok (.istore 4, 2) := by decide +kernel
theorem d_Dec_gather_3 : decode b_Dec_gather 3 = .ok (.iconst 0, 1) := by decide +kernel
theorem d_Dec_gather_4 : decode b_Dec_gather 4 = .ok (.istore 5, 2) := by decide +kernel
theorem d_Dec_gather_6 : decode b_Dec_gather 6 = .ok (.aload_n 0, 1) := by decide +kernel
theorem d_Dec_gather_7 : decode b_Dec_gather 7 = .ok (.getfield 13, 3) := by decide +kernel
theorem d_Dec_gather_10 : decode b_Dec_gather 10 = .ok (.getfield 70, 3) := by decide +kernel
theorem d_Dec_gather_13 : decode b_Dec_gather 13 = .ok (.lconst 0, 1) := by decide +kernel
theorem d_Dec_gather_14 : decode b_Dec_gather 14 = .ok (.invokevirtual 60, 3) := by decide +kernel
theorem d_Dec_gather_17 : decode b_Dec_gather 17 = .ok (.aload_n 0, 1) := by decide +kernel
theorem d_Dec_gather_18 : decode b_Dec_gather 18 = .ok (.iconst 0, 1) := by decide +kernel
theorem d_Dec_gather_19 : decode b_Dec_gather 19 = .ok (.putfield 77, 3) := by decide +kernel
theorem d_Dec_gather_22 : decode b_Dec_gather 22 = .ok (.aload_n 0, 1) := by decide +kernel
theorem d_Dec_gather_23 : decode b_Dec_gather 23 = .ok (.iconst 1, 1) := by decide +kernel
theorem d_Dec_gather_24 : decode b_Dec_gather 24 = .ok (.putfield 80, 3) := by decide +kernel
theorem d_Dec_gather_27 : decode b_Dec_gather 27 = .ok (.aload_n 0, 1) := by decide +kernel
theorem d_Dec_gather_28 : decode b_Dec_gather 28 = .ok (.iconst 0, 1) := by decide +kernel
theorem d_Dec_gather_29 : decode b_Dec_gather 29 = .ok (.putfield 41, 3) := by decide +kernel
theorem d_Dec_gather_32 : decode b_Dec_gather 32 = .ok (.aload_n 0, 1) := by decide +kernel
theorem d_Dec_gather_33 : decode b_Dec_gather 33 = .ok (.iconst 0, 1) := by decide +kernel
theorem d_Dec_gather_34 : decode b_Dec_gather 34 = .ok (.putfield 35, 3) := by decide +kernel
theorem d_Dec_gather_37 : decode b_Dec_gather 37 = .ok (.iload_n 1, 1) := by decide +kernel
theorem d_Dec_gather_38 : decode b_Dec_gather 38 = .ok (.istore 6, 2) := by decide +kernel
theorem d_Dec_gather_40 : decode b_Dec_gather 40 = .ok (.iload 6, 2) := by decide +kernel
theorem d_Dec_gather_42 : decode b_Dec_gather 42 = .ok (.iload_n 2, 1) := by decide +kernel
theorem d_Dec_gather_43 : decode b_Dec_gather 43 = .ok (.if_icmp .ge 135, 3) := by decide +kernel
theorem d_Dec_gather_46 : decode b_Dec_gather 46 = .ok (.iload 6, 2) := by decide +kernel
theorem d_Dec_gather_48 : decode b_Dec_gather 48 = .ok (.aload_n 0, 1) := by decide +kernel
theorem d_Dec_gather_49 : decode b_Dec_gather 49 = .ok (.getfield 7, 3) := by decide +kernel
theorem d_Dec_gather_52 : decode b_Dec_gather 52 = .ok (.arraylength, 1) := by decide +kernel
theorem d_Dec_gather_53 : decode b_Dec_gather 53 = .ok (.if_icmp .ge 125, 3) := by decide +kernel
theorem d_Dec_gather_56 : decode b_Dec_gather 56 = .ok (.aload_n 0, 1) := by decide +kernel
theorem d_Dec_gather_57 : decode b_Dec_gather 57 = .ok (.getfield 7, 3) := by decide +kernel
theorem d_Dec_gather_60 : decode b_Dec_gather 60 = .ok (.iload 6, 2) := by decide +kernel
theorem d_Dec_gather_62 : decode b_Dec_gather 62 = .ok (.caload, 1) := by decide +kernel
theorem d_Dec_gather_63 : decode b_Dec_gather 63 = .ok (.istore 7, 2) := by decide +kernel
theorem d_Dec_gather_65 : decode b_Dec_gather 65 = .ok (.iload 7, 2) := by decide +kernel
theorem d_Dec_gather_67 : decode b_Dec_gather 67 = .ok (.bipush 46, 2) := by decide +kernel
theorem d_Dec_gather_69 : decode b_Dec_gather 69 = .ok (.if_icmp .ne 9, 3) := by decide +kernel
theorem d_Dec_gather_72 : decode b_Dec_gather 72 = .ok (.iconst 1, 1) := by decide +kernel
theorem d_Dec_gather_73 : decode b_Dec_gather 73 = .ok (.istore 4, 2) := by decide +kernel
theorem d_Dec_gather_75 : decode b_Dec_gather 75 = .ok (.goto 97, 3) := by decide +kernel
theorem d_Dec_gather_78 : decode b_Dec_gather 78 = .ok (.aload_n 0, 1) := by decide +kernel
theorem d_Dec_gather_79 : decode b_Dec_gather 79 = .ok (.getfield 41, 3) := by decide +kernel
theorem d_Dec_gather_82 : decode b_Dec_gather 82 = .ok (.ifCond .ne 32, 3) := by decide +kernel
theorem d_Dec_gather_85 : decode b_Dec_gather 85 = .ok (.iload 7, 2) := by decide +kernel
theorem d_Dec_gather_87 : decode b_Dec_gather 87 = .ok (.bipush 48, 2) := by decide +kernel
theorem d_Dec_gather_89 : decode b_Dec_gather 89 = .ok (.if_icmp .ne 25, 3) := by decide +kernel
theorem d_Dec_gather_92 : decode b_Dec_gather 92 = .ok (.aload_n 0, 1) := by decide +kernel
theorem d_Dec_gather_93 : decode b_Dec_gather 93 = .ok (.dup, 1) := by decide +kernel
theorem d_Dec_gather_94 : decode b_Dec_gather 94 = .ok (.getfield 35, 3) := by decide +kernel
theorem d_Dec_gather_97 : decode b_Dec_gather 97 = .ok (.iload 4, 2) := by decide +kernel
theorem d_Dec_gather_99 : decode b_Dec_gather 99 = .ok (.ifCond .eq 7, 3) := by decide +kernel
theorem d_Dec_gather_102 : decode b_Dec_gather 102 = .ok (.iconst 1, 1) := by decide +kernel
theorem d_Dec_gather_103 : decode b_Dec_gather 103 = .ok (.goto 4, 3) := by decide +kernel
theorem d_Dec_gather_106 : decode b_Dec_gather 106 = .ok (.iconst 0, 1) := by decide +kernel
theorem d_Dec_gather_107 : decode b_Dec_gather 107 = .ok (.isub, 1) := by decide +kernel
theorem d_Dec_gather_108 : decode b_Dec_gather 108 = .ok (.putfield 35, 3) := by decide +kernel
theorem d_Dec_gather_111 : decode b_Dec_gather 111 = .ok (.goto 61, 3) := by decide +kernel
theorem d_Dec_gather_114 : decode b_Dec_gather 114 = .ok (.aload_n 0, 1) := by decide +kernel
theorem d_Dec_gather_115 : decode b_Dec_gather 115 = .ok (.dup, 1) := by decide +kernel
theorem d_Dec_gather_116 : decode b_Dec_gather 116 = .ok (.getfield 35, 3) := by decide +kernel
theorem d_Dec_gather_119 : decode b_Dec_gather 119 = .ok (.iload 4, 2) := by decide +kernel
theorem d_Dec_gather_121 : decode b_Dec_gather 121 = .ok (.ifCond .eq 7, 3) := by decide +kernel
theorem d_Dec_gather_124 : decode b_Dec_gather 124 = .ok (.iconst 0, 1) := by decide +kernel
theorem d_Dec_gather_125 : decode b_Dec_gather 125 = .ok (.goto 4, 3) := by decide +kernel
theorem d_Dec_gather_128 : decode b_Dec_gather 128 = .ok (.iconst 1, 1) := by decide +kernel
theorem d_Dec_gather_129 : decode b_Dec_gather 129 = .ok (.iadd, 1) := by decide +kernel
theorem d_Dec_gather_130 : decode b_Dec_gather 130 = .ok (.putfield 35, 3) := by decide +kernel
theorem d_Dec_gather_133 : decode b_Dec_gather 133 = .ok (.aload_n 0, 1) := by decide +kernel
theorem d_Dec_gather_134 : decode b_Dec_gather 134 = .ok (.getfield 41, 3) := by decide +kernel
theorem d_Dec_gather_137 : decode b_Dec_gather 137 = .ok (.iload_n 3, 1) := by decide +kernel
theorem d_Dec_gather_138 : decode b_Dec_gather 138 = .ok (.if_icmp .ge 15, 3) := by decide +kernel
theorem d_Dec_gather_141 : decode b_Dec_gather 141 = .ok (.aload_n 0, 1) := by decide +kernel
theorem d_Dec_gather_142 : decode b_Dec_gather 142 = .ok (.iload 7, 2) := by decide +kernel
theorem d_Dec_gather_144 : decode b_Dec_gather 144 = .ok (.bipush 48, 2) := by decide +kernel
theorem d_Dec_gather_146 : decode b_Dec_gather 146 = .ok (.isub, 1) := by decide +kernel
theorem d_Dec_gather_147 : decode b_Dec_gather 147 = .ok (.invokevirtual 83, 3) := by decide +kernel
theorem d_Dec_gather_150 : decode b_Dec_gather 150 = .ok (.goto 22, 3) := by decide +kernel
theorem d_Dec_gather_153 : decode b_Dec_gather 153 = .ok (.iload 5, 2) := by decide +kernel
theorem d_Dec_gather_155 : decode b_Dec_gather 155 = .ok (.ifCond .ne 10, 3) := by decide +kernel
theorem d_Dec_gather_158 : decode b_Dec_gather 158 = .ok (.iload 7, 2) := by decide +kernel
theorem d_Dec_gather_160 : decode b_Dec_gather 160 = .ok (.bipush 48, 2) := by decide +kernel
theorem d_Dec_gather_162 : decode b_Dec_gather 162 = .ok (.if_icmp .eq 7, 3) := by decide +kernel
theorem d_Dec_gather_165 : decode b_Dec_gather 165 = .ok (.iconst 1, 1) := by decide +kernel
theorem d_Dec_gather_166 : decode b_Dec_gather 166 = .ok (.goto 4, 3) := by decide +kernel
theorem d_Dec_gather_169 : decode b_Dec_gather 169 = .ok (.iconst 0, 1) := by decide +kernel
theorem d_Dec_gather_170 : decode b_Dec_gather 170 = .ok (.istore 5, 2) := by decide +kernel
theorem d_Dec_gather_172 : decode b_Dec_gather 172 = .ok (.iinc 6 1, 3) := by decide +kernel
theorem d_Dec_gather_175 : decode b_Dec_gather 175 = .ok (.goto (-135), 3) := by decide +kernel
theorem d_Dec_gather_178 : decode b_Dec_gather 178 = .ok (.iload 5, 2) := by decide +kernel
theorem d_Dec_gather_180 : decode b_Dec_gather 180 = .ok (.ifCond .eq 8, 3) := by decide +kernel
theorem d_Dec_gather_183 : decode b_Dec_gather 183 = .ok (.aload_n 0, 1) := by decide +kernel
theorem d_Dec_gather_184 : decode b_Dec_gather 184 = .ok (.iconst 1, 1) := by decide +kernel
theorem d_Dec_gather_185 : decode b_Dec_gather 185 = .ok (.invokevirtual 83, 3) := by decide +kernel
theorem d_Dec_gather_188 : decode b_Dec_gather 188 = .ok (.aload_n 0, 1) := by decide +kernel
theorem d_Dec_gather_189 : decode b_Dec_gather 189 = .ok (.getfield 13, 3) := by decide +kernel
theorem d_Dec_gather_192 : decode b_Dec_gather 192 = .ok (.getfield 70, 3) := by decide +kernel
theorem d_Dec_gather_195 : decode b_Dec_gather 195 = .ok (.aload_n 0, 1) := by decide +kernel
theorem d_Dec_gather_196 : decode b_Dec_gather 196 = .ok (.getfield 80, 3) := by decide +kernel
theorem d_Dec_gather_199 : decode b_Dec_gather 199 = .ok (.aload_n 0, 1) := by decide +kernel
theorem d_Dec_gather_200 : decode b_Dec_gather 200 = .ok (.getfield 77, 3) := by decide +kernel
theorem d_Dec_gather_203 : decode b_Dec_gather 203 = .ok (.invokevirtual 86, 3) := by decide +kernel
theorem d_Dec_gather_206 : decode b_Dec_gather 206 = .ok (.return_, 1) := by decide +kernel
theorem d_Dec_nearest_0 : decode b_Dec_nearest 0 = .ok (.aload_n 0, 1) := by decide +kernel
theorem d_Dec_nearest_1 : decode b_Dec_nearest 1 = .ok (.aload_n 1, 1) := by decide +kernel
theorem d_Dec_nearest_2 : decode b_Dec_nearest 2 = .ok (.getfield 17, 3) := by decide +kernel
theorem d_Dec_nearest_5 : decode b_Dec_nearest 5 = .ok (.aload_n 1, 1) := by decide +kernel
theorem d_Dec_nearest_6 : decode b_Dec_nearest 6 = .ok (.getfield 23, 3) := by decide +kernel
theorem d_Dec_nearest_9 : decode b_Dec_nearest 9 = .ok (.aload_n 2, 1) := by decide +kernel
theorem d_Dec_nearest_10 : decode b_Dec_nearest 10 = .ok (.getfield 26, 3) := by decide +kernel
theorem d_Dec_nearest_13 : decode b_Dec_nearest 13 = .ok (.invokevirtual 31, 3) := by decide +kernel
theorem d_Dec_nearest_16 : decode b_Dec_nearest 16 = .ok (.aload_n 0, 1) := by decide +kernel
theorem d_Dec_nearest_17 : decode b_Dec_nearest 17 = .ok (.getfield 35, 3) := by decide +kernel
theorem d_Dec_nearest_20 : decode b_Dec_nearest 20 = .ok (.aload_n 1, 1) := by decide +kernel
theorem d_Dec_nearest_21 : decode b_Dec_nearest 21 = .ok (.getfield 38, 3) := by decide +kernel
theorem d_Dec_nearest_24 : decode b_Dec_nearest 24 = .ok (.iadd, 1) := by decide +kernel
theorem d_Dec_nearest_25 : decode b_Dec_nearest 25 = .ok (.istore_n 3, 1) := by decide +kernel
theorem d_Dec_nearest_26 : decode b_Dec_nearest 26 = .ok (.aload_n 0, 1) := by decide +kernel
theorem d_Dec_nearest_27 : decode b_Dec_nearest 27 = .ok (.getfield 41, 3) := by decide +kernel
theorem d_Dec_nearest_30 : decode b_Dec_nearest 30 = .ok (.ifCond .eq 11, 3) := by decide +kernel
theorem d_Dec_nearest_33 : decode b_Dec_nearest 33 = .ok (.iload_n 3, 1) := by decide +kernel
theorem d_Dec_nearest_34 : decode b_Dec_nearest 34 = .ok (.aload_n 2, 1) := by decide +kernel
theorem d_Dec_nearest_35 : decode b_Dec_nearest 35 = .ok (.getfield 44, 3) := by decide +kernel
theorem d_Dec_nearest_38 : decode b_Dec_nearest 38 = .ok (.if_icmp .ge 5, 3) := by decide +kernel
theorem d_Dec_nearest_41 : decode b_Dec_nearest 41 = .ok (.lconst 0, 1) := by decide +kernel
theorem d_Dec_nearest_42 : decode b_Dec_nearest 42 = .ok (.lreturn, 1) := by decide +kernel
theorem d_Dec_nearest_43 : decode b_Dec_nearest 43 = .ok (.iload_n 3, 1) := by decide +kernel
theorem d_Dec_nearest_44 : decode b_Dec_nearest 44 = .ok (.aload_n 2, 1) := by decide +kernel
theorem d_Dec_nearest_45 : decode b_Dec_nearest 45 = .ok (.getfield 47, 3) := by decide +kernel
theorem d_Dec_nearest_48 : decode b_Dec_nearest 48 = .ok (.if_icmp .le 8, 3) := by decide +kernel
theorem d_Dec_nearest_51 : decode b_Dec_nearest 51 = .ok (.aload_n 2, 1) := by decide +kernel
theorem d_Dec_nearest_52 : decode b_Dec_nearest 52 = .ok (.getfield 50, 3) := by decide +kernel
theorem d_Dec_nearest_55 : decode b_Dec_nearest 55 = .ok (.lreturn, 1) := by decide +kernel
theorem d_Dec_nearest_56 : decode b_Dec_nearest 56 = .ok (.aload_n 0, 1) := by decide +kernel
theorem d_Dec_nearest_57 : decode b_Dec_nearest 57 = .ok (.getfield 13, 3) := by decide +kernel
theorem d_Dec_nearest_60 : decode b_Dec_nearest 60 = .ok (.getfield 54, 3) := by decide +kernel
theorem d_Dec_nearest_63 : decode b_Dec_nearest 63 = .ok (.lconst 1, 1) := by decide +kernel
theorem d_Dec_nearest_64 : decode b_Dec_nearest 64 = .ok (.invokevirtual 60, 3) := by decide +kernel
theorem d_Dec_nearest_67 : decode b_Dec_nearest 67 = .ok (.iload_n 3, 1) := by decide +kernel
theorem d_Dec_nearest_68 : decode b_Dec_nearest 68 = .ok (.aload_n 0, 1) := by decide +kernel
theorem d_Dec_nearest_69 : decode b_Dec_nearest 69 = .ok (.getfield 41, 3) := by decide +kernel
theorem d_Dec_nearest_72 : decode b_Dec_nearest 72 = .ok (.isub, 1) := by decide +kernel
theorem d_Dec_nearest_73 : decode b_Dec_nearest 73 = .ok (.istore 4, 2) := by decide +kernel
theorem d_Dec_nearest_75 : decode b_Dec_nearest 75 = .ok (.iload 4, 2) := by decide +kernel
theorem d_Dec_nearest_77 : decode b_Dec_nearest 77 = .ok (.ifCond .ge 19, 3) := by decide +kernel
theorem d_Dec_nearest_80 : decode b_Dec_nearest 80 = .ok (.aload_n 0, 1) := by decide +kernel
theorem d_Dec_nearest_81 : decode b_Dec_nearest 81 = .ok (.getfield 13, 3) := by decide +kernel
theorem d_Dec_nearest_84 : decode b_Dec_nearest 84 = .ok (.getfield 54, 3) := by decide +kernel
theorem d_Dec_nearest_87 : decode b_Dec_nearest 87 = .ok (.iload 4, 2) := by decide +kernel
theorem d_Dec_nearest_89 : decode b_Dec_nearest 89 = .ok (.ineg, 1) := by decide +kernel
theorem d_Dec_nearest_90 : decode b_Dec_nearest 90 = .ok (.invokevirtual 66, 3) := by decide +kernel
theorem d_Dec_nearest_93 : decode b_Dec_nearest 93 = .ok (.goto 15, 3) := by decide +kernel
theorem d_Dec_nearest_96 : decode b_Dec_nearest 96 = .ok (.aload_n 0, 1) := by decide +kernel
theorem d_Dec_nearest_97 : decode b_Dec_nearest 97 = .ok (.getfield 13, 3) := by decide +kernel
theorem d_Dec_nearest_100 : decode b_Dec_nearest 100 = .ok (.getfield 70, 3) := by decide +kernel
theorem d_Dec_nearest_103 : decode b_Dec_nearest 103 = .ok (.iload 4, 2) := by decide +kernel
theorem d_Dec_nearest_105 : decode b_Dec_nearest 105 = .ok (.invokevirtual 66, 3) := by decide +kernel
theorem d_Dec_nearest_108 : decode b_Dec_nearest 108 = .ok (.aload_n 0, 1) := by decide +kernel
theorem d_Dec_nearest_109 : decode b_Dec_nearest 109 = .ok (.getfield 13, 3) := by decide +kernel
theorem d_Dec_nearest_112 : decode b_Dec_nearest 112 = .ok (.aload_n 2, 1) := by decide +kernel
theorem d_Dec_nearest_113 : decode b_Dec_nearest 113 = .ok (.iload 4, 2) := by decide +kernel
theorem d_Dec_nearest_115 : decode b_Dec_nearest 115 = .ok (.invokevirtual 73, 3) := by decide +kernel
theorem d_Dec_nearest_118 : decode b_Dec_nearest 118 = .ok (.lreturn, 1) := by decide +kernel
set_option maxHeartbeats 4000000 in
set_option maxRecDepth 100000 in
theorem c_Dec_keepDigit (l : Launch) (D : va_G) (E : evD) (h x q t ta b : Nat) (cA : ClassId) (f : Nat → Int32) (n Vt g gs kp d ex : Nat) (pl : Int32) (hB : isB f n Vt) (hg : g < gs) (he : gs = 10 ^ ex) (he9 : ex < 9) (hd : d ≤ 9) (hfit : (Vt * gs + g) * 10 + d < pw 96) : Cv (S := (Nat → Int32) × Nat × Nat × Nat × Nat) l y_Dec_keepDigit (wz y_Dec_keepDigit b_Dec_keepDigit 2 none) ({ frames := 1, cells := 0, slots := 0, locals := 25 }) D vcl (ev1 E) [.ref h, .int (nI d)] [(cA, .int)] [(h, .inr (1, [.ref x, .ref q, .int (nI g), .int (nI gs), .int (nI kp), .int pl])), (q, .inr (2, [.ref t, .ref b])), (t, .inr (0, [.ref ta, .int (nI n)])), (ta, .inl (cA, 96, .inl f))] 0 0 (fun u : (Nat → Int32) × Nat × Nat × Nat × Nat => isB u.1 u.2.1 u.2.2.1 ∧ u.2.2.1 * u.2.2.2.2 + u.2.2.2.1 = (Vt * gs + g) * 10 + d ∧ u.2.2.2.1 < u.2.2.2.2 ∧ ∃ e, e < 9 ∧ u.2.2.2.2 = 10 ^ e) (fun _ => [(cA, .int)]) (fun u : (Nat → Int32) × Nat × Nat × Nat × Nat => [(h, .inr (1, [.ref x, .ref q, .int (nI u.2.2.2.1), .int (nI u.2.2.2.2), .int (nI (kp + 1)), .int pl])), (q, .inr (2, [.ref t, .ref b])), (t, .inr (0, [.ref ta, .int (nI u.2.1)])), (ta, .inl (cA, 96, .inl u.1))]) := by
  have hev := ev1_ok E
  unfold Cv
  refine ct_of (y := y_Dec_keepDigit) (av := [.ref h, .int (nI d)]) (cc := b_Dec_keepDigit) (maxL := 2) (ret := none) (Qc := fun A => va_Qv (S := (Nat → Int32) × Nat × Nat × Nat × Nat) (fun u : (Nat → Int32) × Nat × Nat × Nat × Nat => isB u.1 u.2.1 u.2.2.1 ∧ u.2.2.1 * u.2.2.2.2 + u.2.2.2.1 = (Vt * gs + g) * 10 + d ∧ u.2.2.2.1 < u.2.2.2.2 ∧ ∃ e, e < 9 ∧ u.2.2.2.2 = 10 ^ e) (fun u tS => ctB D vcl ((fun _ => [(cA, .int)]) u) ((fun u : (Nat → Int32) × Nat × Nat × Nat × Nat => [(h, .inr (1, [.ref x, .ref q, .int (nI u.2.2.2.1), .int (nI u.2.2.2.2), .int (nI (kp + 1)), .int pl])), (q, .inr (2, [.ref t, .ref b])), (t, .inr (0, [.ref ta, .int (nI u.2.1)])), (ta, .inl (cA, 96, .inl u.1))]) u) A tS) A) (by decide) rfl (Nat.le_of_ble_eq_true rfl) ?_
  intro p e s m below meth cde ls A H locs hx hb hml hrt hlocks hown hin hts hA hP hK hD hS hE hl
  have hown : s.vm.findClass R_Dec = some m.cls := hown
  have hts := wz_g hts
  have hl : lv_has ls 2 [(0, .ref h), (1, .int (nI d))] := hl
  obtain ⟨hgs0, hgs1⟩ := e9 he he9
  have hval : Vt * (gs * 10) + (g * 10 + d) = (Vt * gs + g) * 10 + d := by rw [Nat.add_mul, Nat.mul_assoc]; omega
  refine lv_aload_n hx hb d_Dec_keepDigit_0 rfl (lv_at hl 0 rfl) ?_
  refine lv_aload_n hx hb d_Dec_keepDigit_1 rfl (lv_at hl 0 rfl) ?_
  refine va_get (D := D) (ci := 1) (v := .int (nI g)) (C := R_Dec) (T := F_Dec) (N := 6) hx hb hts w_Dec hown hK hP 0 rfl rfl 2 (by decide) (hts _ kF_Dec_77) (fun _ h9 => h9) rfl d_Dec_keepDigit_2 ?_
  refine lv_bipush (v := 10) hx hb d_Dec_keepDigit_5 (by decide) ?_
  refine lv_imul hx hb d_Dec_keepDigit_7 ?_
  refine lv_iload_n hx hb d_Dec_keepDigit_8 rfl (lv_at hl 1 rfl) ?_
  refine lv_iadd hx hb d_Dec_keepDigit_9 ?_
  refine tv_i (nI (g * 10 + d)) (by show nI g * nI 10 + nI d = _; rw [pk_mul, nI_add]) ?_
  refine va_put (D := D) (ci := 1) (v := .int (nI (g * 10 + d))) (ty := .int) (C := R_Dec) (T := F_Dec) (N := 6) hx hb hts w_Dec t_Dec tk_Dec n_Dec hown hK hP hD hS 0 rfl rfl 2 (by decide) (hts _ kF_Dec_77) (fun _ h9 => h9) rfl (by decide +kernel) (rfl) (rfl) (Nat.le_of_ble_eq_true rfl) d_Dec_keepDigit_10 (fun H locs hP hD hS => ?_)
  have hP : va_P D vcl [(h, .inr (1, [.ref x, .ref q, .int (nI (g * 10 + d)), .int (nI gs), .int (nI kp), .int pl])), (q, .inr (2, [.ref t, .ref b])), (t, .inr (0, [.ref ta, .int (nI n)])), (ta, .inl (cA, 96, .inl f))] H := hP
  have hD : va_D A [(h, .inr (1, [.ref x, .ref q, .int (nI (g * 10 + d)), .int (nI gs), .int (nI kp), .int pl])), (q, .inr (2, [.ref t, .ref b])), (t, .inr (0, [.ref ta, .int (nI n)])), (ta, .inl (cA, 96, .inl f))] := hD
  refine lv_aload_n hx hb d_Dec_keepDigit_13 rfl (lv_at hl 0 rfl) ?_
  refine lv_dup hx hb d_Dec_keepDigit_14 rfl ?_
  refine va_get (D := D) (ci := 1) (v := .int (nI gs)) (C := R_Dec) (T := F_Dec) (N := 6) hx hb hts w_Dec hown hK hP 0 rfl rfl 3 (by decide) (hts _ kF_Dec_80) (fun _ h9 => h9) rfl d_Dec_keepDigit_15 ?_
  refine lv_bipush (v := 10) hx hb d_Dec_keepDigit_18 (by decide) ?_
  refine lv_imul hx hb d_Dec_keepDigit_20 ?_
  refine tv_i (nI (gs * 10)) (pk_mul gs 10) ?_
  refine va_put (D := D) (ci := 1) (v := .int (nI (gs * 10))) (ty := .int) (C := R_Dec) (T := F_Dec) (N := 6) hx hb hts w_Dec t_Dec tk_Dec n_Dec hown hK hP hD hS 0 rfl rfl 3 (by decide) (hts _ kF_Dec_80) (fun _ h9 => h9) rfl (by decide +kernel) (rfl) (rfl) (Nat.le_of_ble_eq_true rfl) d_Dec_keepDigit_21 (fun H locs hP hD hS => ?_)
  have hP : va_P D vcl [(h, .inr (1, [.ref x, .ref q, .int (nI (g * 10 + d)), .int (nI (gs * 10)), .int (nI kp), .int pl])), (q, .inr (2, [.ref t, .ref b])), (t, .inr (0, [.ref ta, .int (nI n)])), (ta, .inl (cA, 96, .inl f))] H := hP
  have hD : va_D A [(h, .inr (1, [.ref x, .ref q, .int (nI (g * 10 + d)), .int (nI (gs * 10)), .int (nI kp), .int pl])), (q, .inr (2, [.ref t, .ref b])), (t, .inr (0, [.ref ta, .int (nI n)])), (ta, .inl (cA, 96, .inl f))] := hD
  refine lv_aload_n hx hb d_Dec_keepDigit_24 rfl (lv_at hl 0 rfl) ?_
  refine lv_dup hx hb d_Dec_keepDigit_25 rfl ?_
  refine va_get (D := D) (ci := 1) (v := .int (nI kp)) (C := R_Dec) (T := F_Dec) (N := 6) hx hb hts w_Dec hown hK hP 0 rfl rfl 4 (by decide) (hts _ kF_Dec_41) (fun _ h9 => h9) rfl d_Dec_keepDigit_26 ?_
  refine lv_iconst (v := 1) hx hb d_Dec_keepDigit_29 (by decide) ?_
  refine lv_iadd hx hb d_Dec_keepDigit_30 ?_
  refine tv_i (nI (kp + 1)) (nI_1 kp) ?_
  refine va_put (D := D) (ci := 1) (v := .int (nI (kp + 1))) (ty := .int) (C := R_Dec) (T := F_Dec) (N := 6) hx hb hts w_Dec t_Dec tk_Dec n_Dec hown hK hP hD hS 0 rfl rfl 4 (by decide) (hts _ kF_Dec_41) (fun _ h9 => h9) rfl (by decide +kernel) (rfl) (rfl) (Nat.le_of_ble_eq_true rfl) d_Dec_keepDigit_31 (fun H locs hP hD hS => ?_)
  have hP : va_P D vcl [(h, .inr (1, [.ref x, .ref q, .int (nI (g * 10 + d)), .int (nI (gs * 10)), .int (nI (kp + 1)), .int pl])), (q, .inr (2, [.ref t, .ref b])), (t, .inr (0, [.ref ta, .int (nI n)])), (ta, .inl (cA, 96, .inl f))] H := hP
  have hD : va_D A [(h, .inr (1, [.ref x, .ref q, .int (nI (g * 10 + d)), .int (nI (gs * 10)), .int (nI (kp + 1)), .int pl])), (q, .inr (2, [.ref t, .ref b])), (t, .inr (0, [.ref ta, .int (nI n)])), (ta, .inl (cA, 96, .inl f))] := hD
  refine lv_aload_n hx hb d_Dec_keepDigit_34 rfl (lv_at hl 0 rfl) ?_
  refine va_get (D := D) (ci := 1) (v := .int (nI (gs * 10))) (C := R_Dec) (T := F_Dec) (N := 6) hx hb hts w_Dec hown hK hP 0 rfl rfl 3 (by decide) (hts _ kF_Dec_80) (fun _ h9 => h9) rfl d_Dec_keepDigit_35 ?_
  refine lv_ldc hx hb hown (hts _ kK_Dec_90) d_Dec_keepDigit_38 ?_
  refine lv_icmp_ne (tgt := 71) hx hb d_Dec_keepDigit_40 (by decide) (fun c40 => ?_) (fun c40 => ?_)
  · have e40 : gs * 10 ≠ 1000000000 := fun z => c40 (by rw [z]; rfl)
    exact rt_v hx hb hrt hlocks ((f, n, Vt, g * 10 + d, gs * 10)) (⟨hB, hval, show g * 10 + d < gs * 10 by omega, _, (e9n he he9 e40).1, (e9n he he9 e40).2⟩) (hP.sub [0, 1, 2, 3] rfl) (hK.sub [0] rfl) (hD.sub [0, 1, 2, 3] (by decide) rfl) hS d_Dec_keepDigit_71
  · have e40 : gs * 10 = 1000000000 := (nI_eq (b := 1000000000) (by omega) (by decide)).mp c40
    refine lv_aload_n hx hb d_Dec_keepDigit_43 rfl (lv_at hl 0 rfl) ?_
    refine va_get (D := D) (ci := 1) (v := .ref q) (C := R_Dec) (T := F_Dec) (N := 6) hx hb hts w_Dec hown hK hP 0 rfl rfl 1 (by decide) (hts _ kF_Dec_13) (fun _ h9 => h9) rfl d_Dec_keepDigit_44 ?_
    refine va_get (D := D) (ci := 2) (v := .ref t) (C := R_Fra) (T := F_Fra) (N := 2) hx hb hts w_Fra hown hK hP 1 rfl rfl 0 (by decide) (hts _ kF_Dec_70) (fun _ h9 => h9) rfl d_Dec_keepDigit_47 ?_
    refine lv_aload_n hx hb d_Dec_keepDigit_50 rfl (lv_at hl 0 rfl) ?_
    refine va_get (D := D) (ci := 1) (v := .int (nI (gs * 10))) (C := R_Dec) (T := F_Dec) (N := 6) hx hb hts w_Dec hown hK hP 0 rfl rfl 3 (by decide) (hts _ kF_Dec_80) (fun _ h9 => h9) rfl d_Dec_keepDigit_51 ?_
    refine lv_aload_n hx hb d_Dec_keepDigit_54 rfl (lv_at hl 0 rfl) ?_
    refine va_get (D := D) (ci := 1) (v := .int (nI (g * 10 + d))) (C := R_Dec) (T := F_Dec) (N := 6) hx hb hts w_Dec hown hK hP 0 rfl rfl 2 (by decide) (hts _ kF_Dec_77) (fun _ h9 => h9) rfl d_Dec_keepDigit_55 ?_
    refine ca_v [(h, .inr (1, [.ref x, .ref q, .int (nI (g * 10 + d)), .int (nI (gs * 10)), .int (nI (kp + 1)), .int pl])), (q, .inr (2, [.ref t, .ref b]))] (va_runV (As := [.int (nI (gs * 10)), .int (nI (g * 10 + d))]) (rest := []) ⟨hx, hb, hml, hown, hts⟩ (c_Big_timesPlus l D E t ta cA f n Vt (gs * 10) (g * 10 + d) hB (by omega) (by omega) (by omega) (by rw [hval]; exact hfit) H.size) (xV 2 hts kC_Big_timesPlus kM_Dec_86 kI_Big_timesPlus kS_Big_timesPlus kN_Big rfl rfl (by decide +kernel) ⟨Nat.le_of_ble_eq_true rfl, Nat.le_of_ble_eq_true rfl⟩) ⟨ct_blind hev, va_recv hK hP (ci := 0) (q0 := 2) rfl rfl, ct_pre hev hP hK hD hS hA hE [2, 3] rfl (by decide) [0] rfl⟩ rfl rfl hl.1 rfl (lv_room (Nat.le_of_ble_eq_true rfl)) d_Dec_keepDigit_58 ⟨Nat.le_of_ble_eq_true rfl, Nat.le_of_ble_eq_true rfl⟩) hP hD hS hA [2, 3] [0, 1] rfl rfl (by decide) (by decide) (fun u H locs hw hP hD hS hK1 => ?_)
    obtain ⟨f1, n2⟩ := u
    have hB3 : isB f1 n2 (Vt * (gs * 10) + (g * 10 + d)) := hw
    have hP : va_P D vcl [(h, .inr (1, [.ref x, .ref q, .int (nI (g * 10 + d)), .int (nI (gs * 10)), .int (nI (kp + 1)), .int pl])), (q, .inr (2, [.ref t, .ref b])), (t, .inr (0, [.ref ta, .int (nI n2)])), (ta, .inl (cA, 96, .inl f1))] H := hP
    have hD : va_D A [(h, .inr (1, [.ref x, .ref q, .int (nI (g * 10 + d)), .int (nI (gs * 10)), .int (nI (kp + 1)), .int pl])), (q, .inr (2, [.ref t, .ref b])), (t, .inr (0, [.ref ta, .int (nI n2)])), (ta, .inl (cA, 96, .inl f1))] := hD
    refine lv_aload_n hx hb d_Dec_keepDigit_61 rfl (lv_at hl 0 rfl) ?_
    refine lv_iconst (v := 0) hx hb d_Dec_keepDigit_62 (by decide) ?_
    refine tv_i (nI 0) (rfl) ?_
    refine va_put (D := D) (ci := 1) (v := .int (nI 0)) (ty := .int) (C := R_Dec) (T := F_Dec) (N := 6) hx hb hts w_Dec t_Dec tk_Dec n_Dec hown hK hP hD hS 0 rfl rfl 2 (by decide) (hts _ kF_Dec_77) (fun _ h9 => h9) rfl (by decide +kernel) (rfl) (rfl) (Nat.le_of_ble_eq_true rfl) d_Dec_keepDigit_63 (fun H locs hP hD hS => ?_)
    have hP : va_P D vcl [(h, .inr (1, [.ref x, .ref q, .int (nI 0), .int (nI (gs * 10)), .int (nI (kp + 1)), .int pl])), (q, .inr (2, [.ref t, .ref b])), (t, .inr (0, [.ref ta, .int (nI n2)])), (ta, .inl (cA, 96, .inl f1))] H := hP
    have hD : va_D A [(h, .inr (1, [.ref x, .ref q, .int (nI 0), .int (nI (gs * 10)), .int (nI (kp + 1)), .int pl])), (q, .inr (2, [.ref t, .ref b])), (t, .inr (0, [.ref ta, .int (nI n2)])), (ta, .inl (cA, 96, .inl f1))] := hD
    refine lv_aload_n hx hb d_Dec_keepDigit_66 rfl (lv_at hl 0 rfl) ?_
    refine lv_iconst (v := 1) hx hb d_Dec_keepDigit_67 (by decide) ?_
    refine tv_i (nI 1) (rfl) ?_
    refine va_put (D := D) (ci := 1) (v := .int (nI 1)) (ty := .int) (C := R_Dec) (T := F_Dec) (N := 6) hx hb hts w_Dec t_Dec tk_Dec n_Dec hown hK hP hD hS 0 rfl rfl 3 (by decide) (hts _ kF_Dec_80) (fun _ h9 => h9) rfl (by decide +kernel) (rfl) (rfl) (Nat.le_of_ble_eq_true rfl) d_Dec_keepDigit_68 (fun H locs hP hD hS => ?_)
    have hP : va_P D vcl [(h, .inr (1, [.ref x, .ref q, .int (nI 0), .int (nI 1), .int (nI (kp + 1)), .int pl])), (q, .inr (2, [.ref t, .ref b])), (t, .inr (0, [.ref ta, .int (nI n2)])), (ta, .inl (cA, 96, .inl f1))] H := hP
    have hD : va_D A [(h, .inr (1, [.ref x, .ref q, .int (nI 0), .int (nI 1), .int (nI (kp + 1)), .int pl])), (q, .inr (2, [.ref t, .ref b])), (t, .inr (0, [.ref ta, .int (nI n2)])), (ta, .inl (cA, 96, .inl f1))] := hD
    exact rt_v hx hb hrt hlocks ((f1, n2, Vt * (gs * 10) + (g * 10 + d), 0, 1)) (⟨hB3, by rw [hval, Nat.mul_one, Nat.add_zero], show 0 < 1 by decide, 0, by decide, rfl⟩) (hP.sub [0, 1, 2, 3] rfl) (hK.sub [0] rfl) (hD.sub [0, 1, 2, 3] (by decide) rfl) hS d_Dec_keepDigit_71

set_option maxHeartbeats 4000000 in
set_option maxRecDepth 100000 in
theorem c_Dec_gather (l : Launch) (D : va_G) (E : evD) (i : Nat) (hi : i < 2) (h x q t ta b : Nat) (cC cA : ClassId) (T : Nat → Nat) (f : Nat → Int32) (nv g0 gs0 kp0 pl0 : Int32) (a b0 : Nat) (hab : a + 0 ≤ b0) (hb0 : b0 ≤ 2400) (hT : ∀ j, T j < 65536) (hdig : ∀ j, a ≤ j → j < b0 → T j = 46 ∨ (48 ≤ T j ∧ T j ≤ 57)) : Cv (S := (Nat → Int32) × Nat × Nat × Nat × Nat × Nat × Int) l y_Dec_gather (wz y_Dec_gather b_Dec_gather 8 none) ({ frames := 2, cells := 0, slots := 0, locals := 46 }) D vcl (ev1 E) [.ref h, .int (nI a), .int (nI b0), .int (nI (kMd i))] [(cC, .char), (cA, .int)] [(h, .inr (1, [.ref x, .ref q, .int g0, .int gs0, .int kp0, .int pl0])), (x, .inl (cC, 2400, .inl (tx T))), (q, .inr (2, [.ref t, .ref b])), (t, .inr (0, [.ref ta, .int nv])), (ta, .inl (cA, 96, .inl f))] 0 0 (fun u : (Nat → Int32) × Nat × Nat × Nat × Nat × Nat × Int => isB u.1 u.2.1 u.2.2.1 ∧ gaOK i (gv 10 T a (b0 - a)) (gf T a (b0 - a)) u.2.2.1 u.2.2.2.2.2.1 u.2.2.2.2.2.2) (fun _ => [(cC, .char), (cA, .int)]) (fun u : (Nat → Int32) × Nat × Nat × Nat × Nat × Nat × Int => [(h, .inr (1, [.ref x, .ref q, .int (nI u.2.2.2.1), .int (nI u.2.2.2.2.1), .int (nI u.2.2.2.2.2.1), .int (zI u.2.2.2.2.2.2)])), (x, .inl (cC, 2400, .inl (tx T))), (q, .inr (2, [.ref t, .ref b])), (t, .inr (0, [.ref ta, .int (nI u.2.1)])), (ta, .inl (cA, 96, .inl u.1))]) := by
  have hev := ev1_ok E
  unfold Cv
  refine ct_of (y := y_Dec_gather) (av := [.ref h, .int (nI a), .int (nI b0), .int (nI (kMd i))]) (cc := b_Dec_gather) (maxL := 8) (ret := none) (Qc := fun A => va_Qv (S := (Nat → Int32) × Nat × Nat × Nat × Nat × Nat × Int) (fun u : (Nat → Int32) × Nat × Nat × Nat × Nat × Nat × Int => isB u.1 u.2.1 u.2.2.1 ∧ gaOK i (gv 10 T a (b0 - a)) (gf T a (b0 - a)) u.2.2.1 u.2.2.2.2.2.1 u.2.2.2.2.2.2) (fun u tS => ctB D vcl ((fun _ => [(cC, .char), (cA, .int)]) u) ((fun u : (Nat → Int32) × Nat × Nat × Nat × Nat × Nat × Int => [(h, .inr (1, [.ref x, .ref q, .int (nI u.2.2.2.1), .int (nI u.2.2.2.2.1), .int (nI u.2.2.2.2.2.1), .int (zI u.2.2.2.2.2.2)])), (x, .inl (cC, 2400, .inl (tx T))), (q, .inr (2, [.ref t, .ref b])), (t, .inr (0, [.ref ta, .int (nI u.2.1)])), (ta, .inl (cA, 96, .inl u.1))]) u) A tS) A) (by decide) rfl (Nat.le_of_ble_eq_true rfl) ?_
  intro p e s m below meth cde ls A H locs hx hb hml hrt hlocks hown hin hts hA hP hK hD hS hE hl
  have hown : s.vm.findClass R_Dec = some m.cls := hown
  have hts := wz_g hts
  have hl : lv_has ls 8 [(0, .ref h), (1, .int (nI a)), (2, .int (nI b0)), (3, .int (nI (kMd i)))] := hl
  obtain ⟨hk1, hk2, hk3, hk4, hk5, hk6, hk7, -⟩ := kP_b i hi
  refine lv_iconst (v := 0) hx hb d_Dec_gather_0 (by decide) ?_
  refine tv_i (bI (gp T a 0)) (rfl) ?_
  refine lv_istore (lv' := [(4, .int (bI (gp T a 0))), (0, .ref h), (1, .int (nI a)), (2, .int (nI b0)), (3, .int (nI (kMd i)))]) hx hb d_Dec_gather_1 hl (by decide) rfl (fun ls hl => ?_)
  refine lv_iconst (v := 0) hx hb d_Dec_gather_3 (by decide) ?_
  refine tv_i (bI (decide (0 ≠ 0))) (rfl) ?_
  refine lv_istore (lv' := [(5, .int (bI (decide (0 ≠ 0)))), (4, .int (bI (gp T a 0))), (0, .ref h), (1, .int (nI a)), (2, .int (nI b0)), (3, .int (nI (kMd i)))]) hx hb d_Dec_gather_4 hl (by decide) rfl (fun ls hl => ?_)
  refine lv_aload_n hx hb d_Dec_gather_6 rfl (lv_at hl 2 rfl) ?_
  refine va_get (D := D) (ci := 1) (v := .ref q) (C := R_Dec) (T := F_Dec) (N := 6) hx hb hts w_Dec hown hK hP 0 rfl rfl 1 (by decide) (hts _ kF_Dec_13) (fun _ h9 => h9) rfl d_Dec_gather_7 ?_
  refine va_get (D := D) (ci := 2) (v := .ref t) (C := R_Fra) (T := F_Fra) (N := 2) hx hb hts w_Fra hown hK hP 2 rfl rfl 0 (by decide) (hts _ kF_Dec_70) (fun _ h9 => h9) rfl d_Dec_gather_10 ?_
  refine lv_lconst (v := 0) hx hb d_Dec_gather_13 (by decide) ?_
  refine tv_l (lN 0) (rfl) ?_
  refine ca_v [(h, .inr (1, [.ref x, .ref q, .int g0, .int gs0, .int kp0, .int pl0])), (x, .inl (cC, 2400, .inl (tx T))), (q, .inr (2, [.ref t, .ref b]))] (va_runV (As := [.long (lN 0)]) (rest := []) ⟨hx, hb, hml, hown, hts⟩ (c_Big_set l D E t ta cA f nv 0 (by decide) H.size) (xV 1 hts kC_Big_set kM_Dec_60 kI_Big_set kS_Big_set kN_Big rfl rfl (by decide +kernel) ⟨Nat.le_of_ble_eq_true rfl, Nat.le_of_ble_eq_true rfl⟩) ⟨ct_blind hev, va_recv hK hP (ci := 0) (q0 := 3) rfl rfl, ct_pre hev hP hK hD hS hA hE [3, 4] rfl (by decide) [1] rfl⟩ rfl rfl hl.1 rfl (lv_room (Nat.le_of_ble_eq_true rfl)) d_Dec_gather_14 ⟨Nat.le_of_ble_eq_true rfl, Nat.le_of_ble_eq_true rfl⟩) hP hD hS hA [3, 4] [0, 1, 2] rfl rfl (by decide) (by decide) (fun u H locs hw hP hD hS hK1 => ?_)
  obtain ⟨f1, n2⟩ := u
  have hB3 : isB f1 n2 (0) := hw
  have hP : va_P D vcl [(h, .inr (1, [.ref x, .ref q, .int g0, .int gs0, .int kp0, .int pl0])), (x, .inl (cC, 2400, .inl (tx T))), (q, .inr (2, [.ref t, .ref b])), (t, .inr (0, [.ref ta, .int (nI n2)])), (ta, .inl (cA, 96, .inl f1))] H := hP
  have hD : va_D A [(h, .inr (1, [.ref x, .ref q, .int g0, .int gs0, .int kp0, .int pl0])), (x, .inl (cC, 2400, .inl (tx T))), (q, .inr (2, [.ref t, .ref b])), (t, .inr (0, [.ref ta, .int (nI n2)])), (ta, .inl (cA, 96, .inl f1))] := hD
  refine lv_aload_n hx hb d_Dec_gather_17 rfl (lv_at hl 2 rfl) ?_
  refine lv_iconst (v := 0) hx hb d_Dec_gather_18 (by decide) ?_
  refine tv_i (nI 0) (rfl) ?_
  refine va_put (D := D) (ci := 1) (v := .int (nI 0)) (ty := .int) (C := R_Dec) (T := F_Dec) (N := 6) hx hb hts w_Dec t_Dec tk_Dec n_Dec hown hK hP hD hS 0 rfl rfl 2 (by decide) (hts _ kF_Dec_77) (fun _ h9 => h9) rfl (by decide +kernel) (rfl) (rfl) (Nat.le_of_ble_eq_true rfl) d_Dec_gather_19 (fun H locs hP hD hS => ?_)
  have hP : va_P D vcl [(h, .inr (1, [.ref x, .ref q, .int (nI 0), .int gs0, .int kp0, .int pl0])), (x, .inl (cC, 2400, .inl (tx T))), (q, .inr (2, [.ref t, .ref b])), (t, .inr (0, [.ref ta, .int (nI n2)])), (ta, .inl (cA, 96, .inl f1))] H := hP
  have hD : va_D A [(h, .inr (1, [.ref x, .ref q, .int (nI 0), .int gs0, .int kp0, .int pl0])), (x, .inl (cC, 2400, .inl (tx T))), (q, .inr (2, [.ref t, .ref b])), (t, .inr (0, [.ref ta, .int (nI n2)])), (ta, .inl (cA, 96, .inl f1))] := hD
  refine lv_aload_n hx hb d_Dec_gather_22 rfl (lv_at hl 2 rfl) ?_
  refine lv_iconst (v := 1) hx hb d_Dec_gather_23 (by decide) ?_
  refine tv_i (nI 1) (rfl) ?_
  refine va_put (D := D) (ci := 1) (v := .int (nI 1)) (ty := .int) (C := R_Dec) (T := F_Dec) (N := 6) hx hb hts w_Dec t_Dec tk_Dec n_Dec hown hK hP hD hS 0 rfl rfl 3 (by decide) (hts _ kF_Dec_80) (fun _ h9 => h9) rfl (by decide +kernel) (rfl) (rfl) (Nat.le_of_ble_eq_true rfl) d_Dec_gather_24 (fun H locs hP hD hS => ?_)
  have hP : va_P D vcl [(h, .inr (1, [.ref x, .ref q, .int (nI 0), .int (nI 1), .int kp0, .int pl0])), (x, .inl (cC, 2400, .inl (tx T))), (q, .inr (2, [.ref t, .ref b])), (t, .inr (0, [.ref ta, .int (nI n2)])), (ta, .inl (cA, 96, .inl f1))] H := hP
  have hD : va_D A [(h, .inr (1, [.ref x, .ref q, .int (nI 0), .int (nI 1), .int kp0, .int pl0])), (x, .inl (cC, 2400, .inl (tx T))), (q, .inr (2, [.ref t, .ref b])), (t, .inr (0, [.ref ta, .int (nI n2)])), (ta, .inl (cA, 96, .inl f1))] := hD
  refine lv_aload_n hx hb d_Dec_gather_27 rfl (lv_at hl 2 rfl) ?_
  refine lv_iconst (v := 0) hx hb d_Dec_gather_28 (by decide) ?_
  refine tv_i (nI 0) (rfl) ?_
  refine va_put (D := D) (ci := 1) (v := .int (nI 0)) (ty := .int) (C := R_Dec) (T := F_Dec) (N := 6) hx hb hts w_Dec t_Dec tk_Dec n_Dec hown hK hP hD hS 0 rfl rfl 4 (by decide) (hts _ kF_Dec_41) (fun _ h9 => h9) rfl (by decide +kernel) (rfl) (rfl) (Nat.le_of_ble_eq_true rfl) d_Dec_gather_29 (fun H locs hP hD hS => ?_)
  have hP : va_P D vcl [(h, .inr (1, [.ref x, .ref q, .int (nI 0), .int (nI 1), .int (nI 0), .int pl0])), (x, .inl (cC, 2400, .inl (tx T))), (q, .inr (2, [.ref t, .ref b])), (t, .inr (0, [.ref ta, .int (nI n2)])), (ta, .inl (cA, 96, .inl f1))] H := hP
  have hD : va_D A [(h, .inr (1, [.ref x, .ref q, .int (nI 0), .int (nI 1), .int (nI 0), .int pl0])), (x, .inl (cC, 2400, .inl (tx T))), (q, .inr (2, [.ref t, .ref b])), (t, .inr (0, [.ref ta, .int (nI n2)])), (ta, .inl (cA, 96, .inl f1))] := hD
  refine lv_aload_n hx hb d_Dec_gather_32 rfl (lv_at hl 2 rfl) ?_
  refine lv_iconst (v := 0) hx hb d_Dec_gather_33 (by decide) ?_
  refine tv_i (zI (((0 : Nat) : Int) + ((0 : Nat) : Int) - gf T a 0)) (rfl) ?_
  refine va_put (D := D) (ci := 1) (v := .int (zI (((0 : Nat) : Int) + ((0 : Nat) : Int) - gf T a 0))) (ty := .int) (C := R_Dec) (T := F_Dec) (N := 6) hx hb hts w_Dec t_Dec tk_Dec n_Dec hown hK hP hD hS 0 rfl rfl 5 (by decide) (hts _ kF_Dec_35) (fun _ h9 => h9) rfl (by decide +kernel) (rfl) (rfl) (Nat.le_of_ble_eq_true rfl) d_Dec_gather_34 (fun H locs hP hD hS => ?_)
  have hP : va_P D vcl [(h, .inr (1, [.ref x, .ref q, .int (nI 0), .int (nI 1), .int (nI 0), .int (zI (((0 : Nat) : Int) + ((0 : Nat) : Int) - gf T a 0))])), (x, .inl (cC, 2400, .inl (tx T))), (q, .inr (2, [.ref t, .ref b])), (t, .inr (0, [.ref ta, .int (nI n2)])), (ta, .inl (cA, 96, .inl f1))] H := hP
  have hD : va_D A [(h, .inr (1, [.ref x, .ref q, .int (nI 0), .int (nI 1), .int (nI 0), .int (zI (((0 : Nat) : Int) + ((0 : Nat) : Int) - gf T a 0))])), (x, .inl (cC, 2400, .inl (tx T))), (q, .inr (2, [.ref t, .ref b])), (t, .inr (0, [.ref ta, .int (nI n2)])), (ta, .inl (cA, 96, .inl f1))] := hD
  refine lv_iload_n hx hb d_Dec_gather_37 rfl (lv_at hl 3 rfl) ?_
  refine lv_istore (lv' := [(6, .int (nI a)), (5, .int (bI (decide (0 ≠ 0)))), (4, .int (bI (gp T a 0))), (0, .ref h), (1, .int (nI a)), (2, .int (nI b0)), (3, .int (nI (kMd i)))]) hx hb d_Dec_gather_38 hl (by decide) rfl (fun ls hl => ?_)
  have L40 : ∀ (kk : Nat) (n : Nat) (ft : Nat → Int32) (nt : Nat) (Vt : Nat) (g : Nat) (gs : Nat) (kp : Nat) (r : Nat) (tl : Nat), b0 - (a + n) < kk → (a + n ≤ b0) → (isB ft nt Vt) → (∃ e, e < 9 ∧ gs = 10 ^ e) → (g < gs) → (gv 10 T a n = (Vt * gs + g) * 10 ^ r + tl) → (tl < 10 ^ r) → (kp ≤ kMd i) → (kp < kMd i → r = 0) → (Vt * gs + g < 10 ^ kp) → (0 < kp → 10 ^ (kp - 1) ≤ Vt * gs + g) → (kp + r ≤ n) → ∀ (H : Heap) (locs : List Loc) (ls : Array Slot), va_P D vcl [(h, .inr (1, [.ref x, .ref q, .int (nI g), .int (nI gs), .int (nI kp), .int (zI ((kp : Int) + r - gf T a n))])), (x, .inl (cC, 2400, .inl (tx T))), (q, .inr (2, [.ref t, .ref b])), (t, .inr (0, [.ref ta, .int (nI nt)])), (ta, .inl (cA, 96, .inl ft))] H → va_D A [(h, .inr (1, [.ref x, .ref q, .int (nI g), .int (nI gs), .int (nI kp), .int (zI ((kp : Int) + r - gf T a n))])), (x, .inl (cC, 2400, .inl (tx T))), (q, .inr (2, [.ref t, .ref b])), (t, .inr (0, [.ref ta, .int (nI nt)])), (ta, .inl (cA, 96, .inl ft))] → va_S A s.heap H locs → lv_has ls 8 [(0, .ref h), (2, .int (nI b0)), (3, .int (nI (kMd i))), (4, .int (bI (gp T a n))), (5, .int (bI (decide (tl ≠ 0)))), (6, .int (nI (a + n)))] → W p l e ({ frames := 2, cells := 0, slots := 0, locals := 46 }) s m ([.ref h, .int (nI a), .int (nI b0), .int (nI (kMd i))] : List Value).toArray below meth cde H locs 0 0 (MQ below (va_Qv (S := (Nat → Int32) × Nat × Nat × Nat × Nat × Nat × Int) (fun u : (Nat → Int32) × Nat × Nat × Nat × Nat × Nat × Int => isB u.1 u.2.1 u.2.2.1 ∧ gaOK i (gv 10 T a (b0 - a)) (gf T a (b0 - a)) u.2.2.1 u.2.2.2.2.2.1 u.2.2.2.2.2.2) (fun u tS => ctB D vcl ((fun _ => [(cC, .char), (cA, .int)]) u) ((fun u : (Nat → Int32) × Nat × Nat × Nat × Nat × Nat × Int => [(h, .inr (1, [.ref x, .ref q, .int (nI u.2.2.2.1), .int (nI u.2.2.2.2.1), .int (nI u.2.2.2.2.2.1), .int (zI u.2.2.2.2.2.2)])), (x, .inl (cC, 2400, .inl (tx T))), (q, .inr (2, [.ref t, .ref b])), (t, .inr (0, [.ref ta, .int (nI u.2.1)])), (ta, .inl (cA, 96, .inl u.1))]) u) A tS) A) ([.ref h, .int (nI a), .int (nI b0), .int (nI (kMd i))] : List Value).toArray s 0 0 A) (F0 m 40 ls []) := by
    intro kk
    induction kk with
    | zero => intro n ft nt Vt g gs kp r tl hmz; exact absurd hmz (Nat.not_lt_zero _)
    | succ kk ih =>
      intro n ft nt Vt g gs kp r tl hmz hn hB hex hg hM ht hk hr hKl h1 hkr H locs ls hP hD hS hl
      obtain ⟨ex, he9, he⟩ := hex
      obtain ⟨hgs0, hgs1⟩ := e9 he he9
      have hTc := hT (a + n)
      refine lv_iload hx hb d_Dec_gather_40 (lv_at hl 5 rfl) ?_
      refine lv_iload_n hx hb d_Dec_gather_42 rfl (lv_at hl 1 rfl) ?_
      refine lv_icmp_ge (tgt := 178) hx hb d_Dec_gather_43 (by decide) (fun c43 => ?_) (fun c43 => ?_)
      · have e43 : b0 ≤ a + n := (nI_leI (by omega) (by omega)).mp c43
        have hnn : n = b0 - a := by omega
        refine lv_iload hx hb d_Dec_gather_178 (lv_at hl 4 rfl) ?_
        refine lv_if_eq (tgt := 188) hx hb d_Dec_gather_180 (by decide) (fun c180 => ?_) (fun c180 => ?_)
        · have e180 : tl = 0 := by have h9 : ¬ tl ≠ 0 := of_decide_eq_false ((bI_0 _).mp c180); omega
          rw [e180] at hM
          rw [hnn] at hM
          refine lv_aload_n hx hb d_Dec_gather_188 rfl (lv_at hl 0 rfl) ?_
          refine va_get (D := D) (ci := 1) (v := .ref q) (C := R_Dec) (T := F_Dec) (N := 6) hx hb hts w_Dec hown hK hP 0 rfl rfl 1 (by decide) (hts _ kF_Dec_13) (fun _ h9 => h9) rfl d_Dec_gather_189 ?_
          refine va_get (D := D) (ci := 2) (v := .ref t) (C := R_Fra) (T := F_Fra) (N := 2) hx hb hts w_Fra hown hK hP 2 rfl rfl 0 (by decide) (hts _ kF_Dec_70) (fun _ h9 => h9) rfl d_Dec_gather_192 ?_
          refine lv_aload_n hx hb d_Dec_gather_195 rfl (lv_at hl 0 rfl) ?_
          refine va_get (D := D) (ci := 1) (v := .int (nI gs)) (C := R_Dec) (T := F_Dec) (N := 6) hx hb hts w_Dec hown hK hP 0 rfl rfl 3 (by decide) (hts _ kF_Dec_80) (fun _ h9 => h9) rfl d_Dec_gather_196 ?_
          refine lv_aload_n hx hb d_Dec_gather_199 rfl (lv_at hl 0 rfl) ?_
          refine va_get (D := D) (ci := 1) (v := .int (nI g)) (C := R_Dec) (T := F_Dec) (N := 6) hx hb hts w_Dec hown hK hP 0 rfl rfl 2 (by decide) (hts _ kF_Dec_77) (fun _ h9 => h9) rfl d_Dec_gather_200 ?_
          refine ca_v [(h, .inr (1, [.ref x, .ref q, .int (nI g), .int (nI gs), .int (nI kp), .int (zI ((kp : Int) + r - gf T a n))])), (x, .inl (cC, 2400, .inl (tx T))), (q, .inr (2, [.ref t, .ref b]))] (va_runV (As := [.int (nI gs), .int (nI g)]) (rest := []) ⟨hx, hb, hml, hown, hts⟩ (c_Big_timesPlus l D E t ta cA ft nt Vt gs g hB (by have := e9 he he9; omega) (by have := e9 he he9; omega) (by have := e9 he he9; have := hg; omega) (fit10 hKl (by omega)) H.size) (xV 2 hts kC_Big_timesPlus kM_Dec_86 kI_Big_timesPlus kS_Big_timesPlus kN_Big rfl rfl (by decide +kernel) ⟨Nat.le_of_ble_eq_true rfl, Nat.le_of_ble_eq_true rfl⟩) ⟨ct_blind hev, va_recv hK hP (ci := 0) (q0 := 3) rfl rfl, ct_pre hev hP hK hD hS hA hE [3, 4] rfl (by decide) [1] rfl⟩ rfl rfl hl.1 rfl (lv_room (Nat.le_of_ble_eq_true rfl)) d_Dec_gather_203 ⟨Nat.le_of_ble_eq_true rfl, Nat.le_of_ble_eq_true rfl⟩) hP hD hS hA [3, 4] [0, 1, 2] rfl rfl (by decide) (by decide) (fun u H locs hw hP hD hS hK1 => ?_)
          obtain ⟨f4, n5⟩ := u
          have hB6 : isB f4 n5 (Vt * gs + g) := hw
          have hP : va_P D vcl [(h, .inr (1, [.ref x, .ref q, .int (nI g), .int (nI gs), .int (nI kp), .int (zI ((kp : Int) + r - gf T a n))])), (x, .inl (cC, 2400, .inl (tx T))), (q, .inr (2, [.ref t, .ref b])), (t, .inr (0, [.ref ta, .int (nI n5)])), (ta, .inl (cA, 96, .inl f4))] H := hP
          have hD : va_D A [(h, .inr (1, [.ref x, .ref q, .int (nI g), .int (nI gs), .int (nI kp), .int (zI ((kp : Int) + r - gf T a n))])), (x, .inl (cC, 2400, .inl (tx T))), (q, .inr (2, [.ref t, .ref b])), (t, .inr (0, [.ref ta, .int (nI n5)])), (ta, .inl (cA, 96, .inl f4))] := hD
          exact rt_v hx hb hrt hlocks ((f4, n5, Vt * gs + g, g, gs, kp, (kp : Int) + r - gf T a n)) (⟨hB6, by have h9 := ga_no (i := i) (fr := gf T a (b0 - a)) hM hKl h1 hk (by omega) (by have := gf_le T a (b0 - a); omega); rw [hnn]; exact h9⟩) (hP.sub [0, 1, 2, 3, 4] rfl) (hK.sub [0, 1] rfl) (hD.sub [0, 1, 2, 3, 4] (by decide) rfl) hS d_Dec_gather_206
        · have e180 : tl ≠ 0 := of_decide_eq_true (tt_of (fun z => c180 ((bI_0 _).mpr z)))
          rw [hnn] at hM
          refine lv_aload_n hx hb d_Dec_gather_183 rfl (lv_at hl 0 rfl) ?_
          refine lv_iconst (v := 1) hx hb d_Dec_gather_184 (by decide) ?_
          refine tv_i (nI 1) (rfl) ?_
          refine ca_v [(x, .inl (cC, 2400, .inl (tx T)))] (va_runV (As := [.int (nI 1)]) (rest := []) ⟨hx, hb, hml, hown, hts⟩ (c_Dec_keepDigit l D E h x q t ta b cA ft nt Vt g gs kp 1 ex (zI ((kp : Int) + r - gf T a n)) hB hg he he9 (by decide) (fit10 (kd_step (d := 1) hKl h1 (by decide) (fun _ => by decide)).1 (by omega)) H.size) (xV 1 hts kC_Dec_keepDigit kM_Dec_83 kI_Dec_keepDigit kS_Dec_keepDigit kN_Dec rfl rfl (by decide +kernel) ⟨Nat.le_of_ble_eq_true rfl, Nat.le_of_ble_eq_true rfl⟩) ⟨ct_blind hev, va_recv hK hP (ci := 1) (q0 := 0) rfl rfl, ct_pre hev hP hK hD hS hA hE [0, 2, 3, 4] rfl (by decide) [1] rfl⟩ rfl rfl hl.1 rfl (lv_room (Nat.le_of_ble_eq_true rfl)) d_Dec_gather_185 ⟨Nat.le_of_ble_eq_true rfl, Nat.le_of_ble_eq_true rfl⟩) hP hD hS hA [0, 2, 3, 4] [1] rfl rfl (by decide) (by decide) (fun u H locs hw hP hD hS hK1 => ?_)
          obtain ⟨f7, n7, V7, g7, gs7⟩ := u
          obtain ⟨hB7, hv7, hg7, ex7, hx7, he7⟩ := hw
          have hB7 : isB f7 n7 V7 := hB7
          have hv7 : V7 * gs7 + g7 = (Vt * gs + g) * 10 + 1 := hv7
          have hg7 : g7 < gs7 := hg7
          have he7 : gs7 = 10 ^ ex7 := he7
          have hP : va_P D vcl [(x, .inl (cC, 2400, .inl (tx T))), (h, .inr (1, [.ref x, .ref q, .int (nI g7), .int (nI gs7), .int (nI (kp + 1)), .int (zI ((kp : Int) + r - gf T a n))])), (q, .inr (2, [.ref t, .ref b])), (t, .inr (0, [.ref ta, .int (nI n7)])), (ta, .inl (cA, 96, .inl f7))] H := hP
          have hD : va_D A [(x, .inl (cC, 2400, .inl (tx T))), (h, .inr (1, [.ref x, .ref q, .int (nI g7), .int (nI gs7), .int (nI (kp + 1)), .int (zI ((kp : Int) + r - gf T a n))])), (q, .inr (2, [.ref t, .ref b])), (t, .inr (0, [.ref ta, .int (nI n7)])), (ta, .inl (cA, 96, .inl f7))] := hD
          refine lv_aload_n hx hb d_Dec_gather_188 rfl (lv_at hl 0 rfl) ?_
          refine va_get (D := D) (ci := 1) (v := .ref q) (C := R_Dec) (T := F_Dec) (N := 6) hx hb hts w_Dec hown hK hP 1 rfl rfl 1 (by decide) (hts _ kF_Dec_13) (fun _ h9 => h9) rfl d_Dec_gather_189 ?_
          refine va_get (D := D) (ci := 2) (v := .ref t) (C := R_Fra) (T := F_Fra) (N := 2) hx hb hts w_Fra hown hK hP 2 rfl rfl 0 (by decide) (hts _ kF_Dec_70) (fun _ h9 => h9) rfl d_Dec_gather_192 ?_
          refine lv_aload_n hx hb d_Dec_gather_195 rfl (lv_at hl 0 rfl) ?_
          refine va_get (D := D) (ci := 1) (v := .int (nI gs7)) (C := R_Dec) (T := F_Dec) (N := 6) hx hb hts w_Dec hown hK hP 1 rfl rfl 3 (by decide) (hts _ kF_Dec_80) (fun _ h9 => h9) rfl d_Dec_gather_196 ?_
          refine lv_aload_n hx hb d_Dec_gather_199 rfl (lv_at hl 0 rfl) ?_
          refine va_get (D := D) (ci := 1) (v := .int (nI g7)) (C := R_Dec) (T := F_Dec) (N := 6) hx hb hts w_Dec hown hK hP 1 rfl rfl 2 (by decide) (hts _ kF_Dec_77) (fun _ h9 => h9) rfl d_Dec_gather_200 ?_
          refine ca_v [(x, .inl (cC, 2400, .inl (tx T))), (h, .inr (1, [.ref x, .ref q, .int (nI g7), .int (nI gs7), .int (nI (kp + 1)), .int (zI ((kp : Int) + r - gf T a n))])), (q, .inr (2, [.ref t, .ref b]))] (va_runV (As := [.int (nI gs7), .int (nI g7)]) (rest := []) ⟨hx, hb, hml, hown, hts⟩ (c_Big_timesPlus l D E t ta cA f7 n7 V7 gs7 g7 hB7 (by have := e9 he7 hx7; omega) (by have := e9 he7 hx7; omega) (by have := e9 he7 hx7; have := hg7; omega) (by rw [hv7]; exact fit10 (kd_step (d := 1) hKl h1 (by decide) (fun _ => by decide)).1 (by omega)) H.size) (xV 2 hts kC_Big_timesPlus kM_Dec_86 kI_Big_timesPlus kS_Big_timesPlus kN_Big rfl rfl (by decide +kernel) ⟨Nat.le_of_ble_eq_true rfl, Nat.le_of_ble_eq_true rfl⟩) ⟨ct_blind hev, va_recv hK hP (ci := 0) (q0 := 3) rfl rfl, ct_pre hev hP hK hD hS hA hE [3, 4] rfl (by decide) [1] rfl⟩ rfl rfl hl.1 rfl (lv_room (Nat.le_of_ble_eq_true rfl)) d_Dec_gather_203 ⟨Nat.le_of_ble_eq_true rfl, Nat.le_of_ble_eq_true rfl⟩) hP hD hS hA [3, 4] [0, 1, 2] rfl rfl (by decide) (by decide) (fun u H locs hw hP hD hS hK1 => ?_)
          obtain ⟨f8, n9⟩ := u
          have hB10 : isB f8 n9 (V7 * gs7 + g7) := hw
          have hP : va_P D vcl [(x, .inl (cC, 2400, .inl (tx T))), (h, .inr (1, [.ref x, .ref q, .int (nI g7), .int (nI gs7), .int (nI (kp + 1)), .int (zI ((kp : Int) + r - gf T a n))])), (q, .inr (2, [.ref t, .ref b])), (t, .inr (0, [.ref ta, .int (nI n9)])), (ta, .inl (cA, 96, .inl f8))] H := hP
          have hD : va_D A [(x, .inl (cC, 2400, .inl (tx T))), (h, .inr (1, [.ref x, .ref q, .int (nI g7), .int (nI gs7), .int (nI (kp + 1)), .int (zI ((kp : Int) + r - gf T a n))])), (q, .inr (2, [.ref t, .ref b])), (t, .inr (0, [.ref ta, .int (nI n9)])), (ta, .inl (cA, 96, .inl f8))] := hD
          exact rt_v hx hb hrt hlocks ((f8, n9, V7 * gs7 + g7, g7, gs7, (kp + 1), (kp : Int) + r - gf T a n)) (⟨hB10, by have h9 := ga_more (i := i) (fr := gf T a (b0 - a)) hi hM ht e180 hKl h1 hk hr (by omega) (by have := gf_le T a (b0 - a); omega); rw [hnn]; show gaOK i _ _ (_ * _ + _) _ _; rw [hv7]; exact h9⟩) (hP.sub [1, 0, 2, 3, 4] rfl) (hK.sub [0, 1] rfl) (hD.sub [1, 0, 2, 3, 4] (by decide) rfl) hS d_Dec_gather_206
      · have e43 : a + n < b0 := Nat.lt_of_not_le (fun z => c43 ((nI_leI (by omega) (by omega)).mpr z))
        refine lv_iload hx hb d_Dec_gather_46 (lv_at hl 5 rfl) ?_
        refine lv_aload_n hx hb d_Dec_gather_48 rfl (lv_at hl 0 rfl) ?_
        refine va_get (D := D) (ci := 1) (v := .ref x) (C := R_Dec) (T := F_Dec) (N := 6) hx hb hts w_Dec hown hK hP 0 rfl rfl 0 (by decide) (hts _ kF_Dec_7) (fun _ h9 => h9) rfl d_Dec_gather_49 ?_
        refine va_alen hx hb hK hP 1 0 rfl rfl (v := 2400) rfl d_Dec_gather_52 ?_
        refine lv_icmp_ge (tgt := 178) hx hb d_Dec_gather_53 (by decide) (fun c53 => ?_) (fun c53 => ?_)
        · exact absurd ((nI_leI (a := 2400) (by decide) (by omega)).mp c53) (by omega)
        · refine lv_aload_n hx hb d_Dec_gather_56 rfl (lv_at hl 0 rfl) ?_
          refine va_get (D := D) (ci := 1) (v := .ref x) (C := R_Dec) (T := F_Dec) (N := 6) hx hb hts w_Dec hown hK hP 0 rfl rfl 0 (by decide) (hts _ kF_Dec_7) (fun _ h9 => h9) rfl d_Dec_gather_57 ?_
          refine lv_iload hx hb d_Dec_gather_60 (lv_at hl 5 rfl) ?_
          refine va_cald hx hb hK hP 1 0 rfl rfl (i := nI (a + n)) (vp_in_nI (show a + n < 2400 by omega) (by decide)) d_Dec_gather_62 ?_
          refine tv_i (nI (T (a + n))) (by rw [nI_clamp (by omega)]; rfl) ?_
          refine lv_istore (lv' := [(7, .int (nI (T (a + n)))), (0, .ref h), (2, .int (nI b0)), (3, .int (nI (kMd i))), (4, .int (bI (gp T a n))), (5, .int (bI (decide (tl ≠ 0)))), (6, .int (nI (a + n)))]) hx hb d_Dec_gather_63 hl (by decide) rfl (fun ls hl => ?_)
          refine lv_iload hx hb d_Dec_gather_65 (lv_at hl 0 rfl) ?_
          refine lv_bipush (v := 46) hx hb d_Dec_gather_67 (by decide) ?_
          refine lv_icmp_ne (tgt := 78) hx hb d_Dec_gather_69 (by decide) (fun c69 => ?_) (fun c69 => ?_)
          · have e69 : T (a + n) ≠ 46 := fun z => c69 (by rw [z]; rfl)
            obtain ⟨hc1, hc2⟩ := (hdig (a + n) (by omega) (by omega)).resolve_left e69
            have hdg := dg10 hc1 hc2
            rw [← gp_dg e69] at hl
            refine lv_aload_n hx hb d_Dec_gather_78 rfl (lv_at hl 1 rfl) ?_
            refine va_get (D := D) (ci := 1) (v := .int (nI kp)) (C := R_Dec) (T := F_Dec) (N := 6) hx hb hts w_Dec hown hK hP 0 rfl rfl 4 (by decide) (hts _ kF_Dec_41) (fun _ h9 => h9) rfl d_Dec_gather_79 ?_
            refine lv_if_ne (tgt := 114) hx hb d_Dec_gather_82 (by decide) (fun c82 => ?_) (fun c82 => ?_)
            · have e82 : kp ≠ 0 := fun z => c82 (by rw [z]; rfl)
              have hz0 : kp = 0 → T (a + n) - 48 ≠ 0 := fun z => absurd z e82
              refine lv_aload_n hx hb d_Dec_gather_114 rfl (lv_at hl 1 rfl) ?_
              refine lv_dup hx hb d_Dec_gather_115 rfl ?_
              refine va_get (D := D) (ci := 1) (v := .int (zI ((kp : Int) + r - gf T a n))) (C := R_Dec) (T := F_Dec) (N := 6) hx hb hts w_Dec hown hK hP 0 rfl rfl 5 (by decide) (hts _ kF_Dec_35) (fun _ h9 => h9) rfl d_Dec_gather_116 ?_
              refine lv_iload hx hb d_Dec_gather_119 (lv_at hl 4 rfl) ?_
              refine lv_if_eq (tgt := 128) hx hb d_Dec_gather_121 (by decide) (fun c121 => ?_) (fun c121 => ?_)
              · have e121 : gp T a n = false := by rw [← gp_dg e69]; exact (bI_0 _).mp c121
                refine lv_iconst (v := 1) hx hb d_Dec_gather_128 (by decide) ?_
                refine lv_iadd hx hb d_Dec_gather_129 ?_
                refine tv_i (zI ((kp : Int) + r + 1 - gf T a (n + 1))) (by have h9 := gf_dg e69; rw [e121] at h9; have h9 : gf T a (n + 1) = gf T a n + 0 := h9; rw [h9]; show zI _ + zI 1 = zI _; rw [zI_add]; exact congrArg zI (by omega)) ?_
                refine va_put (D := D) (ci := 1) (v := .int (zI ((kp : Int) + r + 1 - gf T a (n + 1)))) (ty := .int) (C := R_Dec) (T := F_Dec) (N := 6) hx hb hts w_Dec t_Dec tk_Dec n_Dec hown hK hP hD hS 0 rfl rfl 5 (by decide) (hts _ kF_Dec_35) (fun _ h9 => h9) rfl (by decide +kernel) (rfl) (rfl) (Nat.le_of_ble_eq_true rfl) d_Dec_gather_130 (fun H locs hP hD hS => ?_)
                have hP : va_P D vcl [(h, .inr (1, [.ref x, .ref q, .int (nI g), .int (nI gs), .int (nI kp), .int (zI ((kp : Int) + r + 1 - gf T a (n + 1)))])), (x, .inl (cC, 2400, .inl (tx T))), (q, .inr (2, [.ref t, .ref b])), (t, .inr (0, [.ref ta, .int (nI nt)])), (ta, .inl (cA, 96, .inl ft))] H := hP
                have hD : va_D A [(h, .inr (1, [.ref x, .ref q, .int (nI g), .int (nI gs), .int (nI kp), .int (zI ((kp : Int) + r + 1 - gf T a (n + 1)))])), (x, .inl (cC, 2400, .inl (tx T))), (q, .inr (2, [.ref t, .ref b])), (t, .inr (0, [.ref ta, .int (nI nt)])), (ta, .inl (cA, 96, .inl ft))] := hD
                refine lv_aload_n hx hb d_Dec_gather_133 rfl (lv_at hl 1 rfl) ?_
                refine va_get (D := D) (ci := 1) (v := .int (nI kp)) (C := R_Dec) (T := F_Dec) (N := 6) hx hb hts w_Dec hown hK hP 0 rfl rfl 4 (by decide) (hts _ kF_Dec_41) (fun _ h9 => h9) rfl d_Dec_gather_134 ?_
                refine lv_iload_n hx hb d_Dec_gather_137 rfl (lv_at hl 3 rfl) ?_
                refine lv_icmp_ge (tgt := 153) hx hb d_Dec_gather_138 (by decide) (fun c138 => ?_) (fun c138 => ?_)
                · have e138 : kMd i ≤ kp := (nI_leI (by omega) (by omega)).mp c138
                  rw [show zI ((kp : Int) + r + 1 - gf T a (n + 1)) = zI ((kp : Int) + (r + 1 : Nat) - gf T a (n + 1)) from congrArg zI (by omega)] at hP hD
                  refine lv_iload hx hb d_Dec_gather_153 (lv_at hl 5 rfl) ?_
                  refine lv_if_ne (tgt := 165) hx hb d_Dec_gather_155 (by decide) (fun c155 => ?_) (fun c155 => ?_)
                  · have e155 : tl ≠ 0 := of_decide_eq_true (tt_of (fun z => c155 ((bI_0 _).mpr z)))
                    refine lv_iconst (v := 1) hx hb d_Dec_gather_165 (by decide) ?_
                    refine tv_i (bI (decide (tl * 10 + dg (T (a + n)) ≠ 0))) (by rw [decide_eq_true (by rw [hdg]; omega)]; rfl) ?_
                    refine lv_goto (tgt := 170) hx hb d_Dec_gather_166 (by decide) ?_
                    refine lv_istore (lv' := [(5, .int (bI (decide (tl * 10 + dg (T (a + n)) ≠ 0)))), (7, .int (nI (T (a + n)))), (0, .ref h), (2, .int (nI b0)), (3, .int (nI (kMd i))), (4, .int (bI (gp T a (n + 1)))), (6, .int (nI (a + n)))]) hx hb d_Dec_gather_170 hl (by decide) rfl (fun ls hl => ?_)
                    refine lv_iinc (v := nI (a + (n + 1))) (lv' := [(6, .int (nI (a + (n + 1)))), (5, .int (bI (decide (tl * 10 + dg (T (a + n)) ≠ 0)))), (7, .int (nI (T (a + n)))), (0, .ref h), (2, .int (nI b0)), (3, .int (nI (kMd i))), (4, .int (bI (gp T a (n + 1))))]) hx hb d_Dec_gather_172 hl (k := 6) rfl (nI_1 (a + n)) (by decide) rfl (fun ls hl => ?_)
                    refine lv_goto (tgt := 40) hx hb d_Dec_gather_175 (by decide) ?_
                    exact ih (n + 1) ft nt Vt g gs kp (r + 1) (tl * 10 + dg (T (a + n))) (by omega) (by omega) (hB) (⟨ex, he9, he⟩) (hg) (by rw [gv_dg e69, hM, Nat.pow_succ, Nat.add_mul, Nat.mul_assoc]; omega) (by rw [Nat.pow_succ]; omega) (hk) (fun z => absurd z (by omega)) (hKl) (h1) (by omega) _ _ _ (hP.sub [0, 1, 2, 3, 4] rfl) (hD.sub [0, 1, 2, 3, 4] (by decide) rfl) hS (lv_sub hl [3, 4, 5, 6, 1, 0] rfl)
                  · have e155 : ¬ tl ≠ 0 := of_decide_eq_false ((bI_0 _).mp c155)
                    refine lv_iload hx hb d_Dec_gather_158 (lv_at hl 0 rfl) ?_
                    refine lv_bipush (v := 48) hx hb d_Dec_gather_160 (by decide) ?_
                    refine lv_icmp_eq (tgt := 169) hx hb d_Dec_gather_162 (by decide) (fun c162 => ?_) (fun c162 => ?_)
                    · have e162 : T (a + n) = 48 := (nI_eq (b := 48) (by omega) (by decide)).mp c162
                      refine lv_iconst (v := 0) hx hb d_Dec_gather_169 (by decide) ?_
                      refine tv_i (bI (decide (tl * 10 + dg (T (a + n)) ≠ 0))) (by rw [decide_eq_false (by rw [hdg]; omega)]; rfl) ?_
                      refine lv_istore (lv' := [(5, .int (bI (decide (tl * 10 + dg (T (a + n)) ≠ 0)))), (7, .int (nI (T (a + n)))), (0, .ref h), (2, .int (nI b0)), (3, .int (nI (kMd i))), (4, .int (bI (gp T a (n + 1)))), (6, .int (nI (a + n)))]) hx hb d_Dec_gather_170 hl (by decide) rfl (fun ls hl => ?_)
                      refine lv_iinc (v := nI (a + (n + 1))) (lv' := [(6, .int (nI (a + (n + 1)))), (5, .int (bI (decide (tl * 10 + dg (T (a + n)) ≠ 0)))), (7, .int (nI (T (a + n)))), (0, .ref h), (2, .int (nI b0)), (3, .int (nI (kMd i))), (4, .int (bI (gp T a (n + 1))))]) hx hb d_Dec_gather_172 hl (k := 6) rfl (nI_1 (a + n)) (by decide) rfl (fun ls hl => ?_)
                      refine lv_goto (tgt := 40) hx hb d_Dec_gather_175 (by decide) ?_
                      exact ih (n + 1) ft nt Vt g gs kp (r + 1) (tl * 10 + dg (T (a + n))) (by omega) (by omega) (hB) (⟨ex, he9, he⟩) (hg) (by rw [gv_dg e69, hM, Nat.pow_succ, Nat.add_mul, Nat.mul_assoc]; omega) (by rw [Nat.pow_succ]; omega) (hk) (fun z => absurd z (by omega)) (hKl) (h1) (by omega) _ _ _ (hP.sub [0, 1, 2, 3, 4] rfl) (hD.sub [0, 1, 2, 3, 4] (by decide) rfl) hS (lv_sub hl [3, 4, 5, 6, 1, 0] rfl)
                    · have e162 : T (a + n) ≠ 48 := fun z => c162 (by rw [z]; rfl)
                      refine lv_iconst (v := 1) hx hb d_Dec_gather_165 (by decide) ?_
                      refine tv_i (bI (decide (tl * 10 + dg (T (a + n)) ≠ 0))) (by rw [decide_eq_true (by rw [hdg]; omega)]; rfl) ?_
                      refine lv_goto (tgt := 170) hx hb d_Dec_gather_166 (by decide) ?_
                      refine lv_istore (lv' := [(5, .int (bI (decide (tl * 10 + dg (T (a + n)) ≠ 0)))), (7, .int (nI (T (a + n)))), (0, .ref h), (2, .int (nI b0)), (3, .int (nI (kMd i))), (4, .int (bI (gp T a (n + 1)))), (6, .int (nI (a + n)))]) hx hb d_Dec_gather_170 hl (by decide) rfl (fun ls hl => ?_)
                      refine lv_iinc (v := nI (a + (n + 1))) (lv' := [(6, .int (nI (a + (n + 1)))), (5, .int (bI (decide (tl * 10 + dg (T (a + n)) ≠ 0)))), (7, .int (nI (T (a + n)))), (0, .ref h), (2, .int (nI b0)), (3, .int (nI (kMd i))), (4, .int (bI (gp T a (n + 1))))]) hx hb d_Dec_gather_172 hl (k := 6) rfl (nI_1 (a + n)) (by decide) rfl (fun ls hl => ?_)
                      refine lv_goto (tgt := 40) hx hb d_Dec_gather_175 (by decide) ?_
                      exact ih (n + 1) ft nt Vt g gs kp (r + 1) (tl * 10 + dg (T (a + n))) (by omega) (by omega) (hB) (⟨ex, he9, he⟩) (hg) (by rw [gv_dg e69, hM, Nat.pow_succ, Nat.add_mul, Nat.mul_assoc]; omega) (by rw [Nat.pow_succ]; omega) (hk) (fun z => absurd z (by omega)) (hKl) (h1) (by omega) _ _ _ (hP.sub [0, 1, 2, 3, 4] rfl) (hD.sub [0, 1, 2, 3, 4] (by decide) rfl) hS (lv_sub hl [3, 4, 5, 6, 1, 0] rfl)
                · have e138 : kp < kMd i := Nat.lt_of_not_le (fun z => c138 ((nI_leI (by omega) (by omega)).mpr z))
                  have hr0 : r = 0 := hr e138
                  have ht0 : tl = 0 := by rw [hr0, Nat.pow_zero] at ht; omega
                  obtain ⟨hs1, hs2⟩ := kd_step (d := T (a + n) - 48) hKl h1 (by omega) hz0
                  rw [show zI ((kp : Int) + r + 1 - gf T a (n + 1)) = zI ((kp + 1 : Nat) + (r : Int) - gf T a (n + 1)) from congrArg zI (by omega)] at hP hD
                  refine lv_aload_n hx hb d_Dec_gather_141 rfl (lv_at hl 1 rfl) ?_
                  refine lv_iload hx hb d_Dec_gather_142 (lv_at hl 0 rfl) ?_
                  refine lv_bipush (v := 48) hx hb d_Dec_gather_144 (by decide) ?_
                  refine lv_isub hx hb d_Dec_gather_146 ?_
                  refine tv_i (nI (T (a + n) - 48)) (pk_sub (b := 48) (by omega)) ?_
                  refine ca_v [(x, .inl (cC, 2400, .inl (tx T)))] (va_runV (As := [.int (nI (T (a + n) - 48))]) (rest := []) ⟨hx, hb, hml, hown, hts⟩ (c_Dec_keepDigit l D E h x q t ta b cA ft nt Vt g gs kp (T (a + n) - 48) ex (zI ((kp + 1 : Nat) + (r : Int) - gf T a (n + 1))) hB hg he he9 (by omega) (fit10 hs1 (by omega)) H.size) (xV 1 hts kC_Dec_keepDigit kM_Dec_83 kI_Dec_keepDigit kS_Dec_keepDigit kN_Dec rfl rfl (by decide +kernel) ⟨Nat.le_of_ble_eq_true rfl, Nat.le_of_ble_eq_true rfl⟩) ⟨ct_blind hev, va_recv hK hP (ci := 1) (q0 := 0) rfl rfl, ct_pre hev hP hK hD hS hA hE [0, 2, 3, 4] rfl (by decide) [1] rfl⟩ rfl rfl hl.1 rfl (lv_room (Nat.le_of_ble_eq_true rfl)) d_Dec_gather_147 ⟨Nat.le_of_ble_eq_true rfl, Nat.le_of_ble_eq_true rfl⟩) hP hD hS hA [0, 2, 3, 4] [1] rfl rfl (by decide) (by decide) (fun u H locs hw hP hD hS hK1 => ?_)
                  obtain ⟨f11, n11, V11, g11, gs11⟩ := u
                  obtain ⟨hB11, hv11, hg11, ex11, hx11, he11⟩ := hw
                  have hB11 : isB f11 n11 V11 := hB11
                  have hv11 : V11 * gs11 + g11 = (Vt * gs + g) * 10 + (T (a + n) - 48) := hv11
                  have hg11 : g11 < gs11 := hg11
                  have he11 : gs11 = 10 ^ ex11 := he11
                  have hP : va_P D vcl [(x, .inl (cC, 2400, .inl (tx T))), (h, .inr (1, [.ref x, .ref q, .int (nI g11), .int (nI gs11), .int (nI (kp + 1)), .int (zI ((kp + 1 : Nat) + (r : Int) - gf T a (n + 1)))])), (q, .inr (2, [.ref t, .ref b])), (t, .inr (0, [.ref ta, .int (nI n11)])), (ta, .inl (cA, 96, .inl f11))] H := hP
                  have hD : va_D A [(x, .inl (cC, 2400, .inl (tx T))), (h, .inr (1, [.ref x, .ref q, .int (nI g11), .int (nI gs11), .int (nI (kp + 1)), .int (zI ((kp + 1 : Nat) + (r : Int) - gf T a (n + 1)))])), (q, .inr (2, [.ref t, .ref b])), (t, .inr (0, [.ref ta, .int (nI n11)])), (ta, .inl (cA, 96, .inl f11))] := hD
                  refine lv_goto (tgt := 172) hx hb d_Dec_gather_150 (by decide) ?_
                  refine lv_iinc (v := nI (a + (n + 1))) (lv' := [(6, .int (nI (a + (n + 1)))), (7, .int (nI (T (a + n)))), (0, .ref h), (2, .int (nI b0)), (3, .int (nI (kMd i))), (4, .int (bI (gp T a (n + 1)))), (5, .int (bI (decide (tl ≠ 0))))]) hx hb d_Dec_gather_172 hl (k := 6) rfl (nI_1 (a + n)) (by decide) rfl (fun ls hl => ?_)
                  refine lv_goto (tgt := 40) hx hb d_Dec_gather_175 (by decide) ?_
                  rw [show zI ((kp + 1 : Nat) + (r : Int) - gf T a (n + 1)) = zI (((kp + 1 : Nat) : Int) + r - gf T a (n + 1)) from rfl] at hP hD
                  exact ih (n + 1) f11 n11 V11 g11 gs11 (kp + 1) r tl (by omega) (by omega) (hB11) (⟨ex11, hx11, he11⟩) (hg11) (by rw [gv_dg e69, hM, hdg, hv11, hr0, ht0, Nat.pow_zero]; omega) (ht) (by omega) (fun _ => hr0) (by rw [hv11]; exact hs1) (fun _ => by rw [hv11, Nat.add_sub_cancel]; exact hs2) (by omega) _ _ _ (hP.sub [1, 0, 2, 3, 4] rfl) (hD.sub [1, 0, 2, 3, 4] (by decide) rfl) hS (lv_sub hl [2, 3, 4, 5, 6, 0] rfl)
              · have e121 : gp T a n = true := by rw [← gp_dg e69]; exact tt_of (fun z => c121 ((bI_0 _).mpr z))
                refine lv_iconst (v := 0) hx hb d_Dec_gather_124 (by decide) ?_
                refine lv_goto (tgt := 129) hx hb d_Dec_gather_125 (by decide) ?_
                refine lv_iadd hx hb d_Dec_gather_129 ?_
                refine tv_i (zI ((kp : Int) + r + 1 - gf T a (n + 1))) (by have h9 := gf_dg e69; rw [e121] at h9; have h9 : gf T a (n + 1) = gf T a n + 1 := h9; rw [h9]; show zI _ + zI 0 = zI _; rw [zI_add]; exact congrArg zI (by omega)) ?_
                refine va_put (D := D) (ci := 1) (v := .int (zI ((kp : Int) + r + 1 - gf T a (n + 1)))) (ty := .int) (C := R_Dec) (T := F_Dec) (N := 6) hx hb hts w_Dec t_Dec tk_Dec n_Dec hown hK hP hD hS 0 rfl rfl 5 (by decide) (hts _ kF_Dec_35) (fun _ h9 => h9) rfl (by decide +kernel) (rfl) (rfl) (Nat.le_of_ble_eq_true rfl) d_Dec_gather_130 (fun H locs hP hD hS => ?_)
                have hP : va_P D vcl [(h, .inr (1, [.ref x, .ref q, .int (nI g), .int (nI gs), .int (nI kp), .int (zI ((kp : Int) + r + 1 - gf T a (n + 1)))])), (x, .inl (cC, 2400, .inl (tx T))), (q, .inr (2, [.ref t, .ref b])), (t, .inr (0, [.ref ta, .int (nI nt)])), (ta, .inl (cA, 96, .inl ft))] H := hP
                have hD : va_D A [(h, .inr (1, [.ref x, .ref q, .int (nI g), .int (nI gs), .int (nI kp), .int (zI ((kp : Int) + r + 1 - gf T a (n + 1)))])), (x, .inl (cC, 2400, .inl (tx T))), (q, .inr (2, [.ref t, .ref b])), (t, .inr (0, [.ref ta, .int (nI nt)])), (ta, .inl (cA, 96, .inl ft))] := hD
                refine lv_aload_n hx hb d_Dec_gather_133 rfl (lv_at hl 1 rfl) ?_
                refine va_get (D := D) (ci := 1) (v := .int (nI kp)) (C := R_Dec) (T := F_Dec) (N := 6) hx hb hts w_Dec hown hK hP 0 rfl rfl 4 (by decide) (hts _ kF_Dec_41) (fun _ h9 => h9) rfl d_Dec_gather_134 ?_
                refine lv_iload_n hx hb d_Dec_gather_137 rfl (lv_at hl 3 rfl) ?_
                refine lv_icmp_ge (tgt := 153) hx hb d_Dec_gather_138 (by decide) (fun c138 => ?_) (fun c138 => ?_)
                · have e138 : kMd i ≤ kp := (nI_leI (by omega) (by omega)).mp c138
                  rw [show zI ((kp : Int) + r + 1 - gf T a (n + 1)) = zI ((kp : Int) + (r + 1 : Nat) - gf T a (n + 1)) from congrArg zI (by omega)] at hP hD
                  refine lv_iload hx hb d_Dec_gather_153 (lv_at hl 5 rfl) ?_
                  refine lv_if_ne (tgt := 165) hx hb d_Dec_gather_155 (by decide) (fun c155 => ?_) (fun c155 => ?_)
                  · have e155 : tl ≠ 0 := of_decide_eq_true (tt_of (fun z => c155 ((bI_0 _).mpr z)))
                    refine lv_iconst (v := 1) hx hb d_Dec_gather_165 (by decide) ?_
                    refine tv_i (bI (decide (tl * 10 + dg (T (a + n)) ≠ 0))) (by rw [decide_eq_true (by rw [hdg]; omega)]; rfl) ?_
                    refine lv_goto (tgt := 170) hx hb d_Dec_gather_166 (by decide) ?_
                    refine lv_istore (lv' := [(5, .int (bI (decide (tl * 10 + dg (T (a + n)) ≠ 0)))), (7, .int (nI (T (a + n)))), (0, .ref h), (2, .int (nI b0)), (3, .int (nI (kMd i))), (4, .int (bI (gp T a (n + 1)))), (6, .int (nI (a + n)))]) hx hb d_Dec_gather_170 hl (by decide) rfl (fun ls hl => ?_)
                    refine lv_iinc (v := nI (a + (n + 1))) (lv' := [(6, .int (nI (a + (n + 1)))), (5, .int (bI (decide (tl * 10 + dg (T (a + n)) ≠ 0)))), (7, .int (nI (T (a + n)))), (0, .ref h), (2, .int (nI b0)), (3, .int (nI (kMd i))), (4, .int (bI (gp T a (n + 1))))]) hx hb d_Dec_gather_172 hl (k := 6) rfl (nI_1 (a + n)) (by decide) rfl (fun ls hl => ?_)
                    refine lv_goto (tgt := 40) hx hb d_Dec_gather_175 (by decide) ?_
                    exact ih (n + 1) ft nt Vt g gs kp (r + 1) (tl * 10 + dg (T (a + n))) (by omega) (by omega) (hB) (⟨ex, he9, he⟩) (hg) (by rw [gv_dg e69, hM, Nat.pow_succ, Nat.add_mul, Nat.mul_assoc]; omega) (by rw [Nat.pow_succ]; omega) (hk) (fun z => absurd z (by omega)) (hKl) (h1) (by omega) _ _ _ (hP.sub [0, 1, 2, 3, 4] rfl) (hD.sub [0, 1, 2, 3, 4] (by decide) rfl) hS (lv_sub hl [3, 4, 5, 6, 1, 0] rfl)
                  · have e155 : ¬ tl ≠ 0 := of_decide_eq_false ((bI_0 _).mp c155)
                    refine lv_iload hx hb d_Dec_gather_158 (lv_at hl 0 rfl) ?_
                    refine lv_bipush (v := 48) hx hb d_Dec_gather_160 (by decide) ?_
                    refine lv_icmp_eq (tgt := 169) hx hb d_Dec_gather_162 (by decide) (fun c162 => ?_) (fun c162 => ?_)
                    · have e162 : T (a + n) = 48 := (nI_eq (b := 48) (by omega) (by decide)).mp c162
                      refine lv_iconst (v := 0) hx hb d_Dec_gather_169 (by decide) ?_
                      refine tv_i (bI (decide (tl * 10 + dg (T (a + n)) ≠ 0))) (by rw [decide_eq_false (by rw [hdg]; omega)]; rfl) ?_
                      refine lv_istore (lv' := [(5, .int (bI (decide (tl * 10 + dg (T (a + n)) ≠ 0)))), (7, .int (nI (T (a + n)))), (0, .ref h), (2, .int (nI b0)), (3, .int (nI (kMd i))), (4, .int (bI (gp T a (n + 1)))), (6, .int (nI (a + n)))]) hx hb d_Dec_gather_170 hl (by decide) rfl (fun ls hl => ?_)
                      refine lv_iinc (v := nI (a + (n + 1))) (lv' := [(6, .int (nI (a + (n + 1)))), (5, .int (bI (decide (tl * 10 + dg (T (a + n)) ≠ 0)))), (7, .int (nI (T (a + n)))), (0, .ref h), (2, .int (nI b0)), (3, .int (nI (kMd i))), (4, .int (bI (gp T a (n + 1))))]) hx hb d_Dec_gather_172 hl (k := 6) rfl (nI_1 (a + n)) (by decide) rfl (fun ls hl => ?_)
                      refine lv_goto (tgt := 40) hx hb d_Dec_gather_175 (by decide) ?_
                      exact ih (n + 1) ft nt Vt g gs kp (r + 1) (tl * 10 + dg (T (a + n))) (by omega) (by omega) (hB) (⟨ex, he9, he⟩) (hg) (by rw [gv_dg e69, hM, Nat.pow_succ, Nat.add_mul, Nat.mul_assoc]; omega) (by rw [Nat.pow_succ]; omega) (hk) (fun z => absurd z (by omega)) (hKl) (h1) (by omega) _ _ _ (hP.sub [0, 1, 2, 3, 4] rfl) (hD.sub [0, 1, 2, 3, 4] (by decide) rfl) hS (lv_sub hl [3, 4, 5, 6, 1, 0] rfl)
                    · have e162 : T (a + n) ≠ 48 := fun z => c162 (by rw [z]; rfl)
                      refine lv_iconst (v := 1) hx hb d_Dec_gather_165 (by decide) ?_
                      refine tv_i (bI (decide (tl * 10 + dg (T (a + n)) ≠ 0))) (by rw [decide_eq_true (by rw [hdg]; omega)]; rfl) ?_
                      refine lv_goto (tgt := 170) hx hb d_Dec_gather_166 (by decide) ?_
                      refine lv_istore (lv' := [(5, .int (bI (decide (tl * 10 + dg (T (a + n)) ≠ 0)))), (7, .int (nI (T (a + n)))), (0, .ref h), (2, .int (nI b0)), (3, .int (nI (kMd i))), (4, .int (bI (gp T a (n + 1)))), (6, .int (nI (a + n)))]) hx hb d_Dec_gather_170 hl (by decide) rfl (fun ls hl => ?_)
                      refine lv_iinc (v := nI (a + (n + 1))) (lv' := [(6, .int (nI (a + (n + 1)))), (5, .int (bI (decide (tl * 10 + dg (T (a + n)) ≠ 0)))), (7, .int (nI (T (a + n)))), (0, .ref h), (2, .int (nI b0)), (3, .int (nI (kMd i))), (4, .int (bI (gp T a (n + 1))))]) hx hb d_Dec_gather_172 hl (k := 6) rfl (nI_1 (a + n)) (by decide) rfl (fun ls hl => ?_)
                      refine lv_goto (tgt := 40) hx hb d_Dec_gather_175 (by decide) ?_
                      exact ih (n + 1) ft nt Vt g gs kp (r + 1) (tl * 10 + dg (T (a + n))) (by omega) (by omega) (hB) (⟨ex, he9, he⟩) (hg) (by rw [gv_dg e69, hM, Nat.pow_succ, Nat.add_mul, Nat.mul_assoc]; omega) (by rw [Nat.pow_succ]; omega) (hk) (fun z => absurd z (by omega)) (hKl) (h1) (by omega) _ _ _ (hP.sub [0, 1, 2, 3, 4] rfl) (hD.sub [0, 1, 2, 3, 4] (by decide) rfl) hS (lv_sub hl [3, 4, 5, 6, 1, 0] rfl)
                · have e138 : kp < kMd i := Nat.lt_of_not_le (fun z => c138 ((nI_leI (by omega) (by omega)).mpr z))
                  have hr0 : r = 0 := hr e138
                  have ht0 : tl = 0 := by rw [hr0, Nat.pow_zero] at ht; omega
                  obtain ⟨hs1, hs2⟩ := kd_step (d := T (a + n) - 48) hKl h1 (by omega) hz0
                  rw [show zI ((kp : Int) + r + 1 - gf T a (n + 1)) = zI ((kp + 1 : Nat) + (r : Int) - gf T a (n + 1)) from congrArg zI (by omega)] at hP hD
                  refine lv_aload_n hx hb d_Dec_gather_141 rfl (lv_at hl 1 rfl) ?_
                  refine lv_iload hx hb d_Dec_gather_142 (lv_at hl 0 rfl) ?_
                  refine lv_bipush (v := 48) hx hb d_Dec_gather_144 (by decide) ?_
                  refine lv_isub hx hb d_Dec_gather_146 ?_
                  refine tv_i (nI (T (a + n) - 48)) (pk_sub (b := 48) (by omega)) ?_
                  refine ca_v [(x, .inl (cC, 2400, .inl (tx T)))] (va_runV (As := [.int (nI (T (a + n) - 48))]) (rest := []) ⟨hx, hb, hml, hown, hts⟩ (c_Dec_keepDigit l D E h x q t ta b cA ft nt Vt g gs kp (T (a + n) - 48) ex (zI ((kp + 1 : Nat) + (r : Int) - gf T a (n + 1))) hB hg he he9 (by omega) (fit10 hs1 (by omega)) H.size) (xV 1 hts kC_Dec_keepDigit kM_Dec_83 kI_Dec_keepDigit kS_Dec_keepDigit kN_Dec rfl rfl (by decide +kernel) ⟨Nat.le_of_ble_eq_true rfl, Nat.le_of_ble_eq_true rfl⟩) ⟨ct_blind hev, va_recv hK hP (ci := 1) (q0 := 0) rfl rfl, ct_pre hev hP hK hD hS hA hE [0, 2, 3, 4] rfl (by decide) [1] rfl⟩ rfl rfl hl.1 rfl (lv_room (Nat.le_of_ble_eq_true rfl)) d_Dec_gather_147 ⟨Nat.le_of_ble_eq_true rfl, Nat.le_of_ble_eq_true rfl⟩) hP hD hS hA [0, 2, 3, 4] [1] rfl rfl (by decide) (by decide) (fun u H locs hw hP hD hS hK1 => ?_)
                  obtain ⟨f12, n12, V12, g12, gs12⟩ := u
                  obtain ⟨hB12, hv12, hg12, ex12, hx12, he12⟩ := hw
                  have hB12 : isB f12 n12 V12 := hB12
                  have hv12 : V12 * gs12 + g12 = (Vt * gs + g) * 10 + (T (a + n) - 48) := hv12
                  have hg12 : g12 < gs12 := hg12
                  have he12 : gs12 = 10 ^ ex12 := he12
                  have hP : va_P D vcl [(x, .inl (cC, 2400, .inl (tx T))), (h, .inr (1, [.ref x, .ref q, .int (nI g12), .int (nI gs12), .int (nI (kp + 1)), .int (zI ((kp + 1 : Nat) + (r : Int) - gf T a (n + 1)))])), (q, .inr (2, [.ref t, .ref b])), (t, .inr (0, [.ref ta, .int (nI n12)])), (ta, .inl (cA, 96, .inl f12))] H := hP
                  have hD : va_D A [(x, .inl (cC, 2400, .inl (tx T))), (h, .inr (1, [.ref x, .ref q, .int (nI g12), .int (nI gs12), .int (nI (kp + 1)), .int (zI ((kp + 1 : Nat) + (r : Int) - gf T a (n + 1)))])), (q, .inr (2, [.ref t, .ref b])), (t, .inr (0, [.ref ta, .int (nI n12)])), (ta, .inl (cA, 96, .inl f12))] := hD
                  refine lv_goto (tgt := 172) hx hb d_Dec_gather_150 (by decide) ?_
                  refine lv_iinc (v := nI (a + (n + 1))) (lv' := [(6, .int (nI (a + (n + 1)))), (7, .int (nI (T (a + n)))), (0, .ref h), (2, .int (nI b0)), (3, .int (nI (kMd i))), (4, .int (bI (gp T a (n + 1)))), (5, .int (bI (decide (tl ≠ 0))))]) hx hb d_Dec_gather_172 hl (k := 6) rfl (nI_1 (a + n)) (by decide) rfl (fun ls hl => ?_)
                  refine lv_goto (tgt := 40) hx hb d_Dec_gather_175 (by decide) ?_
                  rw [show zI ((kp + 1 : Nat) + (r : Int) - gf T a (n + 1)) = zI (((kp + 1 : Nat) : Int) + r - gf T a (n + 1)) from rfl] at hP hD
                  exact ih (n + 1) f12 n12 V12 g12 gs12 (kp + 1) r tl (by omega) (by omega) (hB12) (⟨ex12, hx12, he12⟩) (hg12) (by rw [gv_dg e69, hM, hdg, hv12, hr0, ht0, Nat.pow_zero]; omega) (ht) (by omega) (fun _ => hr0) (by rw [hv12]; exact hs1) (fun _ => by rw [hv12, Nat.add_sub_cancel]; exact hs2) (by omega) _ _ _ (hP.sub [1, 0, 2, 3, 4] rfl) (hD.sub [1, 0, 2, 3, 4] (by decide) rfl) hS (lv_sub hl [2, 3, 4, 5, 6, 0] rfl)
            · have e82 : kp = 0 := (nI_eq0 (by omega)).mp c82
              refine lv_iload hx hb d_Dec_gather_85 (lv_at hl 0 rfl) ?_
              refine lv_bipush (v := 48) hx hb d_Dec_gather_87 (by decide) ?_
              refine lv_icmp_ne (tgt := 114) hx hb d_Dec_gather_89 (by decide) (fun c89 => ?_) (fun c89 => ?_)
              · have hz0 : kp = 0 → T (a + n) - 48 ≠ 0 := fun _ z => c89 (by rw [show T (a + n) = 48 by omega]; rfl)
                refine lv_aload_n hx hb d_Dec_gather_114 rfl (lv_at hl 1 rfl) ?_
                refine lv_dup hx hb d_Dec_gather_115 rfl ?_
                refine va_get (D := D) (ci := 1) (v := .int (zI ((kp : Int) + r - gf T a n))) (C := R_Dec) (T := F_Dec) (N := 6) hx hb hts w_Dec hown hK hP 0 rfl rfl 5 (by decide) (hts _ kF_Dec_35) (fun _ h9 => h9) rfl d_Dec_gather_116 ?_
                refine lv_iload hx hb d_Dec_gather_119 (lv_at hl 4 rfl) ?_
                refine lv_if_eq (tgt := 128) hx hb d_Dec_gather_121 (by decide) (fun c121 => ?_) (fun c121 => ?_)
                · have e121 : gp T a n = false := by rw [← gp_dg e69]; exact (bI_0 _).mp c121
                  refine lv_iconst (v := 1) hx hb d_Dec_gather_128 (by decide) ?_
                  refine lv_iadd hx hb d_Dec_gather_129 ?_
                  refine tv_i (zI ((kp : Int) + r + 1 - gf T a (n + 1))) (by have h9 := gf_dg e69; rw [e121] at h9; have h9 : gf T a (n + 1) = gf T a n + 0 := h9; rw [h9]; show zI _ + zI 1 = zI _; rw [zI_add]; exact congrArg zI (by omega)) ?_
                  refine va_put (D := D) (ci := 1) (v := .int (zI ((kp : Int) + r + 1 - gf T a (n + 1)))) (ty := .int) (C := R_Dec) (T := F_Dec) (N := 6) hx hb hts w_Dec t_Dec tk_Dec n_Dec hown hK hP hD hS 0 rfl rfl 5 (by decide) (hts _ kF_Dec_35) (fun _ h9 => h9) rfl (by decide +kernel) (rfl) (rfl) (Nat.le_of_ble_eq_true rfl) d_Dec_gather_130 (fun H locs hP hD hS => ?_)
                  have hP : va_P D vcl [(h, .inr (1, [.ref x, .ref q, .int (nI g), .int (nI gs), .int (nI kp), .int (zI ((kp : Int) + r + 1 - gf T a (n + 1)))])), (x, .inl (cC, 2400, .inl (tx T))), (q, .inr (2, [.ref t, .ref b])), (t, .inr (0, [.ref ta, .int (nI nt)])), (ta, .inl (cA, 96, .inl ft))] H := hP
                  have hD : va_D A [(h, .inr (1, [.ref x, .ref q, .int (nI g), .int (nI gs), .int (nI kp), .int (zI ((kp : Int) + r + 1 - gf T a (n + 1)))])), (x, .inl (cC, 2400, .inl (tx T))), (q, .inr (2, [.ref t, .ref b])), (t, .inr (0, [.ref ta, .int (nI nt)])), (ta, .inl (cA, 96, .inl ft))] := hD
                  refine lv_aload_n hx hb d_Dec_gather_133 rfl (lv_at hl 1 rfl) ?_
                  refine va_get (D := D) (ci := 1) (v := .int (nI kp)) (C := R_Dec) (T := F_Dec) (N := 6) hx hb hts w_Dec hown hK hP 0 rfl rfl 4 (by decide) (hts _ kF_Dec_41) (fun _ h9 => h9) rfl d_Dec_gather_134 ?_
                  refine lv_iload_n hx hb d_Dec_gather_137 rfl (lv_at hl 3 rfl) ?_
                  refine lv_icmp_ge (tgt := 153) hx hb d_Dec_gather_138 (by decide) (fun c138 => ?_) (fun c138 => ?_)
                  · have e138 : kMd i ≤ kp := (nI_leI (by omega) (by omega)).mp c138
                    rw [show zI ((kp : Int) + r + 1 - gf T a (n + 1)) = zI ((kp : Int) + (r + 1 : Nat) - gf T a (n + 1)) from congrArg zI (by omega)] at hP hD
                    refine lv_iload hx hb d_Dec_gather_153 (lv_at hl 5 rfl) ?_
                    refine lv_if_ne (tgt := 165) hx hb d_Dec_gather_155 (by decide) (fun c155 => ?_) (fun c155 => ?_)
                    · have e155 : tl ≠ 0 := of_decide_eq_true (tt_of (fun z => c155 ((bI_0 _).mpr z)))
                      refine lv_iconst (v := 1) hx hb d_Dec_gather_165 (by decide) ?_
                      refine tv_i (bI (decide (tl * 10 + dg (T (a + n)) ≠ 0))) (by rw [decide_eq_true (by rw [hdg]; omega)]; rfl) ?_
                      refine lv_goto (tgt := 170) hx hb d_Dec_gather_166 (by decide) ?_
                      refine lv_istore (lv' := [(5, .int (bI (decide (tl * 10 + dg (T (a + n)) ≠ 0)))), (7, .int (nI (T (a + n)))), (0, .ref h), (2, .int (nI b0)), (3, .int (nI (kMd i))), (4, .int (bI (gp T a (n + 1)))), (6, .int (nI (a + n)))]) hx hb d_Dec_gather_170 hl (by decide) rfl (fun ls hl => ?_)
                      refine lv_iinc (v := nI (a + (n + 1))) (lv' := [(6, .int (nI (a + (n + 1)))), (5, .int (bI (decide (tl * 10 + dg (T (a + n)) ≠ 0)))), (7, .int (nI (T (a + n)))), (0, .ref h), (2, .int (nI b0)), (3, .int (nI (kMd i))), (4, .int (bI (gp T a (n + 1))))]) hx hb d_Dec_gather_172 hl (k := 6) rfl (nI_1 (a + n)) (by decide) rfl (fun ls hl => ?_)
                      refine lv_goto (tgt := 40) hx hb d_Dec_gather_175 (by decide) ?_
                      exact ih (n + 1) ft nt Vt g gs kp (r + 1) (tl * 10 + dg (T (a + n))) (by omega) (by omega) (hB) (⟨ex, he9, he⟩) (hg) (by rw [gv_dg e69, hM, Nat.pow_succ, Nat.add_mul, Nat.mul_assoc]; omega) (by rw [Nat.pow_succ]; omega) (hk) (fun z => absurd z (by omega)) (hKl) (h1) (by omega) _ _ _ (hP.sub [0, 1, 2, 3, 4] rfl) (hD.sub [0, 1, 2, 3, 4] (by decide) rfl) hS (lv_sub hl [3, 4, 5, 6, 1, 0] rfl)
                    · have e155 : ¬ tl ≠ 0 := of_decide_eq_false ((bI_0 _).mp c155)
                      refine lv_iload hx hb d_Dec_gather_158 (lv_at hl 0 rfl) ?_
                      refine lv_bipush (v := 48) hx hb d_Dec_gather_160 (by decide) ?_
                      refine lv_icmp_eq (tgt := 169) hx hb d_Dec_gather_162 (by decide) (fun c162 => ?_) (fun c162 => ?_)
                      · have e162 : T (a + n) = 48 := (nI_eq (b := 48) (by omega) (by decide)).mp c162
                        refine lv_iconst (v := 0) hx hb d_Dec_gather_169 (by decide) ?_
                        refine tv_i (bI (decide (tl * 10 + dg (T (a + n)) ≠ 0))) (by rw [decide_eq_false (by rw [hdg]; omega)]; rfl) ?_
                        refine lv_istore (lv' := [(5, .int (bI (decide (tl * 10 + dg (T (a + n)) ≠ 0)))), (7, .int (nI (T (a + n)))), (0, .ref h), (2, .int (nI b0)), (3, .int (nI (kMd i))), (4, .int (bI (gp T a (n + 1)))), (6, .int (nI (a + n)))]) hx hb d_Dec_gather_170 hl (by decide) rfl (fun ls hl => ?_)
                        refine lv_iinc (v := nI (a + (n + 1))) (lv' := [(6, .int (nI (a + (n + 1)))), (5, .int (bI (decide (tl * 10 + dg (T (a + n)) ≠ 0)))), (7, .int (nI (T (a + n)))), (0, .ref h), (2, .int (nI b0)), (3, .int (nI (kMd i))), (4, .int (bI (gp T a (n + 1))))]) hx hb d_Dec_gather_172 hl (k := 6) rfl (nI_1 (a + n)) (by decide) rfl (fun ls hl => ?_)
                        refine lv_goto (tgt := 40) hx hb d_Dec_gather_175 (by decide) ?_
                        exact ih (n + 1) ft nt Vt g gs kp (r + 1) (tl * 10 + dg (T (a + n))) (by omega) (by omega) (hB) (⟨ex, he9, he⟩) (hg) (by rw [gv_dg e69, hM, Nat.pow_succ, Nat.add_mul, Nat.mul_assoc]; omega) (by rw [Nat.pow_succ]; omega) (hk) (fun z => absurd z (by omega)) (hKl) (h1) (by omega) _ _ _ (hP.sub [0, 1, 2, 3, 4] rfl) (hD.sub [0, 1, 2, 3, 4] (by decide) rfl) hS (lv_sub hl [3, 4, 5, 6, 1, 0] rfl)
                      · have e162 : T (a + n) ≠ 48 := fun z => c162 (by rw [z]; rfl)
                        refine lv_iconst (v := 1) hx hb d_Dec_gather_165 (by decide) ?_
                        refine tv_i (bI (decide (tl * 10 + dg (T (a + n)) ≠ 0))) (by rw [decide_eq_true (by rw [hdg]; omega)]; rfl) ?_
                        refine lv_goto (tgt := 170) hx hb d_Dec_gather_166 (by decide) ?_
                        refine lv_istore (lv' := [(5, .int (bI (decide (tl * 10 + dg (T (a + n)) ≠ 0)))), (7, .int (nI (T (a + n)))), (0, .ref h), (2, .int (nI b0)), (3, .int (nI (kMd i))), (4, .int (bI (gp T a (n + 1)))), (6, .int (nI (a + n)))]) hx hb d_Dec_gather_170 hl (by decide) rfl (fun ls hl => ?_)
                        refine lv_iinc (v := nI (a + (n + 1))) (lv' := [(6, .int (nI (a + (n + 1)))), (5, .int (bI (decide (tl * 10 + dg (T (a + n)) ≠ 0)))), (7, .int (nI (T (a + n)))), (0, .ref h), (2, .int (nI b0)), (3, .int (nI (kMd i))), (4, .int (bI (gp T a (n + 1))))]) hx hb d_Dec_gather_172 hl (k := 6) rfl (nI_1 (a + n)) (by decide) rfl (fun ls hl => ?_)
                        refine lv_goto (tgt := 40) hx hb d_Dec_gather_175 (by decide) ?_
                        exact ih (n + 1) ft nt Vt g gs kp (r + 1) (tl * 10 + dg (T (a + n))) (by omega) (by omega) (hB) (⟨ex, he9, he⟩) (hg) (by rw [gv_dg e69, hM, Nat.pow_succ, Nat.add_mul, Nat.mul_assoc]; omega) (by rw [Nat.pow_succ]; omega) (hk) (fun z => absurd z (by omega)) (hKl) (h1) (by omega) _ _ _ (hP.sub [0, 1, 2, 3, 4] rfl) (hD.sub [0, 1, 2, 3, 4] (by decide) rfl) hS (lv_sub hl [3, 4, 5, 6, 1, 0] rfl)
                  · have e138 : kp < kMd i := Nat.lt_of_not_le (fun z => c138 ((nI_leI (by omega) (by omega)).mpr z))
                    have hr0 : r = 0 := hr e138
                    have ht0 : tl = 0 := by rw [hr0, Nat.pow_zero] at ht; omega
                    obtain ⟨hs1, hs2⟩ := kd_step (d := T (a + n) - 48) hKl h1 (by omega) hz0
                    rw [show zI ((kp : Int) + r + 1 - gf T a (n + 1)) = zI ((kp + 1 : Nat) + (r : Int) - gf T a (n + 1)) from congrArg zI (by omega)] at hP hD
                    refine lv_aload_n hx hb d_Dec_gather_141 rfl (lv_at hl 1 rfl) ?_
                    refine lv_iload hx hb d_Dec_gather_142 (lv_at hl 0 rfl) ?_
                    refine lv_bipush (v := 48) hx hb d_Dec_gather_144 (by decide) ?_
                    refine lv_isub hx hb d_Dec_gather_146 ?_
                    refine tv_i (nI (T (a + n) - 48)) (pk_sub (b := 48) (by omega)) ?_
                    refine ca_v [(x, .inl (cC, 2400, .inl (tx T)))] (va_runV (As := [.int (nI (T (a + n) - 48))]) (rest := []) ⟨hx, hb, hml, hown, hts⟩ (c_Dec_keepDigit l D E h x q t ta b cA ft nt Vt g gs kp (T (a + n) - 48) ex (zI ((kp + 1 : Nat) + (r : Int) - gf T a (n + 1))) hB hg he he9 (by omega) (fit10 hs1 (by omega)) H.size) (xV 1 hts kC_Dec_keepDigit kM_Dec_83 kI_Dec_keepDigit kS_Dec_keepDigit kN_Dec rfl rfl (by decide +kernel) ⟨Nat.le_of_ble_eq_true rfl, Nat.le_of_ble_eq_true rfl⟩) ⟨ct_blind hev, va_recv hK hP (ci := 1) (q0 := 0) rfl rfl, ct_pre hev hP hK hD hS hA hE [0, 2, 3, 4] rfl (by decide) [1] rfl⟩ rfl rfl hl.1 rfl (lv_room (Nat.le_of_ble_eq_true rfl)) d_Dec_gather_147 ⟨Nat.le_of_ble_eq_true rfl, Nat.le_of_ble_eq_true rfl⟩) hP hD hS hA [0, 2, 3, 4] [1] rfl rfl (by decide) (by decide) (fun u H locs hw hP hD hS hK1 => ?_)
                    obtain ⟨f13, n13, V13, g13, gs13⟩ := u
                    obtain ⟨hB13, hv13, hg13, ex13, hx13, he13⟩ := hw
                    have hB13 : isB f13 n13 V13 := hB13
                    have hv13 : V13 * gs13 + g13 = (Vt * gs + g) * 10 + (T (a + n) - 48) := hv13
                    have hg13 : g13 < gs13 := hg13
                    have he13 : gs13 = 10 ^ ex13 := he13
                    have hP : va_P D vcl [(x, .inl (cC, 2400, .inl (tx T))), (h, .inr (1, [.ref x, .ref q, .int (nI g13), .int (nI gs13), .int (nI (kp + 1)), .int (zI ((kp + 1 : Nat) + (r : Int) - gf T a (n + 1)))])), (q, .inr (2, [.ref t, .ref b])), (t, .inr (0, [.ref ta, .int (nI n13)])), (ta, .inl (cA, 96, .inl f13))] H := hP
                    have hD : va_D A [(x, .inl (cC, 2400, .inl (tx T))), (h, .inr (1, [.ref x, .ref q, .int (nI g13), .int (nI gs13), .int (nI (kp + 1)), .int (zI ((kp + 1 : Nat) + (r : Int) - gf T a (n + 1)))])), (q, .inr (2, [.ref t, .ref b])), (t, .inr (0, [.ref ta, .int (nI n13)])), (ta, .inl (cA, 96, .inl f13))] := hD
                    refine lv_goto (tgt := 172) hx hb d_Dec_gather_150 (by decide) ?_
                    refine lv_iinc (v := nI (a + (n + 1))) (lv' := [(6, .int (nI (a + (n + 1)))), (7, .int (nI (T (a + n)))), (0, .ref h), (2, .int (nI b0)), (3, .int (nI (kMd i))), (4, .int (bI (gp T a (n + 1)))), (5, .int (bI (decide (tl ≠ 0))))]) hx hb d_Dec_gather_172 hl (k := 6) rfl (nI_1 (a + n)) (by decide) rfl (fun ls hl => ?_)
                    refine lv_goto (tgt := 40) hx hb d_Dec_gather_175 (by decide) ?_
                    rw [show zI ((kp + 1 : Nat) + (r : Int) - gf T a (n + 1)) = zI (((kp + 1 : Nat) : Int) + r - gf T a (n + 1)) from rfl] at hP hD
                    exact ih (n + 1) f13 n13 V13 g13 gs13 (kp + 1) r tl (by omega) (by omega) (hB13) (⟨ex13, hx13, he13⟩) (hg13) (by rw [gv_dg e69, hM, hdg, hv13, hr0, ht0, Nat.pow_zero]; omega) (ht) (by omega) (fun _ => hr0) (by rw [hv13]; exact hs1) (fun _ => by rw [hv13, Nat.add_sub_cancel]; exact hs2) (by omega) _ _ _ (hP.sub [1, 0, 2, 3, 4] rfl) (hD.sub [1, 0, 2, 3, 4] (by decide) rfl) hS (lv_sub hl [2, 3, 4, 5, 6, 0] rfl)
                · have e121 : gp T a n = true := by rw [← gp_dg e69]; exact tt_of (fun z => c121 ((bI_0 _).mpr z))
                  refine lv_iconst (v := 0) hx hb d_Dec_gather_124 (by decide) ?_
                  refine lv_goto (tgt := 129) hx hb d_Dec_gather_125 (by decide) ?_
                  refine lv_iadd hx hb d_Dec_gather_129 ?_
                  refine tv_i (zI ((kp : Int) + r + 1 - gf T a (n + 1))) (by have h9 := gf_dg e69; rw [e121] at h9; have h9 : gf T a (n + 1) = gf T a n + 1 := h9; rw [h9]; show zI _ + zI 0 = zI _; rw [zI_add]; exact congrArg zI (by omega)) ?_
                  refine va_put (D := D) (ci := 1) (v := .int (zI ((kp : Int) + r + 1 - gf T a (n + 1)))) (ty := .int) (C := R_Dec) (T := F_Dec) (N := 6) hx hb hts w_Dec t_Dec tk_Dec n_Dec hown hK hP hD hS 0 rfl rfl 5 (by decide) (hts _ kF_Dec_35) (fun _ h9 => h9) rfl (by decide +kernel) (rfl) (rfl) (Nat.le_of_ble_eq_true rfl) d_Dec_gather_130 (fun H locs hP hD hS => ?_)
                  have hP : va_P D vcl [(h, .inr (1, [.ref x, .ref q, .int (nI g), .int (nI gs), .int (nI kp), .int (zI ((kp : Int) + r + 1 - gf T a (n + 1)))])), (x, .inl (cC, 2400, .inl (tx T))), (q, .inr (2, [.ref t, .ref b])), (t, .inr (0, [.ref ta, .int (nI nt)])), (ta, .inl (cA, 96, .inl ft))] H := hP
                  have hD : va_D A [(h, .inr (1, [.ref x, .ref q, .int (nI g), .int (nI gs), .int (nI kp), .int (zI ((kp : Int) + r + 1 - gf T a (n + 1)))])), (x, .inl (cC, 2400, .inl (tx T))), (q, .inr (2, [.ref t, .ref b])), (t, .inr (0, [.ref ta, .int (nI nt)])), (ta, .inl (cA, 96, .inl ft))] := hD
                  refine lv_aload_n hx hb d_Dec_gather_133 rfl (lv_at hl 1 rfl) ?_
                  refine va_get (D := D) (ci := 1) (v := .int (nI kp)) (C := R_Dec) (T := F_Dec) (N := 6) hx hb hts w_Dec hown hK hP 0 rfl rfl 4 (by decide) (hts _ kF_Dec_41) (fun _ h9 => h9) rfl d_Dec_gather_134 ?_
                  refine lv_iload_n hx hb d_Dec_gather_137 rfl (lv_at hl 3 rfl) ?_
                  refine lv_icmp_ge (tgt := 153) hx hb d_Dec_gather_138 (by decide) (fun c138 => ?_) (fun c138 => ?_)
                  · have e138 : kMd i ≤ kp := (nI_leI (by omega) (by omega)).mp c138
                    rw [show zI ((kp : Int) + r + 1 - gf T a (n + 1)) = zI ((kp : Int) + (r + 1 : Nat) - gf T a (n + 1)) from congrArg zI (by omega)] at hP hD
                    refine lv_iload hx hb d_Dec_gather_153 (lv_at hl 5 rfl) ?_
                    refine lv_if_ne (tgt := 165) hx hb d_Dec_gather_155 (by decide) (fun c155 => ?_) (fun c155 => ?_)
                    · have e155 : tl ≠ 0 := of_decide_eq_true (tt_of (fun z => c155 ((bI_0 _).mpr z)))
                      refine lv_iconst (v := 1) hx hb d_Dec_gather_165 (by decide) ?_
                      refine tv_i (bI (decide (tl * 10 + dg (T (a + n)) ≠ 0))) (by rw [decide_eq_true (by rw [hdg]; omega)]; rfl) ?_
                      refine lv_goto (tgt := 170) hx hb d_Dec_gather_166 (by decide) ?_
                      refine lv_istore (lv' := [(5, .int (bI (decide (tl * 10 + dg (T (a + n)) ≠ 0)))), (7, .int (nI (T (a + n)))), (0, .ref h), (2, .int (nI b0)), (3, .int (nI (kMd i))), (4, .int (bI (gp T a (n + 1)))), (6, .int (nI (a + n)))]) hx hb d_Dec_gather_170 hl (by decide) rfl (fun ls hl => ?_)
                      refine lv_iinc (v := nI (a + (n + 1))) (lv' := [(6, .int (nI (a + (n + 1)))), (5, .int (bI (decide (tl * 10 + dg (T (a + n)) ≠ 0)))), (7, .int (nI (T (a + n)))), (0, .ref h), (2, .int (nI b0)), (3, .int (nI (kMd i))), (4, .int (bI (gp T a (n + 1))))]) hx hb d_Dec_gather_172 hl (k := 6) rfl (nI_1 (a + n)) (by decide) rfl (fun ls hl => ?_)
                      refine lv_goto (tgt := 40) hx hb d_Dec_gather_175 (by decide) ?_
                      exact ih (n + 1) ft nt Vt g gs kp (r + 1) (tl * 10 + dg (T (a + n))) (by omega) (by omega) (hB) (⟨ex, he9, he⟩) (hg) (by rw [gv_dg e69, hM, Nat.pow_succ, Nat.add_mul, Nat.mul_assoc]; omega) (by rw [Nat.pow_succ]; omega) (hk) (fun z => absurd z (by omega)) (hKl) (h1) (by omega) _ _ _ (hP.sub [0, 1, 2, 3, 4] rfl) (hD.sub [0, 1, 2, 3, 4] (by decide) rfl) hS (lv_sub hl [3, 4, 5, 6, 1, 0] rfl)
                    · have e155 : ¬ tl ≠ 0 := of_decide_eq_false ((bI_0 _).mp c155)
                      refine lv_iload hx hb d_Dec_gather_158 (lv_at hl 0 rfl) ?_
                      refine lv_bipush (v := 48) hx hb d_Dec_gather_160 (by decide) ?_
                      refine lv_icmp_eq (tgt := 169) hx hb d_Dec_gather_162 (by decide) (fun c162 => ?_) (fun c162 => ?_)
                      · have e162 : T (a + n) = 48 := (nI_eq (b := 48) (by omega) (by decide)).mp c162
                        refine lv_iconst (v := 0) hx hb d_Dec_gather_169 (by decide) ?_
                        refine tv_i (bI (decide (tl * 10 + dg (T (a + n)) ≠ 0))) (by rw [decide_eq_false (by rw [hdg]; omega)]; rfl) ?_
                        refine lv_istore (lv' := [(5, .int (bI (decide (tl * 10 + dg (T (a + n)) ≠ 0)))), (7, .int (nI (T (a + n)))), (0, .ref h), (2, .int (nI b0)), (3, .int (nI (kMd i))), (4, .int (bI (gp T a (n + 1)))), (6, .int (nI (a + n)))]) hx hb d_Dec_gather_170 hl (by decide) rfl (fun ls hl => ?_)
                        refine lv_iinc (v := nI (a + (n + 1))) (lv' := [(6, .int (nI (a + (n + 1)))), (5, .int (bI (decide (tl * 10 + dg (T (a + n)) ≠ 0)))), (7, .int (nI (T (a + n)))), (0, .ref h), (2, .int (nI b0)), (3, .int (nI (kMd i))), (4, .int (bI (gp T a (n + 1))))]) hx hb d_Dec_gather_172 hl (k := 6) rfl (nI_1 (a + n)) (by decide) rfl (fun ls hl => ?_)
                        refine lv_goto (tgt := 40) hx hb d_Dec_gather_175 (by decide) ?_
                        exact ih (n + 1) ft nt Vt g gs kp (r + 1) (tl * 10 + dg (T (a + n))) (by omega) (by omega) (hB) (⟨ex, he9, he⟩) (hg) (by rw [gv_dg e69, hM, Nat.pow_succ, Nat.add_mul, Nat.mul_assoc]; omega) (by rw [Nat.pow_succ]; omega) (hk) (fun z => absurd z (by omega)) (hKl) (h1) (by omega) _ _ _ (hP.sub [0, 1, 2, 3, 4] rfl) (hD.sub [0, 1, 2, 3, 4] (by decide) rfl) hS (lv_sub hl [3, 4, 5, 6, 1, 0] rfl)
                      · have e162 : T (a + n) ≠ 48 := fun z => c162 (by rw [z]; rfl)
                        refine lv_iconst (v := 1) hx hb d_Dec_gather_165 (by decide) ?_
                        refine tv_i (bI (decide (tl * 10 + dg (T (a + n)) ≠ 0))) (by rw [decide_eq_true (by rw [hdg]; omega)]; rfl) ?_
                        refine lv_goto (tgt := 170) hx hb d_Dec_gather_166 (by decide) ?_
                        refine lv_istore (lv' := [(5, .int (bI (decide (tl * 10 + dg (T (a + n)) ≠ 0)))), (7, .int (nI (T (a + n)))), (0, .ref h), (2, .int (nI b0)), (3, .int (nI (kMd i))), (4, .int (bI (gp T a (n + 1)))), (6, .int (nI (a + n)))]) hx hb d_Dec_gather_170 hl (by decide) rfl (fun ls hl => ?_)
                        refine lv_iinc (v := nI (a + (n + 1))) (lv' := [(6, .int (nI (a + (n + 1)))), (5, .int (bI (decide (tl * 10 + dg (T (a + n)) ≠ 0)))), (7, .int (nI (T (a + n)))), (0, .ref h), (2, .int (nI b0)), (3, .int (nI (kMd i))), (4, .int (bI (gp T a (n + 1))))]) hx hb d_Dec_gather_172 hl (k := 6) rfl (nI_1 (a + n)) (by decide) rfl (fun ls hl => ?_)
                        refine lv_goto (tgt := 40) hx hb d_Dec_gather_175 (by decide) ?_
                        exact ih (n + 1) ft nt Vt g gs kp (r + 1) (tl * 10 + dg (T (a + n))) (by omega) (by omega) (hB) (⟨ex, he9, he⟩) (hg) (by rw [gv_dg e69, hM, Nat.pow_succ, Nat.add_mul, Nat.mul_assoc]; omega) (by rw [Nat.pow_succ]; omega) (hk) (fun z => absurd z (by omega)) (hKl) (h1) (by omega) _ _ _ (hP.sub [0, 1, 2, 3, 4] rfl) (hD.sub [0, 1, 2, 3, 4] (by decide) rfl) hS (lv_sub hl [3, 4, 5, 6, 1, 0] rfl)
                  · have e138 : kp < kMd i := Nat.lt_of_not_le (fun z => c138 ((nI_leI (by omega) (by omega)).mpr z))
                    have hr0 : r = 0 := hr e138
                    have ht0 : tl = 0 := by rw [hr0, Nat.pow_zero] at ht; omega
                    obtain ⟨hs1, hs2⟩ := kd_step (d := T (a + n) - 48) hKl h1 (by omega) hz0
                    rw [show zI ((kp : Int) + r + 1 - gf T a (n + 1)) = zI ((kp + 1 : Nat) + (r : Int) - gf T a (n + 1)) from congrArg zI (by omega)] at hP hD
                    refine lv_aload_n hx hb d_Dec_gather_141 rfl (lv_at hl 1 rfl) ?_
                    refine lv_iload hx hb d_Dec_gather_142 (lv_at hl 0 rfl) ?_
                    refine lv_bipush (v := 48) hx hb d_Dec_gather_144 (by decide) ?_
                    refine lv_isub hx hb d_Dec_gather_146 ?_
                    refine tv_i (nI (T (a + n) - 48)) (pk_sub (b := 48) (by omega)) ?_
                    refine ca_v [(x, .inl (cC, 2400, .inl (tx T)))] (va_runV (As := [.int (nI (T (a + n) - 48))]) (rest := []) ⟨hx, hb, hml, hown, hts⟩ (c_Dec_keepDigit l D E h x q t ta b cA ft nt Vt g gs kp (T (a + n) - 48) ex (zI ((kp + 1 : Nat) + (r : Int) - gf T a (n + 1))) hB hg he he9 (by omega) (fit10 hs1 (by omega)) H.size) (xV 1 hts kC_Dec_keepDigit kM_Dec_83 kI_Dec_keepDigit kS_Dec_keepDigit kN_Dec rfl rfl (by decide +kernel) ⟨Nat.le_of_ble_eq_true rfl, Nat.le_of_ble_eq_true rfl⟩) ⟨ct_blind hev, va_recv hK hP (ci := 1) (q0 := 0) rfl rfl, ct_pre hev hP hK hD hS hA hE [0, 2, 3, 4] rfl (by decide) [1] rfl⟩ rfl rfl hl.1 rfl (lv_room (Nat.le_of_ble_eq_true rfl)) d_Dec_gather_147 ⟨Nat.le_of_ble_eq_true rfl, Nat.le_of_ble_eq_true rfl⟩) hP hD hS hA [0, 2, 3, 4] [1] rfl rfl (by decide) (by decide) (fun u H locs hw hP hD hS hK1 => ?_)
                    obtain ⟨f14, n14, V14, g14, gs14⟩ := u
                    obtain ⟨hB14, hv14, hg14, ex14, hx14, he14⟩ := hw
                    have hB14 : isB f14 n14 V14 := hB14
                    have hv14 : V14 * gs14 + g14 = (Vt * gs + g) * 10 + (T (a + n) - 48) := hv14
                    have hg14 : g14 < gs14 := hg14
                    have he14 : gs14 = 10 ^ ex14 := he14
                    have hP : va_P D vcl [(x, .inl (cC, 2400, .inl (tx T))), (h, .inr (1, [.ref x, .ref q, .int (nI g14), .int (nI gs14), .int (nI (kp + 1)), .int (zI ((kp + 1 : Nat) + (r : Int) - gf T a (n + 1)))])), (q, .inr (2, [.ref t, .ref b])), (t, .inr (0, [.ref ta, .int (nI n14)])), (ta, .inl (cA, 96, .inl f14))] H := hP
                    have hD : va_D A [(x, .inl (cC, 2400, .inl (tx T))), (h, .inr (1, [.ref x, .ref q, .int (nI g14), .int (nI gs14), .int (nI (kp + 1)), .int (zI ((kp + 1 : Nat) + (r : Int) - gf T a (n + 1)))])), (q, .inr (2, [.ref t, .ref b])), (t, .inr (0, [.ref ta, .int (nI n14)])), (ta, .inl (cA, 96, .inl f14))] := hD
                    refine lv_goto (tgt := 172) hx hb d_Dec_gather_150 (by decide) ?_
                    refine lv_iinc (v := nI (a + (n + 1))) (lv' := [(6, .int (nI (a + (n + 1)))), (7, .int (nI (T (a + n)))), (0, .ref h), (2, .int (nI b0)), (3, .int (nI (kMd i))), (4, .int (bI (gp T a (n + 1)))), (5, .int (bI (decide (tl ≠ 0))))]) hx hb d_Dec_gather_172 hl (k := 6) rfl (nI_1 (a + n)) (by decide) rfl (fun ls hl => ?_)
                    refine lv_goto (tgt := 40) hx hb d_Dec_gather_175 (by decide) ?_
                    rw [show zI ((kp + 1 : Nat) + (r : Int) - gf T a (n + 1)) = zI (((kp + 1 : Nat) : Int) + r - gf T a (n + 1)) from rfl] at hP hD
                    exact ih (n + 1) f14 n14 V14 g14 gs14 (kp + 1) r tl (by omega) (by omega) (hB14) (⟨ex14, hx14, he14⟩) (hg14) (by rw [gv_dg e69, hM, hdg, hv14, hr0, ht0, Nat.pow_zero]; omega) (ht) (by omega) (fun _ => hr0) (by rw [hv14]; exact hs1) (fun _ => by rw [hv14, Nat.add_sub_cancel]; exact hs2) (by omega) _ _ _ (hP.sub [1, 0, 2, 3, 4] rfl) (hD.sub [1, 0, 2, 3, 4] (by decide) rfl) hS (lv_sub hl [2, 3, 4, 5, 6, 0] rfl)
              · have e89 : T (a + n) = 48 := (nI_eq (b := 48) (by omega) (by decide)).mp c89
                have hr0 : r = 0 := hr (by omega)
                have hK0 : Vt * gs + g = 0 := by rw [e82, Nat.pow_zero] at hKl; omega
                have ht0 : tl = 0 := by rw [hr0, Nat.pow_zero] at ht; omega
                refine lv_aload_n hx hb d_Dec_gather_92 rfl (lv_at hl 1 rfl) ?_
                refine lv_dup hx hb d_Dec_gather_93 rfl ?_
                refine va_get (D := D) (ci := 1) (v := .int (zI ((kp : Int) + r - gf T a n))) (C := R_Dec) (T := F_Dec) (N := 6) hx hb hts w_Dec hown hK hP 0 rfl rfl 5 (by decide) (hts _ kF_Dec_35) (fun _ h9 => h9) rfl d_Dec_gather_94 ?_
                refine lv_iload hx hb d_Dec_gather_97 (lv_at hl 4 rfl) ?_
                refine lv_if_eq (tgt := 106) hx hb d_Dec_gather_99 (by decide) (fun c99 => ?_) (fun c99 => ?_)
                · have e99 : gp T a n = false := by rw [← gp_dg e69]; exact (bI_0 _).mp c99
                  refine lv_iconst (v := 0) hx hb d_Dec_gather_106 (by decide) ?_
                  refine lv_isub hx hb d_Dec_gather_107 ?_
                  refine tv_i (zI ((kp : Int) + r - gf T a (n + 1))) (by have h9 := gf_dg e69; rw [e99] at h9; have h9 : gf T a (n + 1) = gf T a n + 0 := h9; rw [h9]; show zI _ - zI 0 = zI _; rw [zI_sub]; exact congrArg zI (by omega)) ?_
                  refine va_put (D := D) (ci := 1) (v := .int (zI ((kp : Int) + r - gf T a (n + 1)))) (ty := .int) (C := R_Dec) (T := F_Dec) (N := 6) hx hb hts w_Dec t_Dec tk_Dec n_Dec hown hK hP hD hS 0 rfl rfl 5 (by decide) (hts _ kF_Dec_35) (fun _ h9 => h9) rfl (by decide +kernel) (rfl) (rfl) (Nat.le_of_ble_eq_true rfl) d_Dec_gather_108 (fun H locs hP hD hS => ?_)
                  have hP : va_P D vcl [(h, .inr (1, [.ref x, .ref q, .int (nI g), .int (nI gs), .int (nI kp), .int (zI ((kp : Int) + r - gf T a (n + 1)))])), (x, .inl (cC, 2400, .inl (tx T))), (q, .inr (2, [.ref t, .ref b])), (t, .inr (0, [.ref ta, .int (nI nt)])), (ta, .inl (cA, 96, .inl ft))] H := hP
                  have hD : va_D A [(h, .inr (1, [.ref x, .ref q, .int (nI g), .int (nI gs), .int (nI kp), .int (zI ((kp : Int) + r - gf T a (n + 1)))])), (x, .inl (cC, 2400, .inl (tx T))), (q, .inr (2, [.ref t, .ref b])), (t, .inr (0, [.ref ta, .int (nI nt)])), (ta, .inl (cA, 96, .inl ft))] := hD
                  refine lv_goto (tgt := 172) hx hb d_Dec_gather_111 (by decide) ?_
                  refine lv_iinc (v := nI (a + (n + 1))) (lv' := [(6, .int (nI (a + (n + 1)))), (7, .int (nI (T (a + n)))), (0, .ref h), (2, .int (nI b0)), (3, .int (nI (kMd i))), (4, .int (bI (gp T a (n + 1)))), (5, .int (bI (decide (tl ≠ 0))))]) hx hb d_Dec_gather_172 hl (k := 6) rfl (nI_1 (a + n)) (by decide) rfl (fun ls hl => ?_)
                  refine lv_goto (tgt := 40) hx hb d_Dec_gather_175 (by decide) ?_
                  exact ih (n + 1) ft nt Vt g gs kp r tl (by omega) (by omega) (hB) (⟨ex, he9, he⟩) (hg) (by rw [gv_dg e69, hM, hdg, e89, hK0, ht0, Nat.zero_mul]) (ht) (hk) (hr) (hKl) (h1) (by omega) _ _ _ (hP.sub [0, 1, 2, 3, 4] rfl) (hD.sub [0, 1, 2, 3, 4] (by decide) rfl) hS (lv_sub hl [2, 3, 4, 5, 6, 0] rfl)
                · have e99 : gp T a n = true := by rw [← gp_dg e69]; exact tt_of (fun z => c99 ((bI_0 _).mpr z))
                  refine lv_iconst (v := 1) hx hb d_Dec_gather_102 (by decide) ?_
                  refine lv_goto (tgt := 107) hx hb d_Dec_gather_103 (by decide) ?_
                  refine lv_isub hx hb d_Dec_gather_107 ?_
                  refine tv_i (zI ((kp : Int) + r - gf T a (n + 1))) (by have h9 := gf_dg e69; rw [e99] at h9; have h9 : gf T a (n + 1) = gf T a n + 1 := h9; rw [h9]; show zI _ - zI 1 = zI _; rw [zI_sub]; exact congrArg zI (by omega)) ?_
                  refine va_put (D := D) (ci := 1) (v := .int (zI ((kp : Int) + r - gf T a (n + 1)))) (ty := .int) (C := R_Dec) (T := F_Dec) (N := 6) hx hb hts w_Dec t_Dec tk_Dec n_Dec hown hK hP hD hS 0 rfl rfl 5 (by decide) (hts _ kF_Dec_35) (fun _ h9 => h9) rfl (by decide +kernel) (rfl) (rfl) (Nat.le_of_ble_eq_true rfl) d_Dec_gather_108 (fun H locs hP hD hS => ?_)
                  have hP : va_P D vcl [(h, .inr (1, [.ref x, .ref q, .int (nI g), .int (nI gs), .int (nI kp), .int (zI ((kp : Int) + r - gf T a (n + 1)))])), (x, .inl (cC, 2400, .inl (tx T))), (q, .inr (2, [.ref t, .ref b])), (t, .inr (0, [.ref ta, .int (nI nt)])), (ta, .inl (cA, 96, .inl ft))] H := hP
                  have hD : va_D A [(h, .inr (1, [.ref x, .ref q, .int (nI g), .int (nI gs), .int (nI kp), .int (zI ((kp : Int) + r - gf T a (n + 1)))])), (x, .inl (cC, 2400, .inl (tx T))), (q, .inr (2, [.ref t, .ref b])), (t, .inr (0, [.ref ta, .int (nI nt)])), (ta, .inl (cA, 96, .inl ft))] := hD
                  refine lv_goto (tgt := 172) hx hb d_Dec_gather_111 (by decide) ?_
                  refine lv_iinc (v := nI (a + (n + 1))) (lv' := [(6, .int (nI (a + (n + 1)))), (7, .int (nI (T (a + n)))), (0, .ref h), (2, .int (nI b0)), (3, .int (nI (kMd i))), (4, .int (bI (gp T a (n + 1)))), (5, .int (bI (decide (tl ≠ 0))))]) hx hb d_Dec_gather_172 hl (k := 6) rfl (nI_1 (a + n)) (by decide) rfl (fun ls hl => ?_)
                  refine lv_goto (tgt := 40) hx hb d_Dec_gather_175 (by decide) ?_
                  exact ih (n + 1) ft nt Vt g gs kp r tl (by omega) (by omega) (hB) (⟨ex, he9, he⟩) (hg) (by rw [gv_dg e69, hM, hdg, e89, hK0, ht0, Nat.zero_mul]) (ht) (hk) (hr) (hKl) (h1) (by omega) _ _ _ (hP.sub [0, 1, 2, 3, 4] rfl) (hD.sub [0, 1, 2, 3, 4] (by decide) rfl) hS (lv_sub hl [2, 3, 4, 5, 6, 0] rfl)
          · have e69 : T (a + n) = 46 := (nI_eq (b := 46) (by omega) (by decide)).mp c69
            rw [← gf_pt e69] at hP hD
            refine lv_iconst (v := 1) hx hb d_Dec_gather_72 (by decide) ?_
            refine tv_i (bI (gp T a (n + 1))) (by rw [gp_pt e69]; rfl) ?_
            refine lv_istore (lv' := [(4, .int (bI (gp T a (n + 1)))), (7, .int (nI (T (a + n)))), (0, .ref h), (2, .int (nI b0)), (3, .int (nI (kMd i))), (5, .int (bI (decide (tl ≠ 0)))), (6, .int (nI (a + n)))]) hx hb d_Dec_gather_73 hl (by decide) rfl (fun ls hl => ?_)
            refine lv_goto (tgt := 172) hx hb d_Dec_gather_75 (by decide) ?_
            refine lv_iinc (v := nI (a + (n + 1))) (lv' := [(6, .int (nI (a + (n + 1)))), (4, .int (bI (gp T a (n + 1)))), (7, .int (nI (T (a + n)))), (0, .ref h), (2, .int (nI b0)), (3, .int (nI (kMd i))), (5, .int (bI (decide (tl ≠ 0))))]) hx hb d_Dec_gather_172 hl (k := 6) rfl (nI_1 (a + n)) (by decide) rfl (fun ls hl => ?_)
            refine lv_goto (tgt := 40) hx hb d_Dec_gather_175 (by decide) ?_
            exact ih (n + 1) ft nt Vt g gs kp r tl (by omega) (by omega) (hB) (⟨ex, he9, he⟩) (hg) (by rw [gv_pt e69]; exact hM) (ht) (hk) (hr) (hKl) (h1) (by omega) _ _ _ (hP.sub [0, 1, 2, 3, 4] rfl) (hD.sub [0, 1, 2, 3, 4] (by decide) rfl) hS (lv_sub hl [3, 4, 5, 1, 6, 0] rfl)
  exact L40 (b0 - a + 1) 0 f1 n2 0 0 1 0 0 0 (by omega) (hab) (hB3) (⟨0, by decide, rfl⟩) (by decide) (rfl) (by decide) (Nat.zero_le _) (fun _ => rfl) (by decide) (fun h => absurd h (by decide)) (Nat.le_refl 0) _ _ _ (hP.sub [0, 1, 2, 3, 4] rfl) (hD.sub [0, 1, 2, 3, 4] (by decide) rfl) hS (lv_sub hl [3, 5, 6, 2, 1, 0] rfl)

set_option maxHeartbeats 4000000 in
set_option maxRecDepth 100000 in
theorem c_Dec_nearest (l : Launch) (D : va_G) (E : evD) (i : Nat) (hi : i < 2) (h x q t ta b ba nm : Nat) (cC cA cB : ClassId) (T : Nat → Nat) (f g : Nat → Int32) (nv mv g0 gs0 kp0 pl0 v1 v2 v3 v4 : Int32) (a b0 : Nat) (pq : Int) (hab : a + 0 ≤ b0) (hb0 : b0 ≤ 2400) (hT : ∀ j, T j < 65536) (hdig : ∀ j, a ≤ j → j < b0 → T j = 46 ∨ (48 ≤ T j ∧ T j ≤ 57)) (hq1 : -1000000 ≤ pq) (hq2 : pq ≤ 1000000) : Cl (S := ((Nat → Int32) × Int32 × (Nat → Int32) × Int32) × (Int32 × Int32 × Int32 × Int32)) l y_Dec_nearest (wz y_Dec_nearest b_Dec_nearest 5 (some .long)) ({ frames := 3, cells := 0, slots := 0, locals := 84 }) D vcl (ev1 E) [.ref h, .ref nm, .ref (E.1 i)] [(cC, .char), (cA, .int), (cB, .int)] [(h, .inr (1, [.ref x, .ref q, .int g0, .int gs0, .int kp0, .int pl0])), (x, .inl (cC, 2400, .inl (tx T))), (q, .inr (2, [.ref t, .ref b])), (t, .inr (0, [.ref ta, .int nv])), (ta, .inl (cA, 96, .inl f)), (b, .inr (0, [.ref ba, .int mv])), (ba, .inl (cB, 96, .inl g)), (nm, .inr (3, [.ref x, .int v1, .int v2, .int v3, .int v4, .int (nI a), .int (nI b0), .int (zI pq)]))] 0 0 (fun (r : Int64) (_ : ((Nat → Int32) × Int32 × (Nat → Int32) × Int32) × (Int32 × Int32 × Int32 × Int32)) => r = lN (dec (kP i) (kZ i) (kLw i) (gv 10 T a (b0 - a)) (pq - gf T a (b0 - a)))) (fun _ => [(cC, .char), (cA, .int), (cB, .int)]) (fun u : ((Nat → Int32) × Int32 × (Nat → Int32) × Int32) × (Int32 × Int32 × Int32 × Int32) => [(h, .inr (1, [.ref x, .ref q, .int u.2.1, .int u.2.2.1, .int u.2.2.2.1, .int u.2.2.2.2])), (x, .inl (cC, 2400, .inl (tx T))), (q, .inr (2, [.ref t, .ref b])), (t, .inr (0, [.ref ta, .int u.1.2.1])), (ta, .inl (cA, 96, .inl u.1.1)), (b, .inr (0, [.ref ba, .int u.1.2.2.2])), (ba, .inl (cB, 96, .inl u.1.2.2.1)), (nm, .inr (3, [.ref x, .int v1, .int v2, .int v3, .int v4, .int (nI a), .int (nI b0), .int (zI pq)]))]) := by
  have hev := ev1_ok E
  unfold Cl
  refine ct_of (y := y_Dec_nearest) (av := [.ref h, .ref nm, .ref (E.1 i)]) (cc := b_Dec_nearest) (maxL := 5) (ret := (some .long)) (Qc := fun A => va_Ql (S := ((Nat → Int32) × Int32 × (Nat → Int32) × Int32) × (Int32 × Int32 × Int32 × Int32)) (fun (r : Int64) (_ : ((Nat → Int32) × Int32 × (Nat → Int32) × Int32) × (Int32 × Int32 × Int32 × Int32)) => r = lN (dec (kP i) (kZ i) (kLw i) (gv 10 T a (b0 - a)) (pq - gf T a (b0 - a)))) (fun u tS => ctB D vcl ((fun _ => [(cC, .char), (cA, .int), (cB, .int)]) u) ((fun u : ((Nat → Int32) × Int32 × (Nat → Int32) × Int32) × (Int32 × Int32 × Int32 × Int32) => [(h, .inr (1, [.ref x, .ref q, .int u.2.1, .int u.2.2.1, .int u.2.2.2.1, .int u.2.2.2.2])), (x, .inl (cC, 2400, .inl (tx T))), (q, .inr (2, [.ref t, .ref b])), (t, .inr (0, [.ref ta, .int u.1.2.1])), (ta, .inl (cA, 96, .inl u.1.1)), (b, .inr (0, [.ref ba, .int u.1.2.2.2])), (ba, .inl (cB, 96, .inl u.1.2.2.1)), (nm, .inr (3, [.ref x, .int v1, .int v2, .int v3, .int v4, .int (nI a), .int (nI b0), .int (zI pq)]))]) u) A tS) A) (by decide) rfl (Nat.le_of_ble_eq_true rfl) ?_
  intro p e s m below meth cde ls A H locs hx hb hml hrt hlocks hown hin hts hA hP hK hD hS hE hl
  have hown : s.vm.findClass R_Dec = some m.cls := hown
  have hts := wz_g hts
  have hl : lv_has ls 5 [(0, .ref h), (1, .ref nm), (2, .ref (E.1 i))] := hl
  obtain ⟨hk1, hk2, hk3, hk4, hk5, hk6, hk7, hk8, hk9⟩ := kP_b i hi
  refine lv_aload_n hx hb d_Dec_nearest_0 rfl (lv_at hl 0 rfl) ?_
  refine lv_aload_n hx hb d_Dec_nearest_1 rfl (lv_at hl 1 rfl) ?_
  refine va_get (D := D) (ci := 3) (v := .int (nI a)) (C := R_Num) (T := F_Num) (N := 8) hx hb hts w_Num hown hK hP 7 rfl rfl 5 (by decide) (hts _ kF_Dec_17) (fun _ h9 => h9) rfl d_Dec_nearest_2 ?_
  refine lv_aload_n hx hb d_Dec_nearest_5 rfl (lv_at hl 1 rfl) ?_
  refine va_get (D := D) (ci := 3) (v := .int (nI b0)) (C := R_Num) (T := F_Num) (N := 8) hx hb hts w_Num hown hK hP 7 rfl rfl 6 (by decide) (hts _ kF_Dec_23) (fun _ h9 => h9) rfl d_Dec_nearest_6 ?_
  refine lv_aload_n hx hb d_Dec_nearest_9 rfl (lv_at hl 2 rfl) ?_
  refine va_getE hx hb hE.2.1 (i := i) hi hS hown (q := kF[3]) (List.getElem_mem _) (hts _ kF_Dec_26) (fun _ h9 => h9) d_Dec_nearest_10 ?_
  refine tv_i (nI (kMd i)) (kf_M i hi) ?_
  refine ca_v [(b, .inr (0, [.ref ba, .int mv])), (ba, .inl (cB, 96, .inl g)), (nm, .inr (3, [.ref x, .int v1, .int v2, .int v3, .int v4, .int (nI a), .int (nI b0), .int (zI pq)]))] (va_runV (As := [.int (nI a), .int (nI b0), .int (nI (kMd i))]) (rest := []) ⟨hx, hb, hml, hown, hts⟩ (c_Dec_gather l D E i hi h x q t ta b cC cA T f nv g0 gs0 kp0 pl0 a b0 (hab) (hb0) (hT) (hdig) H.size) (xV 3 hts kC_Dec_gather kM_Dec_31 kI_Dec_gather kS_Dec_gather kN_Dec rfl rfl (by decide +kernel) ⟨Nat.le_of_ble_eq_true rfl, Nat.le_of_ble_eq_true rfl⟩) ⟨ct_blind hev, va_recv hK hP (ci := 1) (q0 := 0) rfl rfl, ct_pre hev hP hK hD hS hA hE [0, 1, 2, 3, 4] rfl (by decide) [0, 1] rfl⟩ rfl rfl hl.1 rfl (lv_room (Nat.le_of_ble_eq_true rfl)) d_Dec_nearest_13 ⟨Nat.le_of_ble_eq_true rfl, Nat.le_of_ble_eq_true rfl⟩) hP hD hS hA [0, 1, 2, 3, 4] [5, 6, 7] rfl rfl (by decide) (by decide) (fun u H locs hw hP hD hS hK1 => ?_)
  obtain ⟨fg, ng, Kf, gg, gsg, kpg, plg⟩ := u
  obtain ⟨hBg, hga⟩ := hw
  have hBg : isB fg ng Kf := hBg
  have hga : gaOK i (gv 10 T a (b0 - a)) (gf T a (b0 - a)) Kf kpg plg := hga
  have hP : va_P D vcl [(b, .inr (0, [.ref ba, .int mv])), (ba, .inl (cB, 96, .inl g)), (nm, .inr (3, [.ref x, .int v1, .int v2, .int v3, .int v4, .int (nI a), .int (nI b0), .int (zI pq)])), (h, .inr (1, [.ref x, .ref q, .int (nI gg), .int (nI gsg), .int (nI kpg), .int (zI plg)])), (x, .inl (cC, 2400, .inl (tx T))), (q, .inr (2, [.ref t, .ref b])), (t, .inr (0, [.ref ta, .int (nI ng)])), (ta, .inl (cA, 96, .inl fg))] H := hP
  have hD : va_D A [(b, .inr (0, [.ref ba, .int mv])), (ba, .inl (cB, 96, .inl g)), (nm, .inr (3, [.ref x, .int v1, .int v2, .int v3, .int v4, .int (nI a), .int (nI b0), .int (zI pq)])), (h, .inr (1, [.ref x, .ref q, .int (nI gg), .int (nI gsg), .int (nI kpg), .int (zI plg)])), (x, .inl (cC, 2400, .inl (tx T))), (q, .inr (2, [.ref t, .ref b])), (t, .inr (0, [.ref ta, .int (nI ng)])), (ta, .inl (cA, 96, .inl fg))] := hD
  obtain ⟨hL1, hK2, hK3, hp1, hp2, hK4⟩ := hga
  have hK4 := hK4 pq
  refine lv_aload_n hx hb d_Dec_nearest_16 rfl (lv_at hl 0 rfl) ?_
  refine va_get (D := D) (ci := 1) (v := .int (zI plg)) (C := R_Dec) (T := F_Dec) (N := 6) hx hb hts w_Dec hown hK hP 3 rfl rfl 5 (by decide) (hts _ kF_Dec_35) (fun _ h9 => h9) rfl d_Dec_nearest_17 ?_
  refine lv_aload_n hx hb d_Dec_nearest_20 rfl (lv_at hl 1 rfl) ?_
  refine va_get (D := D) (ci := 3) (v := .int (zI pq)) (C := R_Num) (T := F_Num) (N := 8) hx hb hts w_Num hown hK hP 2 rfl rfl 7 (by decide) (hts _ kF_Dec_38) (fun _ h9 => h9) rfl d_Dec_nearest_21 ?_
  refine lv_iadd hx hb d_Dec_nearest_24 ?_
  refine tv_i (zI (plg + pq)) (zI_add _ _) ?_
  refine lv_istore_n (lv' := [(3, .int (zI (plg + pq))), (0, .ref h), (1, .ref nm), (2, .ref (E.1 i))]) hx hb d_Dec_nearest_25 rfl hl (by decide) rfl (fun ls hl => ?_)
  refine lv_aload_n hx hb d_Dec_nearest_26 rfl (lv_at hl 1 rfl) ?_
  refine va_get (D := D) (ci := 1) (v := .int (nI kpg)) (C := R_Dec) (T := F_Dec) (N := 6) hx hb hts w_Dec hown hK hP 3 rfl rfl 4 (by decide) (hts _ kF_Dec_41) (fun _ h9 => h9) rfl d_Dec_nearest_27 ?_
  refine lv_if_eq (tgt := 41) hx hb d_Dec_nearest_30 (by decide) (fun c30 => ?_) (fun c30 => ?_)
  · have e30 : kpg = 0 := (nI_eq0 (by omega)).mp c30
    refine lv_lconst (v := 0) hx hb d_Dec_nearest_41 (by decide) ?_
    refine tv_l (lN 0) (rfl) ?_
    exact rt_l hx hb hrt hlocks (((fg, nI ng, g, mv), (nI gg, nI gsg, nI kpg, zI plg))) (by rw [hK4, show Kf = 0 by rw [e30, Nat.pow_zero] at hL1; omega, dec_0]) (hP.sub [3, 4, 5, 6, 7, 0, 1, 2] rfl) (hK.sub [0, 1, 2] rfl) (hD.sub [3, 4, 5, 6, 7, 0, 1, 2] (by decide) rfl) hS d_Dec_nearest_42
  · have e30 : kpg ≠ 0 := fun z => c30 (by rw [z]; rfl)
    have hKf : Kf ≠ 0 := fun z => by have h9 := hK2 (by omega); have := ten_pos (kpg - 1); omega
    refine lv_iload_n hx hb d_Dec_nearest_33 rfl (lv_at hl 0 rfl) ?_
    refine lv_aload_n hx hb d_Dec_nearest_34 rfl (lv_at hl 3 rfl) ?_
    refine va_getE hx hb hE.2.1 (i := i) hi hS hown (q := kF[4]) (List.getElem_mem _) (hts _ kF_Dec_44) (fun _ h9 => h9) d_Dec_nearest_35 ?_
    refine tv_i (zI (-(kLo i : Int))) (kf_lo i hi) ?_
    refine lv_icmp_ge (tgt := 43) hx hb d_Dec_nearest_38 (by decide) (fun c38 => ?_) (fun c38 => ?_)
    · have e38 : -(kLo i : Int) ≤ plg + pq := (zI_le (by omega) (by omega) (by omega) (by omega)).mp c38
      refine lv_iload_n hx hb d_Dec_nearest_43 rfl (lv_at hl 0 rfl) ?_
      refine lv_aload_n hx hb d_Dec_nearest_44 rfl (lv_at hl 3 rfl) ?_
      refine va_getE hx hb hE.2.1 (i := i) hi hS hown (q := kF[5]) (List.getElem_mem _) (hts _ kF_Dec_47) (fun _ h9 => h9) d_Dec_nearest_45 ?_
      refine tv_i (zI (kHi i : Int)) (kf_hi i hi) ?_
      refine lv_icmp_le (tgt := 56) hx hb d_Dec_nearest_48 (by decide) (fun c48 => ?_) (fun c48 => ?_)
      · have e48 : plg + pq ≤ (kHi i : Int) := (zI_le (by omega) (by omega) (by omega) (by omega)).mp c48
        refine lv_aload_n hx hb d_Dec_nearest_56 rfl (lv_at hl 1 rfl) ?_
        refine va_get (D := D) (ci := 1) (v := .ref q) (C := R_Dec) (T := F_Dec) (N := 6) hx hb hts w_Dec hown hK hP 3 rfl rfl 1 (by decide) (hts _ kF_Dec_13) (fun _ h9 => h9) rfl d_Dec_nearest_57 ?_
        refine va_get (D := D) (ci := 2) (v := .ref b) (C := R_Fra) (T := F_Fra) (N := 2) hx hb hts w_Fra hown hK hP 5 rfl rfl 1 (by decide) (hts _ kF_Dec_54) (fun _ h9 => h9) rfl d_Dec_nearest_60 ?_
        refine lv_lconst (v := 1) hx hb d_Dec_nearest_63 (by decide) ?_
        refine tv_l (lN 1) (rfl) ?_
        refine ca_v [(nm, .inr (3, [.ref x, .int v1, .int v2, .int v3, .int v4, .int (nI a), .int (nI b0), .int (zI pq)])), (h, .inr (1, [.ref x, .ref q, .int (nI gg), .int (nI gsg), .int (nI kpg), .int (zI plg)])), (x, .inl (cC, 2400, .inl (tx T))), (q, .inr (2, [.ref t, .ref b])), (t, .inr (0, [.ref ta, .int (nI ng)])), (ta, .inl (cA, 96, .inl fg))] (va_runV (As := [.long (lN 1)]) (rest := []) ⟨hx, hb, hml, hown, hts⟩ (c_Big_set l D E b ba cB g mv 1 (by decide) H.size) (xV 1 hts kC_Big_set kM_Dec_60 kI_Big_set kS_Big_set kN_Big rfl rfl (by decide +kernel) ⟨Nat.le_of_ble_eq_true rfl, Nat.le_of_ble_eq_true rfl⟩) ⟨ct_blind hev, va_recv hK hP (ci := 0) (q0 := 0) rfl rfl, ct_pre hev hP hK hD hS hA hE [0, 1] rfl (by decide) [2] rfl⟩ rfl rfl hl.1 rfl (lv_room (Nat.le_of_ble_eq_true rfl)) d_Dec_nearest_64 ⟨Nat.le_of_ble_eq_true rfl, Nat.le_of_ble_eq_true rfl⟩) hP hD hS hA [0, 1] [2, 3, 4, 5, 6, 7] rfl rfl (by decide) (by decide) (fun u H locs hw hP hD hS hK1 => ?_)
        obtain ⟨f1, n2⟩ := u
        have hB3 : isB f1 n2 (1) := hw
        have hP : va_P D vcl [(nm, .inr (3, [.ref x, .int v1, .int v2, .int v3, .int v4, .int (nI a), .int (nI b0), .int (zI pq)])), (h, .inr (1, [.ref x, .ref q, .int (nI gg), .int (nI gsg), .int (nI kpg), .int (zI plg)])), (x, .inl (cC, 2400, .inl (tx T))), (q, .inr (2, [.ref t, .ref b])), (t, .inr (0, [.ref ta, .int (nI ng)])), (ta, .inl (cA, 96, .inl fg)), (b, .inr (0, [.ref ba, .int (nI n2)])), (ba, .inl (cB, 96, .inl f1))] H := hP
        have hD : va_D A [(nm, .inr (3, [.ref x, .int v1, .int v2, .int v3, .int v4, .int (nI a), .int (nI b0), .int (zI pq)])), (h, .inr (1, [.ref x, .ref q, .int (nI gg), .int (nI gsg), .int (nI kpg), .int (zI plg)])), (x, .inl (cC, 2400, .inl (tx T))), (q, .inr (2, [.ref t, .ref b])), (t, .inr (0, [.ref ta, .int (nI ng)])), (ta, .inl (cA, 96, .inl fg)), (b, .inr (0, [.ref ba, .int (nI n2)])), (ba, .inl (cB, 96, .inl f1))] := hD
        refine lv_iload_n hx hb d_Dec_nearest_67 rfl (lv_at hl 0 rfl) ?_
        refine lv_aload_n hx hb d_Dec_nearest_68 rfl (lv_at hl 1 rfl) ?_
        refine va_get (D := D) (ci := 1) (v := .int (nI kpg)) (C := R_Dec) (T := F_Dec) (N := 6) hx hb hts w_Dec hown hK hP 1 rfl rfl 4 (by decide) (hts _ kF_Dec_41) (fun _ h9 => h9) rfl d_Dec_nearest_69 ?_
        refine lv_isub hx hb d_Dec_nearest_72 ?_
        refine tv_i (zI (plg + pq - kpg)) (by rw [← zI_nI, zI_sub]) ?_
        refine lv_istore (lv' := [(4, .int (zI (plg + pq - kpg))), (3, .int (zI (plg + pq))), (0, .ref h), (1, .ref nm), (2, .ref (E.1 i))]) hx hb d_Dec_nearest_73 hl (by decide) rfl (fun ls hl => ?_)
        refine lv_iload hx hb d_Dec_nearest_75 (lv_at hl 0 rfl) ?_
        refine lv_if_ge (tgt := 96) hx hb d_Dec_nearest_77 (by decide) (fun c77 => ?_) (fun c77 => ?_)
        · have e77 : 0 ≤ plg + pq - kpg := (zI_le (a := 0) (by omega) (by omega) (by omega) (by omega)).mp c77
          have hf5 := five_t (K := Kf) (kp := kpg) (c := (plg + pq - kpg).toNat) hL1 (by omega)
          refine lv_aload_n hx hb d_Dec_nearest_96 rfl (lv_at hl 2 rfl) ?_
          refine va_get (D := D) (ci := 1) (v := .ref q) (C := R_Dec) (T := F_Dec) (N := 6) hx hb hts w_Dec hown hK hP 1 rfl rfl 1 (by decide) (hts _ kF_Dec_13) (fun _ h9 => h9) rfl d_Dec_nearest_97 ?_
          refine va_get (D := D) (ci := 2) (v := .ref t) (C := R_Fra) (T := F_Fra) (N := 2) hx hb hts w_Fra hown hK hP 3 rfl rfl 0 (by decide) (hts _ kF_Dec_70) (fun _ h9 => h9) rfl d_Dec_nearest_100 ?_
          refine lv_iload hx hb d_Dec_nearest_103 (lv_at hl 0 rfl) ?_
          refine tv_i (nI (plg + pq - kpg).toNat) (by rw [← zI_nI]; exact congrArg zI (by omega)) ?_
          refine ca_v [(nm, .inr (3, [.ref x, .int v1, .int v2, .int v3, .int v4, .int (nI a), .int (nI b0), .int (zI pq)])), (h, .inr (1, [.ref x, .ref q, .int (nI gg), .int (nI gsg), .int (nI kpg), .int (zI plg)])), (x, .inl (cC, 2400, .inl (tx T))), (q, .inr (2, [.ref t, .ref b])), (b, .inr (0, [.ref ba, .int (nI n2)])), (ba, .inl (cB, 96, .inl f1))] (va_runV (As := [.int (nI (plg + pq - kpg).toNat)]) (rest := []) ⟨hx, hb, hml, hown, hts⟩ (c_Big_timesFives l D E t ta cA fg ng Kf ((plg + pq - kpg).toNat) hBg (by omega) (hf5.1) H.size) (xV 1 hts kC_Big_timesFives kM_Dec_66 kI_Big_timesFives kS_Big_timesFives kN_Big rfl rfl (by decide +kernel) ⟨Nat.le_of_ble_eq_true rfl, Nat.le_of_ble_eq_true rfl⟩) ⟨ct_blind hev, va_recv hK hP (ci := 0) (q0 := 4) rfl rfl, ct_pre hev hP hK hD hS hA hE [4, 5] rfl (by decide) [1] rfl⟩ rfl rfl hl.1 rfl (lv_room (Nat.le_of_ble_eq_true rfl)) d_Dec_nearest_105 ⟨Nat.le_of_ble_eq_true rfl, Nat.le_of_ble_eq_true rfl⟩) hP hD hS hA [4, 5] [0, 1, 2, 3, 6, 7] rfl rfl (by decide) (by decide) (fun u H locs hw hP hD hS hK1 => ?_)
          obtain ⟨f4, n5⟩ := u
          have hB6 : isB f4 n5 (Kf * 5 ^ ((plg + pq - kpg).toNat)) := hw
          have hP : va_P D vcl [(nm, .inr (3, [.ref x, .int v1, .int v2, .int v3, .int v4, .int (nI a), .int (nI b0), .int (zI pq)])), (h, .inr (1, [.ref x, .ref q, .int (nI gg), .int (nI gsg), .int (nI kpg), .int (zI plg)])), (x, .inl (cC, 2400, .inl (tx T))), (q, .inr (2, [.ref t, .ref b])), (b, .inr (0, [.ref ba, .int (nI n2)])), (ba, .inl (cB, 96, .inl f1)), (t, .inr (0, [.ref ta, .int (nI n5)])), (ta, .inl (cA, 96, .inl f4))] H := hP
          have hD : va_D A [(nm, .inr (3, [.ref x, .int v1, .int v2, .int v3, .int v4, .int (nI a), .int (nI b0), .int (zI pq)])), (h, .inr (1, [.ref x, .ref q, .int (nI gg), .int (nI gsg), .int (nI kpg), .int (zI plg)])), (x, .inl (cC, 2400, .inl (tx T))), (q, .inr (2, [.ref t, .ref b])), (b, .inr (0, [.ref ba, .int (nI n2)])), (ba, .inl (cB, 96, .inl f1)), (t, .inr (0, [.ref ta, .int (nI n5)])), (ta, .inl (cA, 96, .inl f4))] := hD
          refine lv_aload_n hx hb d_Dec_nearest_108 rfl (lv_at hl 2 rfl) ?_
          refine va_get (D := D) (ci := 1) (v := .ref q) (C := R_Dec) (T := F_Dec) (N := 6) hx hb hts w_Dec hown hK hP 1 rfl rfl 1 (by decide) (hts _ kF_Dec_13) (fun _ h9 => h9) rfl d_Dec_nearest_109 ?_
          refine lv_aload_n hx hb d_Dec_nearest_112 rfl (lv_at hl 4 rfl) ?_
          refine lv_iload hx hb d_Dec_nearest_113 (lv_at hl 0 rfl) ?_
          refine ca_l [(nm, .inr (3, [.ref x, .int v1, .int v2, .int v3, .int v4, .int (nI a), .int (nI b0), .int (zI pq)])), (h, .inr (1, [.ref x, .ref q, .int (nI gg), .int (nI gsg), .int (nI kpg), .int (zI plg)])), (x, .inl (cC, 2400, .inl (tx T)))] (va_runV (As := [.ref (E.1 i), .int (zI (plg + pq - kpg))]) (rest := []) ⟨hx, hb, hml, hown, hts⟩ (c_Fra_nearest l D E i hi q t ta b ba cA cB f4 f1 n5 n2 (Kf * 5 ^ ((plg + pq - kpg).toNat)) 1 (plg + pq - kpg) hB6 hB3 (Nat.ne_of_gt (Nat.mul_pos (Nat.pos_of_ne_zero hKf) (Nat.pow_pos (by decide)))) (by decide) (hf5.2) (bln_le_of (by decide)) (by omega) (by omega) H.size) (xV 2 hts kC_Fra_nearest kM_Dec_73 kI_Fra_nearest kS_Fra_nearest kN_Fra rfl rfl (by decide +kernel) ⟨Nat.le_of_ble_eq_true rfl, Nat.le_of_ble_eq_true rfl⟩) ⟨ct_blind hev, va_recv hK hP (ci := 2) (q0 := 3) rfl rfl, ct_pre hev hP hK hD hS hA hE [3, 6, 7, 4, 5] rfl (by decide) [1, 2] rfl⟩ rfl rfl hl.1 rfl (lv_room (Nat.le_of_ble_eq_true rfl)) d_Dec_nearest_115 ⟨Nat.le_of_ble_eq_true rfl, Nat.le_of_ble_eq_true rfl⟩) hP hD hS hA [3, 6, 7, 4, 5] [0, 1, 2] rfl rfl (by decide) (by decide) (fun r u H locs hw hP hD hS hK1 => ?_)
          obtain ⟨⟨f7, n8⟩, ⟨f9, n10⟩⟩ := u
          subst hw
          have hP : va_P D vcl [(nm, .inr (3, [.ref x, .int v1, .int v2, .int v3, .int v4, .int (nI a), .int (nI b0), .int (zI pq)])), (h, .inr (1, [.ref x, .ref q, .int (nI gg), .int (nI gsg), .int (nI kpg), .int (zI plg)])), (x, .inl (cC, 2400, .inl (tx T))), (q, .inr (2, [.ref t, .ref b])), (t, .inr (0, [.ref ta, .int (nI n8)])), (ta, .inl (cA, 96, .inl f7)), (b, .inr (0, [.ref ba, .int (nI n10)])), (ba, .inl (cB, 96, .inl f9))] H := hP
          have hD : va_D A [(nm, .inr (3, [.ref x, .int v1, .int v2, .int v3, .int v4, .int (nI a), .int (nI b0), .int (zI pq)])), (h, .inr (1, [.ref x, .ref q, .int (nI gg), .int (nI gsg), .int (nI kpg), .int (zI plg)])), (x, .inl (cC, 2400, .inl (tx T))), (q, .inr (2, [.ref t, .ref b])), (t, .inr (0, [.ref ta, .int (nI n8)])), (ta, .inl (cA, 96, .inl f7)), (b, .inr (0, [.ref ba, .int (nI n10)])), (ba, .inl (cB, 96, .inl f9))] := hD
          exact rt_l hx hb hrt hlocks (((f7, nI n8, f9, nI n10), (nI gg, nI gsg, nI kpg, zI plg))) (by rw [hK4, dec_fp (c := (plg + pq - kpg).toNat) (by omega)]) (hP.sub [1, 2, 3, 4, 5, 6, 7, 0] rfl) (hK.sub [0, 1, 2] rfl) (hD.sub [1, 2, 3, 4, 5, 6, 7, 0] (by decide) rfl) hS d_Dec_nearest_118
        · have e77 : ¬ 0 ≤ plg + pq - kpg := fun z => c77 ((zI_le (a := 0) (by omega) (by omega) (by omega) (by omega)).mpr z)
          have hf5 := five_c (c := (-(plg + pq - kpg)).toNat) (by omega)
          refine lv_aload_n hx hb d_Dec_nearest_80 rfl (lv_at hl 2 rfl) ?_
          refine va_get (D := D) (ci := 1) (v := .ref q) (C := R_Dec) (T := F_Dec) (N := 6) hx hb hts w_Dec hown hK hP 1 rfl rfl 1 (by decide) (hts _ kF_Dec_13) (fun _ h9 => h9) rfl d_Dec_nearest_81 ?_
          refine va_get (D := D) (ci := 2) (v := .ref b) (C := R_Fra) (T := F_Fra) (N := 2) hx hb hts w_Fra hown hK hP 3 rfl rfl 1 (by decide) (hts _ kF_Dec_54) (fun _ h9 => h9) rfl d_Dec_nearest_84 ?_
          refine lv_iload hx hb d_Dec_nearest_87 (lv_at hl 0 rfl) ?_
          refine lv_ineg hx hb d_Dec_nearest_89 ?_
          refine tv_i (nI (-(plg + pq - kpg)).toNat) (by rw [zI_neg, ← zI_nI]; exact congrArg zI (by omega)) ?_
          refine ca_v [(nm, .inr (3, [.ref x, .int v1, .int v2, .int v3, .int v4, .int (nI a), .int (nI b0), .int (zI pq)])), (h, .inr (1, [.ref x, .ref q, .int (nI gg), .int (nI gsg), .int (nI kpg), .int (zI plg)])), (x, .inl (cC, 2400, .inl (tx T))), (q, .inr (2, [.ref t, .ref b])), (t, .inr (0, [.ref ta, .int (nI ng)])), (ta, .inl (cA, 96, .inl fg))] (va_runV (As := [.int (nI (-(plg + pq - kpg)).toNat)]) (rest := []) ⟨hx, hb, hml, hown, hts⟩ (c_Big_timesFives l D E b ba cB f1 n2 1 ((-(plg + pq - kpg)).toNat) hB3 (by omega) (hf5.1) H.size) (xV 1 hts kC_Big_timesFives kM_Dec_66 kI_Big_timesFives kS_Big_timesFives kN_Big rfl rfl (by decide +kernel) ⟨Nat.le_of_ble_eq_true rfl, Nat.le_of_ble_eq_true rfl⟩) ⟨ct_blind hev, va_recv hK hP (ci := 0) (q0 := 6) rfl rfl, ct_pre hev hP hK hD hS hA hE [6, 7] rfl (by decide) [2] rfl⟩ rfl rfl hl.1 rfl (lv_room (Nat.le_of_ble_eq_true rfl)) d_Dec_nearest_90 ⟨Nat.le_of_ble_eq_true rfl, Nat.le_of_ble_eq_true rfl⟩) hP hD hS hA [6, 7] [0, 1, 2, 3, 4, 5] rfl rfl (by decide) (by decide) (fun u H locs hw hP hD hS hK1 => ?_)
          obtain ⟨f11, n12⟩ := u
          have hB13 : isB f11 n12 (1 * 5 ^ ((-(plg + pq - kpg)).toNat)) := hw
          have hP : va_P D vcl [(nm, .inr (3, [.ref x, .int v1, .int v2, .int v3, .int v4, .int (nI a), .int (nI b0), .int (zI pq)])), (h, .inr (1, [.ref x, .ref q, .int (nI gg), .int (nI gsg), .int (nI kpg), .int (zI plg)])), (x, .inl (cC, 2400, .inl (tx T))), (q, .inr (2, [.ref t, .ref b])), (t, .inr (0, [.ref ta, .int (nI ng)])), (ta, .inl (cA, 96, .inl fg)), (b, .inr (0, [.ref ba, .int (nI n12)])), (ba, .inl (cB, 96, .inl f11))] H := hP
          have hD : va_D A [(nm, .inr (3, [.ref x, .int v1, .int v2, .int v3, .int v4, .int (nI a), .int (nI b0), .int (zI pq)])), (h, .inr (1, [.ref x, .ref q, .int (nI gg), .int (nI gsg), .int (nI kpg), .int (zI plg)])), (x, .inl (cC, 2400, .inl (tx T))), (q, .inr (2, [.ref t, .ref b])), (t, .inr (0, [.ref ta, .int (nI ng)])), (ta, .inl (cA, 96, .inl fg)), (b, .inr (0, [.ref ba, .int (nI n12)])), (ba, .inl (cB, 96, .inl f11))] := hD
          refine lv_goto (tgt := 108) hx hb d_Dec_nearest_93 (by decide) ?_
          refine lv_aload_n hx hb d_Dec_nearest_108 rfl (lv_at hl 2 rfl) ?_
          refine va_get (D := D) (ci := 1) (v := .ref q) (C := R_Dec) (T := F_Dec) (N := 6) hx hb hts w_Dec hown hK hP 1 rfl rfl 1 (by decide) (hts _ kF_Dec_13) (fun _ h9 => h9) rfl d_Dec_nearest_109 ?_
          refine lv_aload_n hx hb d_Dec_nearest_112 rfl (lv_at hl 4 rfl) ?_
          refine lv_iload hx hb d_Dec_nearest_113 (lv_at hl 0 rfl) ?_
          refine ca_l [(nm, .inr (3, [.ref x, .int v1, .int v2, .int v3, .int v4, .int (nI a), .int (nI b0), .int (zI pq)])), (h, .inr (1, [.ref x, .ref q, .int (nI gg), .int (nI gsg), .int (nI kpg), .int (zI plg)])), (x, .inl (cC, 2400, .inl (tx T)))] (va_runV (As := [.ref (E.1 i), .int (zI (plg + pq - kpg))]) (rest := []) ⟨hx, hb, hml, hown, hts⟩ (c_Fra_nearest l D E i hi q t ta b ba cA cB fg f11 ng n12 Kf (1 * 5 ^ ((-(plg + pq - kpg)).toNat)) (plg + pq - kpg) hBg hB13 (hKf) (hf5.2.2) (bln10 (e := kpg) hL1 (by omega)) (hf5.2.1) (by omega) (by omega) H.size) (xV 2 hts kC_Fra_nearest kM_Dec_73 kI_Fra_nearest kS_Fra_nearest kN_Fra rfl rfl (by decide +kernel) ⟨Nat.le_of_ble_eq_true rfl, Nat.le_of_ble_eq_true rfl⟩) ⟨ct_blind hev, va_recv hK hP (ci := 2) (q0 := 3) rfl rfl, ct_pre hev hP hK hD hS hA hE [3, 4, 5, 6, 7] rfl (by decide) [1, 2] rfl⟩ rfl rfl hl.1 rfl (lv_room (Nat.le_of_ble_eq_true rfl)) d_Dec_nearest_115 ⟨Nat.le_of_ble_eq_true rfl, Nat.le_of_ble_eq_true rfl⟩) hP hD hS hA [3, 4, 5, 6, 7] [0, 1, 2] rfl rfl (by decide) (by decide) (fun r u H locs hw hP hD hS hK1 => ?_)
          obtain ⟨⟨f14, n15⟩, ⟨f16, n17⟩⟩ := u
          subst hw
          have hP : va_P D vcl [(nm, .inr (3, [.ref x, .int v1, .int v2, .int v3, .int v4, .int (nI a), .int (nI b0), .int (zI pq)])), (h, .inr (1, [.ref x, .ref q, .int (nI gg), .int (nI gsg), .int (nI kpg), .int (zI plg)])), (x, .inl (cC, 2400, .inl (tx T))), (q, .inr (2, [.ref t, .ref b])), (t, .inr (0, [.ref ta, .int (nI n15)])), (ta, .inl (cA, 96, .inl f14)), (b, .inr (0, [.ref ba, .int (nI n17)])), (ba, .inl (cB, 96, .inl f16))] H := hP
          have hD : va_D A [(nm, .inr (3, [.ref x, .int v1, .int v2, .int v3, .int v4, .int (nI a), .int (nI b0), .int (zI pq)])), (h, .inr (1, [.ref x, .ref q, .int (nI gg), .int (nI gsg), .int (nI kpg), .int (zI plg)])), (x, .inl (cC, 2400, .inl (tx T))), (q, .inr (2, [.ref t, .ref b])), (t, .inr (0, [.ref ta, .int (nI n15)])), (ta, .inl (cA, 96, .inl f14)), (b, .inr (0, [.ref ba, .int (nI n17)])), (ba, .inl (cB, 96, .inl f16))] := hD
          exact rt_l hx hb hrt hlocks (((f14, nI n15, f16, nI n17), (nI gg, nI gsg, nI kpg, zI plg))) (by rw [hK4, dec_fn (c := (-(plg + pq - kpg)).toNat) (by omega)]) (hP.sub [1, 2, 3, 4, 5, 6, 7, 0] rfl) (hK.sub [0, 1, 2] rfl) (hD.sub [1, 2, 3, 4, 5, 6, 7, 0] (by decide) rfl) hS d_Dec_nearest_118
      · have e48 : ¬ plg + pq ≤ (kHi i : Int) := fun z => c48 ((zI_le (by omega) (by omega) (by omega) (by omega)).mpr z)
        refine lv_aload_n hx hb d_Dec_nearest_51 rfl (lv_at hl 3 rfl) ?_
        refine va_getX hx hb hE.2.2.2.1 (i := i) hi hS hown (hts _ kF_Dec_50) (fun _ h9 => h9) d_Dec_nearest_52 ?_
        refine tv_l (lN (kIN i)) (kf_I i hi) ?_
        exact rt_l hx hb hrt hlocks (((fg, nI ng, g, mv), (nI gg, nI gsg, nI kpg, zI plg))) (by rw [hK4, dec_large (c := kpg - 1) (h1 := kHi i) (N4k i hi) (hK2 (by omega)) (by omega)]; rfl) (hP.sub [3, 4, 5, 6, 7, 0, 1, 2] rfl) (hK.sub [0, 1, 2] rfl) (hD.sub [3, 4, 5, 6, 7, 0, 1, 2] (by decide) rfl) hS d_Dec_nearest_55
    · have e38 : ¬ -(kLo i : Int) ≤ plg + pq := fun z => c38 ((zI_le (by omega) (by omega) (by omega) (by omega)).mpr z)
      refine lv_lconst (v := 0) hx hb d_Dec_nearest_41 (by decide) ?_
      refine tv_l (lN 0) (rfl) ?_
      exact rt_l hx hb hrt hlocks (((fg, nI ng, g, mv), (nI gg, nI gsg, nI kpg, zI plg))) (by rw [hK4, dec_small (c := kpg) (h0 := kLo i + 1) (N3k i hi) hL1 (by omega)]) (hP.sub [3, 4, 5, 6, 7, 0, 1, 2] rfl) (hK.sub [0, 1, 2] rfl) (hD.sub [3, 4, 5, 6, 7, 0, 1, 2] (by decide) rfl) hS d_Dec_nearest_42
end
section
/-! THE TWO WORDS -/
def sCh (j k : Nat) : Nat := ([[78, 97, 78], [73, 110, 102, 105, 110, 105, 116, 121]].getD j []).getD k 0 % 256
theorem sLen_b : ∀ j, j < 2 → sLen.getD j 0 ≤ 8 := by decide
theorem sCh_lt (j k : Nat) : sCh j k < 256 := Nat.mod_lt _ (by decide)
theorem sCh_b : ∀ j, j < 2 → ∀ k, k < sLen.getD j 0 → (((sByt.getD j []).getD k 0 &&& 255).toUInt32 % 65536).toInt32 = nI (sCh j k) := by decide +kernel
theorem d_Pre_checkIndex_0 : decode b_Pre_checkIndex 0 = .ok (.iload_n 0, 1) := by decide +kernel
theorem d_Pre_checkIndex_1 : decode b_Pre_checkIndex 1 = .ok (.ifCond .lt 8, 3) := by decide +kernel
theorem d_Pre_checkIndex_4 : decode b_Pre_checkIndex 4 = .ok (.iload_n 0, 1) := by decide +kernel
theorem d_Pre_checkIndex_5 : decode b_Pre_checkIndex 5 = .ok (.iload_n 1, 1) := by decide +kernel
theorem d_Pre_checkIndex_6 : decode b_Pre_checkIndex 6 = .ok (.if_icmp .lt 10, 3) := by decide +kernel
theorem d_Pre_checkIndex_9 : decode b_Pre_checkIndex 9 = .ok (.aload_n 2, 1) := by decide +kernel
theorem d_Pre_checkIndex_10 : decode b_Pre_checkIndex 10 = .ok (.iload_n 0, 1) := by decide +kernel
theorem d_Pre_checkIndex_11 : decode b_Pre_checkIndex 11 = .ok (.iload_n 1, 1) := by decide +kernel
theorem d_Pre_checkIndex_12 : decode b_Pre_checkIndex 12 = .ok (.invokestatic 95, 3) := by decide +kernel
theorem d_Pre_checkIndex_15 : decode b_Pre_checkIndex 15 = .ok (.athrow, 1) := by decide +kernel
theorem d_Pre_checkIndex_16 : decode b_Pre_checkIndex 16 = .ok (.iload_n 0, 1) := by decide +kernel
theorem d_Pre_checkIndex_17 : decode b_Pre_checkIndex 17 = .ok (.ireturn, 1) := by decide +kernel
theorem d_Str_checkIndex_0 : decode b_Str_checkIndex 0 = .ok (.iload_n 0, 1) := by decide +kernel
theorem d_Str_checkIndex_1 : decode b_Str_checkIndex 1 = .ok (.iload_n 1, 1) := by decide +kernel
theorem d_Str_checkIndex_2 : decode b_Str_checkIndex 2 = .ok (.getstatic 1053, 3) := by decide +kernel
theorem d_Str_checkIndex_5 : decode b_Str_checkIndex 5 = .ok (.invokestatic 1059, 3) := by decide +kernel
theorem d_Str_checkIndex_8 : decode b_Str_checkIndex 8 = .ok (.pop, 1) := by decide +kernel
theorem d_Str_checkIndex_9 : decode b_Str_checkIndex 9 = .ok (.return_, 1) := by decide +kernel
theorem d_Sl1_charAt_0 : decode b_Sl1_charAt 0 = .ok (.iload_n 1, 1) := by decide +kernel
theorem d_Sl1_charAt_1 : decode b_Sl1_charAt 1 = .ok (.aload_n 0, 1) := by decide +kernel
theorem d_Sl1_charAt_2 : decode b_Sl1_charAt 2 = .ok (.arraylength, 1) := by decide +kernel
theorem d_Sl1_charAt_3 : decode b_Sl1_charAt 3 = .ok (.invokestatic 9, 3) := by decide +kernel
theorem d_Sl1_charAt_6 : decode b_Sl1_charAt 6 = .ok (.aload_n 0, 1) := by decide +kernel
theorem d_Sl1_charAt_7 : decode b_Sl1_charAt 7 = .ok (.iload_n 1, 1) := by decide +kernel
theorem d_Sl1_charAt_8 : decode b_Sl1_charAt 8 = .ok (.baload, 1) := by decide +kernel
theorem d_Sl1_charAt_9 : decode b_Sl1_charAt 9 = .ok (.sipush 255, 3) := by decide +kernel
theorem d_Sl1_charAt_12 : decode b_Sl1_charAt 12 = .ok (.iand, 1) := by decide +kernel
theorem d_Sl1_charAt_13 : decode b_Sl1_charAt 13 = .ok (.i2c, 1) := by decide +kernel
theorem d_Sl1_charAt_14 : decode b_Sl1_charAt 14 = .ok (.ireturn, 1) := by decide +kernel
theorem d_Str_coder_0 : decode b_Str_coder 0 = .ok (.getstatic 38, 3) := by decide +kernel
theorem d_Str_coder_3 : decode b_Str_coder 3 = .ok (.ifCond .eq 10, 3) := by decide +kernel
theorem d_Str_coder_6 : decode b_Str_coder 6 = .ok (.aload_n 0, 1) := by decide +kernel
theorem d_Str_coder_7 : decode b_Str_coder 7 = .ok (.getfield 15, 3) := by decide +kernel
theorem d_Str_coder_10 : decode b_Str_coder 10 = .ok (.goto 4, 3) := by decide +kernel
theorem d_Str_coder_13 : decode b_Str_coder 13 = .ok (.iconst 1, 1) := by decide +kernel
theorem d_Str_coder_14 : decode b_Str_coder 14 = .ok (.ireturn, 1) := by decide +kernel
theorem d_Str_isLatin1_0 : decode b_Str_isLatin1 0 = .ok (.getstatic 38, 3) := by decide +kernel
theorem d_Str_isLatin1_3 : decode b_Str_isLatin1 3 = .ok (.ifCond .eq 14, 3) := by decide +kernel
theorem d_Str_isLatin1_6 : decode b_Str_isLatin1 6 = .ok (.aload_n 0, 1) := by decide +kernel
theorem d_Str_isLatin1_7 : decode b_Str_isLatin1 7 = .ok (.getfield 15, 3) := by decide +kernel
theorem d_Str_isLatin1_10 : decode b_Str_isLatin1 10 = .ok (.ifCond .ne 7, 3) := by decide +kernel
theorem d_Str_isLatin1_13 : decode b_Str_isLatin1 13 = .ok (.iconst 1, 1) := by decide +kernel
theorem d_Str_isLatin1_14 : decode b_Str_isLatin1 14 = .ok (.goto 4, 3) := by decide +kernel
theorem d_Str_isLatin1_17 : decode b_Str_isLatin1 17 = .ok (.iconst 0, 1) := by decide +kernel
theorem d_Str_isLatin1_18 : decode b_Str_isLatin1 18 = .ok (.ireturn, 1) := by decide +kernel
theorem d_Str_length_0 : decode b_Str_length 0 = .ok (.aload_n 0, 1) := by decide +kernel
theorem d_Str_length_1 : decode b_Str_length 1 = .ok (.getfield 9, 3) := by decide +kernel
theorem d_Str_length_4 : decode b_Str_length 4 = .ok (.arraylength, 1) := by decide +kernel
theorem d_Str_length_5 : decode b_Str_length 5 = .ok (.aload_n 0, 1) := by decide +kernel
theorem d_Str_length_6 : decode b_Str_length 6 = .ok (.invokevirtual 335, 3) := by decide +kernel
theorem d_Str_length_9 : decode b_Str_length 9 = .ok (.ishr, 1) := by decide +kernel
theorem d_Str_length_10 : decode b_Str_length 10 = .ok (.ireturn, 1) := by decide +kernel
theorem d_Str_charAt_0 : decode b_Str_charAt 0 = .ok (.aload_n 0, 1) := by decide +kernel
theorem d_Str_charAt_1 : decode b_Str_charAt 1 = .ok (.invokevirtual 492, 3) := by decide +kernel
theorem d_Str_charAt_4 : decode b_Str_charAt 4 = .ok (.ifCond .eq 12, 3) := by decide +kernel
theorem d_Str_charAt_7 : decode b_Str_charAt 7 = .ok (.aload_n 0, 1) := by decide +kernel
theorem d_Str_charAt_8 : decode b_Str_charAt 8 = .ok (.getfield 9, 3) := by decide +kernel
theorem d_Str_charAt_11 : decode b_Str_charAt 11 = .ok (.iload_n 1, 1) := by decide +kernel
theorem d_Str_charAt_12 : decode b_Str_charAt 12 = .ok (.invokestatic 495, 3) := by decide +kernel
theorem d_Str_charAt_15 : decode b_Str_charAt 15 = .ok (.ireturn, 1) := by decide +kernel
theorem d_Str_charAt_16 : decode b_Str_charAt 16 = .ok (.aload_n 0, 1) := by decide +kernel
theorem d_Str_charAt_17 : decode b_Str_charAt 17 = .ok (.getfield 9, 3) := by decide +kernel
theorem d_Str_charAt_20 : decode b_Str_charAt 20 = .ok (.iload_n 1, 1) := by decide +kernel
theorem d_Str_charAt_21 : decode b_Str_charAt 21 = .ok (.invokestatic 498, 3) := by decide +kernel
theorem d_Str_charAt_24 : decode b_Str_charAt 24 = .ok (.ireturn, 1) := by decide +kernel
set_option maxHeartbeats 4000000 in
set_option maxRecDepth 100000 in
theorem c_Pre_checkIndexN (l : Launch) (D : va_G) (E : evD) (a b : Nat) (hab : a < b) (hb31 : b < 2147483648) : Ci (S := Unit) l y_Pre_checkIndex (wz y_Pre_checkIndex b_Pre_checkIndex 3 (some .int)) ({ frames := 0, cells := 0, slots := 0, locals := 0 }) D vcl (ev1 E) [.int (nI a), .int (nI b), .null] [] [] 0 0 (fun (_ : Int32) (_ : Unit) => True) (fun _ => []) (fun _ : Unit => []) := by
  have hev := ev1_ok E
  unfold Ci
  refine ct_of (y := y_Pre_checkIndex) (av := [.int (nI a), .int (nI b), .null]) (cc := b_Pre_checkIndex) (maxL := 3) (ret := (some .int)) (Qc := fun A => va_Qi (S := Unit) (fun (_ : Int32) (_ : Unit) => True) (fun u tS => ctB D vcl ((fun _ => []) u) ((fun _ : Unit => []) u) A tS) A) (by decide) rfl (Nat.le_of_ble_eq_true rfl) ?_
  intro p e s m below meth cde ls A H locs hx hb hml hrt hlocks hown hin hts hA hP hK hD hS hE hl
  have hown : s.vm.findClass R_Pre = some m.cls := hown
  have hts := wz_g hts
  have hl : lv_has ls 3 [(0, .int (nI a)), (1, .int (nI b)), (2, .null)] := hl
  refine lv_iload_n hx hb d_Pre_checkIndex_0 rfl (lv_at hl 0 rfl) ?_
  refine lv_if_lt (tgt := 9) hx hb d_Pre_checkIndex_1 (by decide) (fun c1 => ?_) (fun c1 => ?_)
  · exact absurd c1 (nI_pos (by omega))
  · refine lv_iload_n hx hb d_Pre_checkIndex_4 rfl (lv_at hl 0 rfl) ?_
    refine lv_iload_n hx hb d_Pre_checkIndex_5 rfl (lv_at hl 1 rfl) ?_
    refine lv_icmp_lt (tgt := 16) hx hb d_Pre_checkIndex_6 (by decide) (fun c6 => ?_) (fun c6 => ?_)
    · refine lv_iload_n hx hb d_Pre_checkIndex_16 rfl (lv_at hl 0 rfl) ?_
      exact rt_i hx hb hrt hlocks (rfl) (()) (trivial) (hP.sub [] rfl) (hK.sub [] rfl) (hD.sub [] (by decide) rfl) hS d_Pre_checkIndex_17
    · exact absurd (nI_lt hab hb31) c6

set_option maxHeartbeats 4000000 in
set_option maxRecDepth 100000 in
theorem c_Pre_checkIndexR (l : Launch) (D : va_G) (E : evD) (a b : Nat) (hab : a < b) (hb31 : b < 2147483648) (ad : Nat) : Ci (S := Unit) l y_Pre_checkIndex (wz y_Pre_checkIndex b_Pre_checkIndex 3 (some .int)) ({ frames := 0, cells := 0, slots := 0, locals := 0 }) D vcl (ev1 E) [.int (nI a), .int (nI b), .ref ad] [] [] 0 0 (fun (_ : Int32) (_ : Unit) => True) (fun _ => []) (fun _ : Unit => []) := by
  have hev := ev1_ok E
  unfold Ci
  refine ct_of (y := y_Pre_checkIndex) (av := [.int (nI a), .int (nI b), .ref ad]) (cc := b_Pre_checkIndex) (maxL := 3) (ret := (some .int)) (Qc := fun A => va_Qi (S := Unit) (fun (_ : Int32) (_ : Unit) => True) (fun u tS => ctB D vcl ((fun _ => []) u) ((fun _ : Unit => []) u) A tS) A) (by decide) rfl (Nat.le_of_ble_eq_true rfl) ?_
  intro p e s m below meth cde ls A H locs hx hb hml hrt hlocks hown hin hts hA hP hK hD hS hE hl
  have hown : s.vm.findClass R_Pre = some m.cls := hown
  have hts := wz_g hts
  have hl : lv_has ls 3 [(0, .int (nI a)), (1, .int (nI b)), (2, .ref ad)] := hl
  refine lv_iload_n hx hb d_Pre_checkIndex_0 rfl (lv_at hl 0 rfl) ?_
  refine lv_if_lt (tgt := 9) hx hb d_Pre_checkIndex_1 (by decide) (fun c1 => ?_) (fun c1 => ?_)
  · exact absurd c1 (nI_pos (by omega))
  · refine lv_iload_n hx hb d_Pre_checkIndex_4 rfl (lv_at hl 0 rfl) ?_
    refine lv_iload_n hx hb d_Pre_checkIndex_5 rfl (lv_at hl 1 rfl) ?_
    refine lv_icmp_lt (tgt := 16) hx hb d_Pre_checkIndex_6 (by decide) (fun c6 => ?_) (fun c6 => ?_)
    · refine lv_iload_n hx hb d_Pre_checkIndex_16 rfl (lv_at hl 0 rfl) ?_
      exact rt_i hx hb hrt hlocks (rfl) (()) (trivial) (hP.sub [] rfl) (hK.sub [] rfl) (hD.sub [] (by decide) rfl) hS d_Pre_checkIndex_17
    · exact absurd (nI_lt hab hb31) c6

set_option maxHeartbeats 4000000 in
set_option maxRecDepth 100000 in
theorem c_Str_checkIndex (l : Launch) (D : va_G) (E : evD) (a b : Nat) (hab : a < b) (hb31 : b < 2147483648) : Cv (S := Unit) l y_Str_checkIndex (wz y_Str_checkIndex b_Str_checkIndex 2 none) ({ frames := 1, cells := 0, slots := 0, locals := 22 }) D vcl (ev1 E) [.int (nI a), .int (nI b)] [] [] 0 0 (fun _ : Unit => True) (fun _ => []) (fun _ : Unit => []) := by
  have hev := ev1_ok E
  unfold Cv
  refine ct_of (y := y_Str_checkIndex) (av := [.int (nI a), .int (nI b)]) (cc := b_Str_checkIndex) (maxL := 2) (ret := none) (Qc := fun A => va_Qv (S := Unit) (fun _ : Unit => True) (fun u tS => ctB D vcl ((fun _ => []) u) ((fun _ : Unit => []) u) A tS) A) (by decide) rfl (Nat.le_of_ble_eq_true rfl) ?_
  intro p e s m below meth cde ls A H locs hx hb hml hrt hlocks hown hin hts hA hP hK hD hS hE hl
  have hown : s.vm.findClass R_Str = some m.cls := hown
  have hts := wz_g hts
  have hl : lv_has ls 2 [(0, .int (nI a)), (1, .int (nI b))] := hl
  refine lv_iload_n hx hb d_Str_checkIndex_0 rfl (lv_at hl 0 rfl) ?_
  refine lv_iload_n hx hb d_Str_checkIndex_1 rfl (lv_at hl 1 rfl) ?_
  obtain ⟨v, hv, hZ⟩ := hE.2.2.2.2.2.2.2.2
  refine va_gets hx hb hZ hS hown (hts _ kF_Str_1053) (fun _ h9 => h9) d_Str_checkIndex_2 ?_
  rcases hv with rfl | ⟨ad, rfl⟩
  · refine ca_i [] (va_runS (As := [.int (nI a), .int (nI b), .null]) (rest := []) ⟨hx, hb, hml, hown, hts⟩ (c_Pre_checkIndexN l D E a b hab hb31 H.size) (xS 3 hts kC_Pre_checkIndex kM_Str_1059 kT_Pre_checkIndex kN_Pre rfl rfl (by decide +kernel) ⟨Nat.le_of_ble_eq_true rfl, Nat.le_of_ble_eq_true rfl⟩) ⟨ct_blind hev, ct_pre hev hP hK hD hS hA hE [] rfl (by decide) [] rfl⟩ rfl rfl hl.1 rfl (lv_room (Nat.le_of_ble_eq_true rfl)) d_Str_checkIndex_5 ⟨Nat.le_of_ble_eq_true rfl, Nat.le_of_ble_eq_true rfl⟩) hP hD hS hA [] [] rfl rfl (by decide) (by decide) (fun r u H locs hw hP hD hS hK1 => ?_)
    have hP : va_P D vcl [] H := hP
    have hD : va_D A [] := hD
    refine lv_pop hx hb d_Str_checkIndex_8 rfl ?_
    exact rt_v hx hb hrt hlocks (()) (trivial) (hP.sub [] rfl) (hK.sub [] rfl) (hD.sub [] (by decide) rfl) hS d_Str_checkIndex_9
  · refine ca_i [] (va_runS (As := [.int (nI a), .int (nI b), .ref ad]) (rest := []) ⟨hx, hb, hml, hown, hts⟩ (c_Pre_checkIndexR l D E a b hab hb31 ad H.size) (xS 3 hts kC_Pre_checkIndex kM_Str_1059 kT_Pre_checkIndex kN_Pre rfl rfl (by decide +kernel) ⟨Nat.le_of_ble_eq_true rfl, Nat.le_of_ble_eq_true rfl⟩) ⟨ct_blind hev, ct_pre hev hP hK hD hS hA hE [] rfl (by decide) [] rfl⟩ rfl rfl hl.1 rfl (lv_room (Nat.le_of_ble_eq_true rfl)) d_Str_checkIndex_5 ⟨Nat.le_of_ble_eq_true rfl, Nat.le_of_ble_eq_true rfl⟩) hP hD hS hA [] [] rfl rfl (by decide) (by decide) (fun r u H locs hw hP hD hS hK1 => ?_)
    have hP : va_P D vcl [] H := hP
    have hD : va_D A [] := hD
    refine lv_pop hx hb d_Str_checkIndex_8 rfl ?_
    exact rt_v hx hb hrt hlocks (()) (trivial) (hP.sub [] rfl) (hK.sub [] rfl) (hD.sub [] (by decide) rfl) hS d_Str_checkIndex_9

set_option maxHeartbeats 4000000 in
set_option maxRecDepth 100000 in
theorem c_Sl1_charAt (l : Launch) (D : va_G) (E : evD) (j : Nat) (hj : j < 2) (k : Nat) (hk : k < sLen.getD j 0) : Ci (S := Unit) l y_Sl1_charAt (wz y_Sl1_charAt b_Sl1_charAt 2 (some .char)) ({ frames := 2, cells := 0, slots := 0, locals := 43 }) D vcl (ev1 E) [.ref (E.2.2 j), .int (nI k)] [] [] 0 0 (fun (r : Int32) (_ : Unit) => r = nI (sCh j k)) (fun _ => []) (fun _ : Unit => []) := by
  have hev := ev1_ok E
  unfold Ci
  refine ct_of (y := y_Sl1_charAt) (av := [.ref (E.2.2 j), .int (nI k)]) (cc := b_Sl1_charAt) (maxL := 2) (ret := (some .char)) (Qc := fun A => va_Qi (S := Unit) (fun (r : Int32) (_ : Unit) => r = nI (sCh j k)) (fun u tS => ctB D vcl ((fun _ => []) u) ((fun _ : Unit => []) u) A tS) A) (by decide) rfl (Nat.le_of_ble_eq_true rfl) ?_
  intro p e s m below meth cde ls A H locs hx hb hml hrt hlocks hown hin hts hA hP hK hD hS hE hl
  have hown : s.vm.findClass R_Sl1 = some m.cls := hown
  have hts := wz_g hts
  have hl : lv_has ls 2 [(0, .ref (E.2.2 j)), (1, .int (nI k))] := hl
  refine lv_iload_n hx hb d_Sl1_charAt_0 rfl (lv_at hl 1 rfl) ?_
  refine lv_aload_n hx hb d_Sl1_charAt_1 rfl (lv_at hl 0 rfl) ?_
  refine va_tlen hx hb (hE.2.2.2.2.2.2.1.1 j hj).2.2.2 hS (v := nI (sLen.getD j 0)) rfl d_Sl1_charAt_2 ?_
  refine ca_v [] (va_runS (As := [.int (nI k), .int (nI (sLen.getD j 0))]) (rest := []) ⟨hx, hb, hml, hown, hts⟩ (c_Str_checkIndex l D E k (sLen.getD j 0) (hk) (by have := sLen_b j hj; omega) H.size) (xS 2 hts kC_Str_checkIndex kM_Sl1_9 kT_Str_checkIndex kN_Str rfl rfl (by decide +kernel) ⟨Nat.le_of_ble_eq_true rfl, Nat.le_of_ble_eq_true rfl⟩) ⟨ct_blind hev, ct_pre hev hP hK hD hS hA hE [] rfl (by decide) [] rfl⟩ rfl rfl hl.1 rfl (lv_room (Nat.le_of_ble_eq_true rfl)) d_Sl1_charAt_3 ⟨Nat.le_of_ble_eq_true rfl, Nat.le_of_ble_eq_true rfl⟩) hP hD hS hA [] [] rfl rfl (by decide) (by decide) (fun u H locs hw hP hD hS hK1 => ?_)
  have hP : va_P D vcl [] H := hP
  have hD : va_D A [] := hD
  refine lv_aload_n hx hb d_Sl1_charAt_6 rfl (lv_at hl 0 rfl) ?_
  refine lv_iload_n hx hb d_Sl1_charAt_7 rfl (lv_at hl 1 rfl) ?_
  refine va_tb hx hb (hE.2.2.2.2.2.2.1.1 j hj).2.2.2 hS (vp_in_nI hk (by have := sLen_b j hj; omega)) (v := .int ((sByt.getD j []).getD k 0)) (by rw [nI_clamp (by have := sLen_b j hj; omega)]) d_Sl1_charAt_8 ?_
  refine lv_sipush (v := 255) hx hb d_Sl1_charAt_9 (by decide) ?_
  refine lv_iand hx hb d_Sl1_charAt_12 ?_
  refine lv_i2c (v := nI (sCh j k)) hx hb d_Sl1_charAt_13 (sCh_b j hj k hk) ?_
  exact rt_i hx hb hrt hlocks ((pk_charN (by have := sCh_lt j k; omega)).1) (()) (rfl) (hP.sub [] rfl) (hK.sub [] rfl) (hD.sub [] (by decide) rfl) hS d_Sl1_charAt_14

set_option maxHeartbeats 4000000 in
set_option maxRecDepth 100000 in
theorem c_Str_coder (l : Launch) (D : va_G) (E : evD) (j : Nat) (hj : j < 2) : Ci (S := Unit) l y_Str_coder (wz y_Str_coder b_Str_coder 1 (some .byte)) ({ frames := 0, cells := 0, slots := 0, locals := 0 }) D vcl (ev1 E) [.ref (E.2.1 j)] [] [] 0 0 (fun (r : Int32) (_ : Unit) => r = 0) (fun _ => []) (fun _ : Unit => []) := by
  have hev := ev1_ok E
  unfold Ci
  refine ct_of (y := y_Str_coder) (av := [.ref (E.2.1 j)]) (cc := b_Str_coder) (maxL := 1) (ret := (some .byte)) (Qc := fun A => va_Qi (S := Unit) (fun (r : Int32) (_ : Unit) => r = 0) (fun u tS => ctB D vcl ((fun _ => []) u) ((fun _ : Unit => []) u) A tS) A) (by decide) rfl (Nat.le_of_ble_eq_true rfl) ?_
  intro p e s m below meth cde ls A H locs hx hb hml hrt hlocks hown hin hts hA hP hK hD hS hE hl
  have hown : s.vm.findClass R_Str = some m.cls := hown
  have hts := wz_g hts
  have hl : lv_has ls 1 [(0, .ref (E.2.1 j))] := hl
  refine va_gets hx hb hE.2.2.2.2.2.2.2.1 hS hown (hts _ kF_Str_38) (fun _ h9 => h9) d_Str_coder_0 ?_
  refine lv_if_eq (tgt := 13) hx hb d_Str_coder_3 (by decide) (fun c3 => ?_) (fun c3 => ?_)
  · exact absurd c3 (by decide)
  · refine lv_aload_n hx hb d_Str_coder_6 rfl (lv_at hl 0 rfl) ?_
    refine vk_getf hx hb (hE.2.2.2.2.2.2.1.1 j hj).2.1 hS hown (hts _ kF_Str_15) (fun _ h9 => h9) d_Str_coder_7 ?_
    refine lv_goto (tgt := 14) hx hb d_Str_coder_10 (by decide) ?_
    exact rt_i hx hb hrt hlocks (rfl) (()) (rfl) (hP.sub [] rfl) (hK.sub [] rfl) (hD.sub [] (by decide) rfl) hS d_Str_coder_14

set_option maxHeartbeats 4000000 in
set_option maxRecDepth 100000 in
theorem c_Str_isLatin1 (l : Launch) (D : va_G) (E : evD) (j : Nat) (hj : j < 2) : Ci (S := Unit) l y_Str_isLatin1 (wz y_Str_isLatin1 b_Str_isLatin1 1 (some .boolean)) ({ frames := 0, cells := 0, slots := 0, locals := 0 }) D vcl (ev1 E) [.ref (E.2.1 j)] [] [] 0 0 (fun (r : Int32) (_ : Unit) => r = 1) (fun _ => []) (fun _ : Unit => []) := by
  have hev := ev1_ok E
  unfold Ci
  refine ct_of (y := y_Str_isLatin1) (av := [.ref (E.2.1 j)]) (cc := b_Str_isLatin1) (maxL := 1) (ret := (some .boolean)) (Qc := fun A => va_Qi (S := Unit) (fun (r : Int32) (_ : Unit) => r = 1) (fun u tS => ctB D vcl ((fun _ => []) u) ((fun _ : Unit => []) u) A tS) A) (by decide) rfl (Nat.le_of_ble_eq_true rfl) ?_
  intro p e s m below meth cde ls A H locs hx hb hml hrt hlocks hown hin hts hA hP hK hD hS hE hl
  have hown : s.vm.findClass R_Str = some m.cls := hown
  have hts := wz_g hts
  have hl : lv_has ls 1 [(0, .ref (E.2.1 j))] := hl
  refine va_gets hx hb hE.2.2.2.2.2.2.2.1 hS hown (hts _ kF_Str_38) (fun _ h9 => h9) d_Str_isLatin1_0 ?_
  refine lv_if_eq (tgt := 17) hx hb d_Str_isLatin1_3 (by decide) (fun c3 => ?_) (fun c3 => ?_)
  · exact absurd c3 (by decide)
  · refine lv_aload_n hx hb d_Str_isLatin1_6 rfl (lv_at hl 0 rfl) ?_
    refine vk_getf hx hb (hE.2.2.2.2.2.2.1.1 j hj).2.1 hS hown (hts _ kF_Str_15) (fun _ h9 => h9) d_Str_isLatin1_7 ?_
    refine lv_if_ne (tgt := 17) hx hb d_Str_isLatin1_10 (by decide) (fun c10 => ?_) (fun c10 => ?_)
    · exact absurd rfl c10
    · refine lv_iconst (v := 1) hx hb d_Str_isLatin1_13 (by decide) ?_
      refine lv_goto (tgt := 18) hx hb d_Str_isLatin1_14 (by decide) ?_
      exact rt_i hx hb hrt hlocks (rfl) (()) (rfl) (hP.sub [] rfl) (hK.sub [] rfl) (hD.sub [] (by decide) rfl) hS d_Str_isLatin1_18

set_option maxHeartbeats 4000000 in
set_option maxRecDepth 100000 in
theorem c_Str_length (l : Launch) (D : va_G) (E : evD) (j : Nat) (hj : j < 2) : Ci (S := Unit) l y_Str_length (wz y_Str_length b_Str_length 1 (some .int)) ({ frames := 1, cells := 0, slots := 0, locals := 20 }) D vcl (ev1 E) [.ref (E.2.1 j)] [] [] 0 0 (fun (r : Int32) (_ : Unit) => r = nI (sLen.getD j 0)) (fun _ => []) (fun _ : Unit => []) := by
  have hev := ev1_ok E
  unfold Ci
  refine ct_of (y := y_Str_length) (av := [.ref (E.2.1 j)]) (cc := b_Str_length) (maxL := 1) (ret := (some .int)) (Qc := fun A => va_Qi (S := Unit) (fun (r : Int32) (_ : Unit) => r = nI (sLen.getD j 0)) (fun u tS => ctB D vcl ((fun _ => []) u) ((fun _ : Unit => []) u) A tS) A) (by decide) rfl (Nat.le_of_ble_eq_true rfl) ?_
  intro p e s m below meth cde ls A H locs hx hb hml hrt hlocks hown hin hts hA hP hK hD hS hE hl
  have hown : s.vm.findClass R_Str = some m.cls := hown
  have hts := wz_g hts
  have hl : lv_has ls 1 [(0, .ref (E.2.1 j))] := hl
  refine lv_aload_n hx hb d_Str_length_0 rfl (lv_at hl 0 rfl) ?_
  refine vk_getf hx hb (hE.2.2.2.2.2.2.1.1 j hj).2.2.1 hS hown (hts _ kF_Str_9) (fun _ h9 => h9) d_Str_length_1 ?_
  refine va_tlen hx hb (hE.2.2.2.2.2.2.1.1 j hj).2.2.2 hS (v := nI (sLen.getD j 0)) rfl d_Str_length_4 ?_
  refine lv_aload_n hx hb d_Str_length_5 rfl (lv_at hl 0 rfl) ?_
  refine ca_i [] (va_runV (As := []) (rest := [.int (nI (sLen.getD j 0))]) ⟨hx, hb, hml, hown, hts⟩ (c_Str_coder l D E j hj H.size) (xV 0 hts kC_Str_coder kM_Str_335 kI_Str_coder kS_Str_coder kN_Str rfl rfl (by decide +kernel) ⟨Nat.le_of_ble_eq_true rfl, Nat.le_of_ble_eq_true rfl⟩) ⟨ct_blind hev, vk_recv (i := j) hE.2.2.2.2.2.2.1 hj hS, ct_pre hev hP hK hD hS hA hE [] rfl (by decide) [] rfl⟩ rfl rfl hl.1 rfl (lv_room (Nat.le_of_ble_eq_true rfl)) d_Str_length_6 ⟨Nat.le_of_ble_eq_true rfl, Nat.le_of_ble_eq_true rfl⟩) hP hD hS hA [] [] rfl rfl (by decide) (by decide) (fun r u H locs hw hP hD hS hK1 => ?_)
  subst hw
  have hP : va_P D vcl [] H := hP
  have hD : va_D A [] := hD
  refine lv_ishr hx hb d_Str_length_9 ?_
  refine tv_i (nI (sLen.getD j 0)) (sc_shr0 (by have := sLen_b j hj; omega)) ?_
  exact rt_i hx hb hrt hlocks (rfl) (()) (rfl) (hP.sub [] rfl) (hK.sub [] rfl) (hD.sub [] (by decide) rfl) hS d_Str_length_10

set_option maxHeartbeats 4000000 in
set_option maxRecDepth 100000 in
theorem c_Str_charAt (l : Launch) (D : va_G) (E : evD) (j : Nat) (hj : j < 2) (k : Nat) (hk : k < sLen.getD j 0) : Ci (S := Unit) l y_Str_charAt (wz y_Str_charAt b_Str_charAt 2 (some .char)) ({ frames := 3, cells := 0, slots := 0, locals := 64 }) D vcl (ev1 E) [.ref (E.2.1 j), .int (nI k)] [] [] 0 0 (fun (r : Int32) (_ : Unit) => r = nI (sCh j k)) (fun _ => []) (fun _ : Unit => []) := by
  have hev := ev1_ok E
  unfold Ci
  refine ct_of (y := y_Str_charAt) (av := [.ref (E.2.1 j), .int (nI k)]) (cc := b_Str_charAt) (maxL := 2) (ret := (some .char)) (Qc := fun A => va_Qi (S := Unit) (fun (r : Int32) (_ : Unit) => r = nI (sCh j k)) (fun u tS => ctB D vcl ((fun _ => []) u) ((fun _ : Unit => []) u) A tS) A) (by decide) rfl (Nat.le_of_ble_eq_true rfl) ?_
  intro p e s m below meth cde ls A H locs hx hb hml hrt hlocks hown hin hts hA hP hK hD hS hE hl
  have hown : s.vm.findClass R_Str = some m.cls := hown
  have hts := wz_g hts
  have hl : lv_has ls 2 [(0, .ref (E.2.1 j)), (1, .int (nI k))] := hl
  refine lv_aload_n hx hb d_Str_charAt_0 rfl (lv_at hl 0 rfl) ?_
  refine ca_i [] (va_runV (As := []) (rest := []) ⟨hx, hb, hml, hown, hts⟩ (c_Str_isLatin1 l D E j hj H.size) (xV 0 hts kC_Str_isLatin1 kM_Str_492 kI_Str_isLatin1 kS_Str_isLatin1 kN_Str rfl rfl (by decide +kernel) ⟨Nat.le_of_ble_eq_true rfl, Nat.le_of_ble_eq_true rfl⟩) ⟨ct_blind hev, vk_recv (i := j) hE.2.2.2.2.2.2.1 hj hS, ct_pre hev hP hK hD hS hA hE [] rfl (by decide) [] rfl⟩ rfl rfl hl.1 rfl (lv_room (Nat.le_of_ble_eq_true rfl)) d_Str_charAt_1 ⟨Nat.le_of_ble_eq_true rfl, Nat.le_of_ble_eq_true rfl⟩) hP hD hS hA [] [] rfl rfl (by decide) (by decide) (fun r u H locs hw hP hD hS hK1 => ?_)
  subst hw
  have hP : va_P D vcl [] H := hP
  have hD : va_D A [] := hD
  refine lv_if_eq (tgt := 16) hx hb d_Str_charAt_4 (by decide) (fun c4 => ?_) (fun c4 => ?_)
  · exact absurd c4 (by decide)
  · refine lv_aload_n hx hb d_Str_charAt_7 rfl (lv_at hl 0 rfl) ?_
    refine vk_getf hx hb (hE.2.2.2.2.2.2.1.1 j hj).2.2.1 hS hown (hts _ kF_Str_9) (fun _ h9 => h9) d_Str_charAt_8 ?_
    refine lv_iload_n hx hb d_Str_charAt_11 rfl (lv_at hl 1 rfl) ?_
    refine ca_i [] (va_runS (As := [.ref (E.2.2 j), .int (nI k)]) (rest := []) ⟨hx, hb, hml, hown, hts⟩ (c_Sl1_charAt l D E j hj k (hk) H.size) (xS 2 hts kC_Sl1_charAt kM_Str_495 kT_Sl1_charAt kN_Sl1 rfl rfl (by decide +kernel) ⟨Nat.le_of_ble_eq_true rfl, Nat.le_of_ble_eq_true rfl⟩) ⟨ct_blind hev, ct_pre hev hP hK hD hS hA hE [] rfl (by decide) [] rfl⟩ rfl rfl hl.1 rfl (lv_room (Nat.le_of_ble_eq_true rfl)) d_Str_charAt_12 ⟨Nat.le_of_ble_eq_true rfl, Nat.le_of_ble_eq_true rfl⟩) hP hD hS hA [] [] rfl rfl (by decide) (by decide) (fun r u H locs hw hP hD hS hK1 => ?_)
    subst hw
    have hP : va_P D vcl [] H := hP
    have hD : va_D A [] := hD
    exact rt_i hx hb hrt hlocks ((pk_charN (by have := sCh_lt j k; omega)).1) (()) (rfl) (hP.sub [] rfl) (hK.sub [] rfl) (hD.sub [] (by decide) rfl) hS d_Str_charAt_15
end
section
/-! THE TEXT'S PARTS, as numbers -/
def skp (p : Nat → Bool) : Nat → Nat → Nat
  | 0, k => k
  | f + 1, k => if p k then skp p f (k + 1) else k
theorem skp_f {p : Nat → Bool} {k : Nat} (h : p k = false) : ∀ f, skp p f k = k := by
  intro f
  cases f with
  | zero => rfl
  | succ f => show (if p k then _ else _) = _; rw [h]; rfl
/-- from k on, below e, as long as p holds -/
def skP (p : Nat → Bool) (e k : Nat) : Nat := skp p (e - k) k
theorem skP_t {p : Nat → Bool} {e k : Nat} (h1 : k < e) (h2 : p k = true) : skP p e k = skP p e (k + 1) := by
  unfold skP
  rw [show e - k = (e - (k + 1)) + 1 by omega]
  show (if p k then _ else _) = _
  rw [h2]; rfl
theorem skP_f {p : Nat → Bool} {e k : Nat} (h : ¬ (k < e ∧ p k = true)) : skP p e k = k := by
  unfold skP
  rcases Nat.lt_or_ge k e with z | z
  · refine skp_f ?_ _
    cases hp : p k with
    | false => rfl
    | true => exact absurd ⟨z, hp⟩ h
  · rw [show e - k = 0 by omega]; rfl
theorem skP_all (p : Nat → Bool) (e : Nat) : ∀ (f k : Nat), e - k ≤ f → k ≤ skP p e k ∧ (k ≤ e → skP p e k ≤ e) ∧ (∀ j, k ≤ j → j < skP p e k → j < e ∧ p j = true) ∧ ¬ (skP p e k < e ∧ p (skP p e k) = true) := by
  intro f
  induction f with
  | zero =>
    intro k hk
    rw [skP_f (show ¬ (k < e ∧ p k = true) from fun h => by omega)]
    exact ⟨Nat.le_refl _, fun h => h, fun j h1 h2 => absurd h2 (by omega), fun h => by omega⟩
  | succ f ih =>
    intro k hk
    by_cases h : k < e ∧ p k = true
    · rw [skP_t h.1 h.2]
      obtain ⟨a1, a2, a3, a4⟩ := ih (k + 1) (by omega)
      refine ⟨by omega, fun _ => a2 (by omega), fun j h1 h2 => ?_, a4⟩
      by_cases hj : j = k
      · subst hj; exact h
      · exact a3 j (by omega) h2
    · rw [skP_f h]
      exact ⟨Nat.le_refl _, fun h => h, fun j h1 h2 => absurd h2 (by omega), h⟩
/-- behind the digits; behind the blanks -/
def sk (β : Nat) (T : Nat → Nat) (e k : Nat) : Nat := skP (fun j => decide (dg (T j) < β)) e k
def bk (T : Nat → Nat) (e k : Nat) : Nat := skP (fun j => decide (T j ≤ 32)) e k
theorem sk_t {β : Nat} {T : Nat → Nat} {e k : Nat} (h1 : k < e) (h2 : dg (T k) < β) : sk β T e k = sk β T e (k + 1) := skP_t h1 (decide_eq_true h2)
theorem sk_f {β : Nat} {T : Nat → Nat} {e k : Nat} (h : ¬ (k < e ∧ dg (T k) < β)) : sk β T e k = k := skP_f (fun z => h ⟨z.1, of_decide_eq_true z.2⟩)
theorem sk_ge (β : Nat) (T : Nat → Nat) (e k : Nat) : k ≤ sk β T e k := (skP_all _ e (e - k) k (Nat.le_refl _)).1
theorem sk_le {β : Nat} {T : Nat → Nat} {e k : Nat} (h : k ≤ e) : sk β T e k ≤ e := (skP_all _ e (e - k) k (Nat.le_refl _)).2.1 h
theorem sk_in {β : Nat} {T : Nat → Nat} {e k j : Nat} (h1 : k ≤ j) (h2 : j < sk β T e k) : j < e ∧ dg (T j) < β := by
  have := (skP_all _ e (e - k) k (Nat.le_refl _)).2.2.1 j h1 h2
  exact ⟨this.1, of_decide_eq_true this.2⟩
theorem bk_t {T : Nat → Nat} {e k : Nat} (h1 : k < e) (h2 : T k ≤ 32) : bk T e k = bk T e (k + 1) := skP_t h1 (decide_eq_true h2)
theorem bk_f {T : Nat → Nat} {e k : Nat} (h : ¬ (k < e ∧ T k ≤ 32)) : bk T e k = k := skP_f (fun z => h ⟨z.1, of_decide_eq_true z.2⟩)
theorem bk_le {T : Nat → Nat} {e k : Nat} (h : k ≤ e) : bk T e k ≤ e := (skP_all _ e (e - k) k (Nat.le_refl _)).2.1 h
def tE (T : Nat → Nat) : Nat → Nat
  | 0 => 0
  | n + 1 => if T n ≤ 32 then tE T n else n + 1
theorem tE_le (T : Nat → Nat) (n : Nat) : tE T n ≤ n := by
  induction n with
  | zero => exact Nat.le_refl 0
  | succ n ih =>
    show (if T n ≤ 32 then tE T n else n + 1) ≤ n + 1
    split
    · omega
    · exact Nat.le_refl _
theorem tE_t {T : Nat → Nat} {n : Nat} (h0 : 0 < n) (h : T (n - 1) ≤ 32) : tE T n = tE T (n - 1) := by
  obtain ⟨k, rfl⟩ : ∃ k, n = k + 1 := ⟨n - 1, by omega⟩
  rw [Nat.add_sub_cancel] at h ⊢
  show (if _ then _ else _) = _
  rw [if_pos h]
theorem tE_f {T : Nat → Nat} {n : Nat} (h0 : 0 < n) (h : ¬ T (n - 1) ≤ 32) : tE T n = n := by
  obtain ⟨k, rfl⟩ : ∃ k, n = k + 1 := ⟨n - 1, by omega⟩
  rw [Nat.add_sub_cancel] at h
  show (if _ then _ else _) = _
  rw [if_neg h]
/-- the character at k, 0 at the end -/
def lk (T : Nat → Nat) (e k : Nat) : Nat := if k < e then T k else 0
theorem lk_in {T : Nat → Nat} {e k : Nat} (h : k < e) : lk T e k = T k := if_pos h
theorem lk_out {T : Nat → Nat} {e k : Nat} (h : ¬ k < e) : lk T e k = 0 := if_neg h
theorem lk_lt {T : Nat → Nat} {e k c : Nat} (h : lk T e k = c) (hc : c ≠ 0) : k < e := by
  rcases Nat.lt_or_ge k e with z | z
  · exact z
  · rw [lk_out (by omega)] at h; exact absurd h.symm hc
theorem lk_b {T : Nat → Nat} (hT : ∀ j, T j < 256) (e k : Nat) : lk T e k < 256 := by
  unfold lk; split
  · exact hT k
  · decide
/-- 0x -/
def pxB (T : Nat → Nat) (e a : Nat) : Bool := decide (2 ≤ e - a ∧ T a = 48 ∧ (T (a + 1) = 120 ∨ T (a + 1) = 88))
def pxA (T : Nat → Nat) (e a : Nat) : Nat := if pxB T e a then a + 2 else a
/-- a word is all the rest -/
def wdB (T : Nat → Nat) (e a j : Nat) : Bool := decide (e - a = sLen.getD j 0 ∧ ∀ k, k < sLen.getD j 0 → T (a + k) = sCh j k)
/-- where the digits end, how many they are -/
def dE (β : Nat) (T : Nat → Nat) (e a : Nat) : Nat := if lk T e (sk β T e a) = 46 then sk β T e (sk β T e a + 1) else sk β T e a
def dN (β : Nat) (T : Nat → Nat) (e a : Nat) : Nat := if lk T e (sk β T e a) = 46 then sk β T e a - a + (sk β T e (sk β T e a + 1) - (sk β T e a + 1)) else sk β T e a - a
theorem dE_le {β : Nat} {T : Nat → Nat} {e a : Nat} (h : a ≤ e) : a ≤ dE β T e a ∧ dE β T e a ≤ e := by
  have h1 := sk_ge β T e a
  have h2 : sk β T e a ≤ e := sk_le h
  unfold dE
  split
  · rename_i hp
    have h3 := lk_lt hp (by decide)
    have h4 := sk_ge β T e (sk β T e a + 1)
    have h5 : sk β T e (sk β T e a + 1) ≤ e := sk_le (by omega)
    omega
  · omega
/-- the power: its mark, its sign, its digits -/
def xv (T : Nat → Nat) (s : Nat) : Nat → Nat
  | 0 => 0
  | n + 1 => xv T s n * 10 + dg (T (s + n))
def mkB (hx : Bool) (T : Nat → Nat) (e a : Nat) : Bool := if hx then decide (lk T e a = 112 ∨ lk T e a = 80) else decide (lk T e a = 101 ∨ lk T e a = 69)
def ngB (T : Nat → Nat) (e a : Nat) : Bool := decide (lk T e (a + 1) = 45)
def pS (T : Nat → Nat) (e a : Nat) : Nat := if lk T e (a + 1) = 45 ∨ lk T e (a + 1) = 43 then a + 2 else a + 1
def pX (T : Nat → Nat) (e a : Nat) : Nat := sk 10 T e (pS T e a)
def pE (T : Nat → Nat) (e a : Nat) : Nat := xv T (pS T e a) (pX T e a - pS T e a)
def pAt (hx : Bool) (T : Nat → Nat) (e a : Nat) : Nat := if mkB hx T e a then pX T e a else a
def pOk (hx : Bool) (T : Nat → Nat) (e a : Nat) : Bool := if mkB hx T e a then decide (pS T e a < pX T e a) else !hx
def pPw (M : Nat) (hx : Bool) (T : Nat → Nat) (e a : Nat) : Int := if mkB hx T e a then (if ngB T e a then -((min (pE T e a) M : Nat) : Int) else ((min (pE T e a) M : Nat) : Int)) else 0
theorem mk_lt {hx : Bool} {T : Nat → Nat} {e a : Nat} (h : mkB hx T e a = true) : a < e := by
  unfold mkB at h
  cases hx with
  | true => rcases of_decide_eq_true h with z | z <;> exact lk_lt z (by decide)
  | false => rcases of_decide_eq_true h with z | z <;> exact lk_lt z (by decide)
theorem pS_le {T : Nat → Nat} {e a : Nat} (h : a < e) : pS T e a ≤ e ∧ a < pS T e a := by
  unfold pS
  split
  · rename_i hp
    have : a + 1 < e := by rcases hp with z | z <;> exact lk_lt z (by decide)
    omega
  · omega
theorem pAt_le {hx : Bool} {T : Nat → Nat} {e a : Nat} (h : a ≤ e) : a ≤ pAt hx T e a ∧ pAt hx T e a ≤ e := by
  unfold pAt
  cases hm : mkB hx T e a with
  | false => exact ⟨Nat.le_refl _, h⟩
  | true =>
    have h1 := pS_le (T := T) (mk_lt hm)
    have h2 := sk_ge 10 T e (pS T e a)
    have h3 : sk 10 T e (pS T e a) ≤ e := sk_le h1.1
    show a ≤ pX T e a ∧ pX T e a ≤ e
    unfold pX
    omega
theorem min_st (E M d : Nat) : min (min E M * 10 + d) M = min (E * 10 + d) M := by
  rcases Nat.le_total E M with h | h
  · rw [Nat.min_eq_left h]
  · rw [Nat.min_eq_right h]
    rw [Nat.min_eq_right (by omega), Nat.min_eq_right (by omega)]
/-- a suffix; the whole literal -/
def sfB (T : Nat → Nat) (e a : Nat) : Bool := decide ((lk T e a = 102 ∨ lk T e a = 70) ∨ (lk T e a = 100 ∨ lk T e a = 68))
def bas (hx : Bool) : Nat := if hx then 16 else 10
def lD (T : Nat → Nat) (e a : Nat) : Nat := dE (bas (pxB T e a)) T e (pxA T e a)
def lX (T : Nat → Nat) (e a : Nat) : Nat := pAt (pxB T e a) T e (lD T e a)
def litB (T : Nat → Nat) (e a : Nat) : Bool := decide (0 < dN (bas (pxB T e a)) T e (pxA T e a)) && (pOk (pxB T e a) T e (lD T e a) && decide ((if sfB T e (lX T e a) then lX T e a + 1 else lX T e a) = e))
theorem pxA_le {T : Nat → Nat} {e a : Nat} (h : a ≤ e) : a ≤ pxA T e a ∧ pxA T e a ≤ e := by
  unfold pxA
  cases hp : pxB T e a with
  | false => exact ⟨Nat.le_refl _, h⟩
  | true =>
    have := (of_decide_eq_true hp).1
    show a ≤ a + 2 ∧ a + 2 ≤ e
    omega
/-- the whole text: what is left of it, its sign, whether it is a NUMERAL -/
def xE (T : Nat → Nat) (n : Nat) : Nat := tE T n
def xA (T : Nat → Nat) (n : Nat) : Nat := bk T (tE T n) 0
def xM (T : Nat → Nat) (n : Nat) : Bool := decide (lk T (xE T n) (xA T n) = 45)
def xP (T : Nat → Nat) (n : Nat) : Nat := if lk T (xE T n) (xA T n) = 45 ∨ lk T (xE T n) (xA T n) = 43 then xA T n + 1 else xA T n
theorem xA_le (T : Nat → Nat) (n : Nat) : xA T n ≤ xE T n := bk_le (Nat.zero_le _)
theorem xP_le (T : Nat → Nat) (n : Nat) : xP T n ≤ xE T n := by
  unfold xP
  split
  · rename_i hp
    have : xA T n < xE T n := by rcases hp with z | z <;> exact lk_lt z (by decide)
    omega
  · exact xA_le T n
/-- 1: NaN, 2: Infinity, 3 and 4: a literal, 0: none -/
def xF (T : Nat → Nat) (n : Nat) : Nat := if wdB T (xE T n) (xP T n) 0 then 1 else if wdB T (xE T n) (xP T n) 1 then 2 else if litB T (xE T n) (xP T n) then (if pxB T (xE T n) (xP T n) then 4 else 3) else 0
end
section
theorem dg_le (c : Nat) : dg c ≤ 16 := by unfold dg; split <;> (try split) <;> (try split) <;> omega
theorem d_Num_init_0 : decode b_Num_init 0 = .ok (.aload_n 0, 1) := by decide +kernel
theorem d_Num_init_1 : decode b_Num_init 1 = .ok (.invokespecial 1, 3) := by decide +kernel
theorem d_Num_init_4 : decode b_Num_init 4 = .ok (.aload_n 0, 1) := by decide +kernel
theorem d_Num_init_5 : decode b_Num_init 5 = .ok (.aload_n 1, 1) := by decide +kernel
theorem d_Num_init_6 : decode b_Num_init 6 = .ok (.putfield 7, 3) := by decide +kernel
theorem d_Num_init_9 : decode b_Num_init 9 = .ok (.return_, 1) := by decide +kernel
theorem d_Num_here_0 : decode b_Num_here 0 = .ok (.aload_n 0, 1) := by decide +kernel
theorem d_Num_here_1 : decode b_Num_here 1 = .ok (.getfield 25, 3) := by decide +kernel
theorem d_Num_here_4 : decode b_Num_here 4 = .ok (.aload_n 0, 1) := by decide +kernel
theorem d_Num_here_5 : decode b_Num_here 5 = .ok (.getfield 50, 3) := by decide +kernel
theorem d_Num_here_8 : decode b_Num_here 8 = .ok (.if_icmp .ge 15, 3) := by decide +kernel
theorem d_Num_here_11 : decode b_Num_here 11 = .ok (.aload_n 0, 1) := by decide +kernel
theorem d_Num_here_12 : decode b_Num_here 12 = .ok (.getfield 7, 3) := by decide +kernel
theorem d_Num_here_15 : decode b_Num_here 15 = .ok (.aload_n 0, 1) := by decide +kernel
theorem d_Num_here_16 : decode b_Num_here 16 = .ok (.getfield 25, 3) := by decide +kernel
theorem d_Num_here_19 : decode b_Num_here 19 = .ok (.caload, 1) := by decide +kernel
theorem d_Num_here_20 : decode b_Num_here 20 = .ok (.goto 4, 3) := by decide +kernel
theorem d_Num_here_23 : decode b_Num_here 23 = .ok (.iconst 0, 1) := by decide +kernel
theorem d_Num_here_24 : decode b_Num_here 24 = .ok (.ireturn, 1) := by decide +kernel
theorem d_Num_isHere_0 : decode b_Num_isHere 0 = .ok (.aload_n 0, 1) := by decide +kernel
theorem d_Num_isHere_1 : decode b_Num_isHere 1 = .ok (.invokevirtual 17, 3) := by decide +kernel
theorem d_Num_isHere_4 : decode b_Num_isHere 4 = .ok (.iload_n 1, 1) := by decide +kernel
theorem d_Num_isHere_5 : decode b_Num_isHere 5 = .ok (.if_icmp .eq 11, 3) := by decide +kernel
theorem d_Num_isHere_8 : decode b_Num_isHere 8 = .ok (.aload_n 0, 1) := by decide +kernel
theorem d_Num_isHere_9 : decode b_Num_isHere 9 = .ok (.invokevirtual 17, 3) := by decide +kernel
theorem d_Num_isHere_12 : decode b_Num_isHere 12 = .ok (.iload_n 2, 1) := by decide +kernel
theorem d_Num_isHere_13 : decode b_Num_isHere 13 = .ok (.if_icmp .ne 7, 3) := by decide +kernel
theorem d_Num_isHere_16 : decode b_Num_isHere 16 = .ok (.iconst 1, 1) := by decide +kernel
theorem d_Num_isHere_17 : decode b_Num_isHere 17 = .ok (.goto 4, 3) := by decide +kernel
theorem d_Num_isHere_20 : decode b_Num_isHere 20 = .ok (.iconst 0, 1) := by decide +kernel
theorem d_Num_isHere_21 : decode b_Num_isHere 21 = .ok (.ireturn, 1) := by decide +kernel
theorem d_Num_trim_0 : decode b_Num_trim 0 = .ok (.aload_n 0, 1) := by decide +kernel
theorem d_Num_trim_1 : decode b_Num_trim 1 = .ok (.iconst 0, 1) := by decide +kernel
theorem d_Num_trim_2 : decode b_Num_trim 2 = .ok (.putfield 25, 3) := by decide +kernel
theorem d_Num_trim_5 : decode b_Num_trim 5 = .ok (.aload_n 0, 1) := by decide +kernel
theorem d_Num_trim_6 : decode b_Num_trim 6 = .ok (.iload_n 1, 1) := by decide +kernel
theorem d_Num_trim_7 : decode b_Num_trim 7 = .ok (.aload_n 0, 1) := by decide +kernel
theorem d_Num_trim_8 : decode b_Num_trim 8 = .ok (.getfield 7, 3) := by decide +kernel
theorem d_Num_trim_11 : decode b_Num_trim 11 = .ok (.arraylength, 1) := by decide +kernel
theorem d_Num_trim_12 : decode b_Num_trim 12 = .ok (.invokestatic 44, 3) := by decide +kernel
theorem d_Num_trim_15 : decode b_Num_trim 15 = .ok (.putfield 50, 3) := by decide +kernel
theorem d_Num_trim_18 : decode b_Num_trim 18 = .ok (.aload_n 0, 1) := by decide +kernel
theorem d_Num_trim_19 : decode b_Num_trim 19 = .ok (.getfield 50, 3) := by decide +kernel
theorem d_Num_trim_22 : decode b_Num_trim 22 = .ok (.ifCond .le 32, 3) := by decide +kernel
theorem d_Num_trim_25 : decode b_Num_trim 25 = .ok (.aload_n 0, 1) := by decide +kernel
theorem d_Num_trim_26 : decode b_Num_trim 26 = .ok (.getfield 7, 3) := by decide +kernel
theorem d_Num_trim_29 : decode b_Num_trim 29 = .ok (.aload_n 0, 1) := by decide +kernel
theorem d_Num_trim_30 : decode b_Num_trim 30 = .ok (.getfield 50, 3) := by decide +kernel
theorem d_Num_trim_33 : decode b_Num_trim 33 = .ok (.iconst 1, 1) := by decide +kernel
theorem d_Num_trim_34 : decode b_Num_trim 34 = .ok (.isub, 1) := by decide +kernel
theorem d_Num_trim_35 : decode b_Num_trim 35 = .ok (.caload, 1) := by decide +kernel
theorem d_Num_trim_36 : decode b_Num_trim 36 = .ok (.bipush 32, 2) := by decide +kernel
theorem d_Num_trim_38 : decode b_Num_trim 38 = .ok (.if_icmp .gt 16, 3) := by decide +kernel
theorem d_Num_trim_41 : decode b_Num_trim 41 = .ok (.aload_n 0, 1) := by decide +kernel
theorem d_Num_trim_42 : decode b_Num_trim 42 = .ok (.dup, 1) := by decide +kernel
theorem d_Num_trim_43 : decode b_Num_trim 43 = .ok (.getfield 50, 3) := by decide +kernel
theorem d_Num_trim_46 : decode b_Num_trim 46 = .ok (.iconst 1, 1) := by decide +kernel
theorem d_Num_trim_47 : decode b_Num_trim 47 = .ok (.isub, 1) := by decide +kernel
theorem d_Num_trim_48 : decode b_Num_trim 48 = .ok (.putfield 50, 3) := by decide +kernel
theorem d_Num_trim_51 : decode b_Num_trim 51 = .ok (.goto (-33), 3) := by decide +kernel
theorem d_Num_trim_54 : decode b_Num_trim 54 = .ok (.aload_n 0, 1) := by decide +kernel
theorem d_Num_trim_55 : decode b_Num_trim 55 = .ok (.getfield 25, 3) := by decide +kernel
theorem d_Num_trim_58 : decode b_Num_trim 58 = .ok (.aload_n 0, 1) := by decide +kernel
theorem d_Num_trim_59 : decode b_Num_trim 59 = .ok (.getfield 50, 3) := by decide +kernel
theorem d_Num_trim_62 : decode b_Num_trim 62 = .ok (.if_icmp .ge 30, 3) := by decide +kernel
theorem d_Num_trim_65 : decode b_Num_trim 65 = .ok (.aload_n 0, 1) := by decide +kernel
theorem d_Num_trim_66 : decode b_Num_trim 66 = .ok (.getfield 7, 3) := by decide +kernel
theorem d_Num_trim_69 : decode b_Num_trim 69 = .ok (.aload_n 0, 1) := by decide +kernel
theorem d_Num_trim_70 : decode b_Num_trim 70 = .ok (.getfield 25, 3) := by decide +kernel
theorem d_Num_trim_73 : decode b_Num_trim 73 = .ok (.caload, 1) := by decide +kernel
theorem d_Num_trim_74 : decode b_Num_trim 74 = .ok (.bipush 32, 2) := by decide +kernel
theorem d_Num_trim_76 : decode b_Num_trim 76 = .ok (.if_icmp .gt 16, 3) := by decide +kernel
theorem d_Num_trim_79 : decode b_Num_trim 79 = .ok (.aload_n 0, 1) := by decide +kernel
theorem d_Num_trim_80 : decode b_Num_trim 80 = .ok (.dup, 1) := by decide +kernel
theorem d_Num_trim_81 : decode b_Num_trim 81 = .ok (.getfield 25, 3) := by decide +kernel
theorem d_Num_trim_84 : decode b_Num_trim 84 = .ok (.iconst 1, 1) := by decide +kernel
theorem d_Num_trim_85 : decode b_Num_trim 85 = .ok (.iadd, 1) := by decide +kernel
theorem d_Num_trim_86 : decode b_Num_trim 86 = .ok (.putfield 25, 3) := by decide +kernel
theorem d_Num_trim_89 : decode b_Num_trim 89 = .ok (.goto (-35), 3) := by decide +kernel
theorem d_Num_trim_92 : decode b_Num_trim 92 = .ok (.return_, 1) := by decide +kernel
theorem d_Num_skipDigits_0 : decode b_Num_skipDigits 0 = .ok (.aload_n 0, 1) := by decide +kernel
theorem d_Num_skipDigits_1 : decode b_Num_skipDigits 1 = .ok (.getfield 25, 3) := by decide +kernel
theorem d_Num_skipDigits_4 : decode b_Num_skipDigits 4 = .ok (.istore_n 2, 1) := by decide +kernel
theorem d_Num_skipDigits_5 : decode b_Num_skipDigits 5 = .ok (.aload_n 0, 1) := by decide +kernel
theorem d_Num_skipDigits_6 : decode b_Num_skipDigits 6 = .ok (.getfield 25, 3) := by decide +kernel
theorem d_Num_skipDigits_9 : decode b_Num_skipDigits 9 = .ok (.aload_n 0, 1) := by decide +kernel
theorem d_Num_skipDigits_10 : decode b_Num_skipDigits 10 = .ok (.getfield 50, 3) := by decide +kernel
theorem d_Num_skipDigits_13 : decode b_Num_skipDigits 13 = .ok (.if_icmp .ge 32, 3) := by decide +kernel
theorem d_Num_skipDigits_16 : decode b_Num_skipDigits 16 = .ok (.aload_n 0, 1) := by decide +kernel
theorem d_Num_skipDigits_17 : decode b_Num_skipDigits 17 = .ok (.getfield 7, 3) := by decide +kernel
theorem d_Num_skipDigits_20 : decode b_Num_skipDigits 20 = .ok (.aload_n 0, 1) := by decide +kernel
theorem d_Num_skipDigits_21 : decode b_Num_skipDigits 21 = .ok (.getfield 25, 3) := by decide +kernel
theorem d_Num_skipDigits_24 : decode b_Num_skipDigits 24 = .ok (.caload, 1) := by decide +kernel
theorem d_Num_skipDigits_25 : decode b_Num_skipDigits 25 = .ok (.invokestatic 87, 3) := by decide +kernel
theorem d_Num_skipDigits_28 : decode b_Num_skipDigits 28 = .ok (.iload_n 1, 1) := by decide +kernel
theorem d_Num_skipDigits_29 : decode b_Num_skipDigits 29 = .ok (.if_icmp .ge 16, 3) := by decide +kernel
theorem d_Num_skipDigits_32 : decode b_Num_skipDigits 32 = .ok (.aload_n 0, 1) := by decide +kernel
theorem d_Num_skipDigits_33 : decode b_Num_skipDigits 33 = .ok (.dup, 1) := by decide +kernel
theorem d_Num_skipDigits_34 : decode b_Num_skipDigits 34 = .ok (.getfield 25, 3) := by decide +kernel
theorem d_Num_skipDigits_37 : decode b_Num_skipDigits 37 = .ok (.iconst 1, 1) := by decide +kernel
theorem d_Num_skipDigits_38 : decode b_Num_skipDigits 38 = .ok (.iadd, 1) := by decide +kernel
theorem d_Num_skipDigits_39 : decode b_Num_skipDigits 39 = .ok (.putfield 25, 3) := by decide +kernel
theorem d_Num_skipDigits_42 : decode b_Num_skipDigits 42 = .ok (.goto (-37), 3) := by decide +kernel
theorem d_Num_skipDigits_45 : decode b_Num_skipDigits 45 = .ok (.aload_n 0, 1) := by decide +kernel
theorem d_Num_skipDigits_46 : decode b_Num_skipDigits 46 = .ok (.getfield 25, 3) := by decide +kernel
theorem d_Num_skipDigits_49 : decode b_Num_skipDigits 49 = .ok (.iload_n 2, 1) := by decide +kernel
theorem d_Num_skipDigits_50 : decode b_Num_skipDigits 50 = .ok (.isub, 1) := by decide +kernel
theorem d_Num_skipDigits_51 : decode b_Num_skipDigits 51 = .ok (.ireturn, 1) := by decide +kernel
theorem d_Num_skipPrefix_0 : decode b_Num_skipPrefix 0 = .ok (.aload_n 0, 1) := by decide +kernel
theorem d_Num_skipPrefix_1 : decode b_Num_skipPrefix 1 = .ok (.getfield 50, 3) := by decide +kernel
theorem d_Num_skipPrefix_4 : decode b_Num_skipPrefix 4 = .ok (.aload_n 0, 1) := by decide +kernel
theorem d_Num_skipPrefix_5 : decode b_Num_skipPrefix 5 = .ok (.getfield 25, 3) := by decide +kernel
theorem d_Num_skipPrefix_8 : decode b_Num_skipPrefix 8 = .ok (.isub, 1) := by decide +kernel
theorem d_Num_skipPrefix_9 : decode b_Num_skipPrefix 9 = .ok (.iconst 2, 1) := by decide +kernel
theorem d_Num_skipPrefix_10 : decode b_Num_skipPrefix 10 = .ok (.if_icmp .lt 49, 3) := by decide +kernel
theorem d_Num_skipPrefix_13 : decode b_Num_skipPrefix 13 = .ok (.aload_n 0, 1) := by decide +kernel
theorem d_Num_skipPrefix_14 : decode b_Num_skipPrefix 14 = .ok (.getfield 7, 3) := by decide +kernel
theorem d_Num_skipPrefix_17 : decode b_Num_skipPrefix 17 = .ok (.aload_n 0, 1) := by decide +kernel
theorem d_Num_skipPrefix_18 : decode b_Num_skipPrefix 18 = .ok (.getfield 25, 3) := by decide +kernel
theorem d_Num_skipPrefix_21 : decode b_Num_skipPrefix 21 = .ok (.caload, 1) := by decide +kernel
theorem d_Num_skipPrefix_22 : decode b_Num_skipPrefix 22 = .ok (.bipush 48, 2) := by decide +kernel
theorem d_Num_skipPrefix_24 : decode b_Num_skipPrefix 24 = .ok (.if_icmp .ne 35, 3) := by decide +kernel
theorem d_Num_skipPrefix_27 : decode b_Num_skipPrefix 27 = .ok (.aload_n 0, 1) := by decide +kernel
theorem d_Num_skipPrefix_28 : decode b_Num_skipPrefix 28 = .ok (.getfield 7, 3) := by decide +kernel
theorem d_Num_skipPrefix_31 : decode b_Num_skipPrefix 31 = .ok (.aload_n 0, 1) := by decide +kernel
theorem d_Num_skipPrefix_32 : decode b_Num_skipPrefix 32 = .ok (.getfield 25, 3) := by decide +kernel
theorem d_Num_skipPrefix_35 : decode b_Num_skipPrefix 35 = .ok (.iconst 1, 1) := by decide +kernel
theorem d_Num_skipPrefix_36 : decode b_Num_skipPrefix 36 = .ok (.iadd, 1) := by decide +kernel
theorem d_Num_skipPrefix_37 : decode b_Num_skipPrefix 37 = .ok (.caload, 1) := by decide +kernel
theorem d_Num_skipPrefix_38 : decode b_Num_skipPrefix 38 = .ok (.bipush 120, 2) := by decide +kernel
theorem d_Num_skipPrefix_40 : decode b_Num_skipPrefix 40 = .ok (.if_icmp .eq 21, 3) := by decide +kernel
theorem d_Num_skipPrefix_43 : decode b_Num_skipPrefix 43 = .ok (.aload_n 0, 1) := by decide +kernel
theorem d_Num_skipPrefix_44 : decode b_Num_skipPrefix 44 = .ok (.getfield 7, 3) := by decide +kernel
theorem d_Num_skipPrefix_47 : decode b_Num_skipPrefix 47 = .ok (.aload_n 0, 1) := by decide +kernel
theorem d_Num_skipPrefix_48 : decode b_Num_skipPrefix 48 = .ok (.getfield 25, 3) := by decide +kernel
theorem d_Num_skipPrefix_51 : decode b_Num_skipPrefix 51 = .ok (.iconst 1, 1) := by decide +kernel
theorem d_Num_skipPrefix_52 : decode b_Num_skipPrefix 52 = .ok (.iadd, 1) := by decide +kernel
theorem d_Num_skipPrefix_53 : decode b_Num_skipPrefix 53 = .ok (.caload, 1) := by decide +kernel
theorem d_Num_skipPrefix_54 : decode b_Num_skipPrefix 54 = .ok (.bipush 88, 2) := by decide +kernel
theorem d_Num_skipPrefix_56 : decode b_Num_skipPrefix 56 = .ok (.if_icmp .eq 5, 3) := by decide +kernel
theorem d_Num_skipPrefix_59 : decode b_Num_skipPrefix 59 = .ok (.iconst 0, 1) := by decide +kernel
theorem d_Num_skipPrefix_60 : decode b_Num_skipPrefix 60 = .ok (.ireturn, 1) := by decide +kernel
theorem d_Num_skipPrefix_61 : decode b_Num_skipPrefix 61 = .ok (.aload_n 0, 1) := by decide +kernel
theorem d_Num_skipPrefix_62 : decode b_Num_skipPrefix 62 = .ok (.dup, 1) := by decide +kernel
theorem d_Num_skipPrefix_63 : decode b_Num_skipPrefix 63 = .ok (.getfield 25, 3) := by decide +kernel
theorem d_Num_skipPrefix_66 : decode b_Num_skipPrefix 66 = .ok (.iconst 2, 1) := by decide +kernel
theorem d_Num_skipPrefix_67 : decode b_Num_skipPrefix 67 = .ok (.iadd, 1) := by decide +kernel
theorem d_Num_skipPrefix_68 : decode b_Num_skipPrefix 68 = .ok (.putfield 25, 3) := by decide +kernel
theorem d_Num_skipPrefix_71 : decode b_Num_skipPrefix 71 = .ok (.iconst 1, 1) := by decide +kernel
theorem d_Num_skipPrefix_72 : decode b_Num_skipPrefix 72 = .ok (.ireturn, 1) := by decide +kernel
theorem d_Num_isRest_0 : decode b_Num_isRest 0 = .ok (.aload_n 0, 1) := by decide +kernel
theorem d_Num_isRest_1 : decode b_Num_isRest 1 = .ok (.getfield 50, 3) := by decide +kernel
theorem d_Num_isRest_4 : decode b_Num_isRest 4 = .ok (.aload_n 0, 1) := by decide +kernel
theorem d_Num_isRest_5 : decode b_Num_isRest 5 = .ok (.getfield 25, 3) := by decide +kernel
theorem d_Num_isRest_8 : decode b_Num_isRest 8 = .ok (.isub, 1) := by decide +kernel
theorem d_Num_isRest_9 : decode b_Num_isRest 9 = .ok (.aload_n 1, 1) := by decide +kernel
theorem d_Num_isRest_10 : decode b_Num_isRest 10 = .ok (.invokevirtual 53, 3) := by decide +kernel
theorem d_Num_isRest_13 : decode b_Num_isRest 13 = .ok (.if_icmp .eq 5, 3) := by decide +kernel
theorem d_Num_isRest_16 : decode b_Num_isRest 16 = .ok (.iconst 0, 1) := by decide +kernel
theorem d_Num_isRest_17 : decode b_Num_isRest 17 = .ok (.ireturn, 1) := by decide +kernel
theorem d_Num_isRest_18 : decode b_Num_isRest 18 = .ok (.iconst 0, 1) := by decide +kernel
theorem d_Num_isRest_19 : decode b_Num_isRest 19 = .ok (.istore_n 2, 1) := by decide +kernel
theorem d_Num_isRest_20 : decode b_Num_isRest 20 = .ok (.iload_n 2, 1) := by decide +kernel
theorem d_Num_isRest_21 : decode b_Num_isRest 21 = .ok (.aload_n 1, 1) := by decide +kernel
theorem d_Num_isRest_22 : decode b_Num_isRest 22 = .ok (.invokevirtual 53, 3) := by decide +kernel
theorem d_Num_isRest_25 : decode b_Num_isRest 25 = .ok (.if_icmp .ge 30, 3) := by decide +kernel
theorem d_Num_isRest_28 : decode b_Num_isRest 28 = .ok (.aload_n 0, 1) := by decide +kernel
theorem d_Num_isRest_29 : decode b_Num_isRest 29 = .ok (.getfield 7, 3) := by decide +kernel
theorem d_Num_isRest_32 : decode b_Num_isRest 32 = .ok (.aload_n 0, 1) := by decide +kernel
theorem d_Num_isRest_33 : decode b_Num_isRest 33 = .ok (.getfield 25, 3) := by decide +kernel
theorem d_Num_isRest_36 : decode b_Num_isRest 36 = .ok (.iload_n 2, 1) := by decide +kernel
theorem d_Num_isRest_37 : decode b_Num_isRest 37 = .ok (.iadd, 1) := by decide +kernel
theorem d_Num_isRest_38 : decode b_Num_isRest 38 = .ok (.caload, 1) := by decide +kernel
theorem d_Num_isRest_39 : decode b_Num_isRest 39 = .ok (.aload_n 1, 1) := by decide +kernel
theorem d_Num_isRest_40 : decode b_Num_isRest 40 = .ok (.iload_n 2, 1) := by decide +kernel
theorem d_Num_isRest_41 : decode b_Num_isRest 41 = .ok (.invokevirtual 59, 3) := by decide +kernel
theorem d_Num_isRest_44 : decode b_Num_isRest 44 = .ok (.if_icmp .eq 5, 3) := by decide +kernel
theorem d_Num_isRest_47 : decode b_Num_isRest 47 = .ok (.iconst 0, 1) := by decide +kernel
theorem d_Num_isRest_48 : decode b_Num_isRest 48 = .ok (.ireturn, 1) := by decide +kernel
theorem d_Num_isRest_49 : decode b_Num_isRest 49 = .ok (.iinc 2 1, 3) := by decide +kernel
theorem d_Num_isRest_52 : decode b_Num_isRest 52 = .ok (.goto (-32), 3) := by decide +kernel
theorem d_Num_isRest_55 : decode b_Num_isRest 55 = .ok (.iconst 1, 1) := by decide +kernel
theorem d_Num_isRest_56 : decode b_Num_isRest 56 = .ok (.ireturn, 1) := by decide +kernel
theorem d_Num_findDigits_0 : decode b_Num_findDigits 0 = .ok (.aload_n 0, 1) := by decide +kernel
theorem d_Num_findDigits_1 : decode b_Num_findDigits 1 = .ok (.aload_n 0, 1) := by decide +kernel
theorem d_Num_findDigits_2 : decode b_Num_findDigits 2 = .ok (.getfield 25, 3) := by decide +kernel
theorem d_Num_findDigits_5 : decode b_Num_findDigits 5 = .ok (.putfield 77, 3) := by decide +kernel
theorem d_Num_findDigits_8 : decode b_Num_findDigits 8 = .ok (.aload_n 0, 1) := by decide +kernel
theorem d_Num_findDigits_9 : decode b_Num_findDigits 9 = .ok (.iload_n 1, 1) := by decide +kernel
theorem d_Num_findDigits_10 : decode b_Num_findDigits 10 = .ok (.invokevirtual 80, 3) := by decide +kernel
theorem d_Num_findDigits_13 : decode b_Num_findDigits 13 = .ok (.istore_n 2, 1) := by decide +kernel
theorem d_Num_findDigits_14 : decode b_Num_findDigits 14 = .ok (.aload_n 0, 1) := by decide +kernel
theorem d_Num_findDigits_15 : decode b_Num_findDigits 15 = .ok (.invokevirtual 17, 3) := by decide +kernel
theorem d_Num_findDigits_18 : decode b_Num_findDigits 18 = .ok (.bipush 46, 2) := by decide +kernel
theorem d_Num_findDigits_20 : decode b_Num_findDigits 20 = .ok (.if_icmp .ne 21, 3) := by decide +kernel
theorem d_Num_findDigits_23 : decode b_Num_findDigits 23 = .ok (.aload_n 0, 1) := by decide +kernel
theorem d_Num_findDigits_24 : decode b_Num_findDigits 24 = .ok (.dup, 1) := by decide +kernel
theorem d_Num_findDigits_25 : decode b_Num_findDigits 25 = .ok (.getfield 25, 3) := by decide +kernel
theorem d_Num_findDigits_28 : decode b_Num_findDigits 28 = .ok (.iconst 1, 1) := by decide +kernel
theorem d_Num_findDigits_29 : decode b_Num_findDigits 29 = .ok (.iadd, 1) := by decide +kernel
theorem d_Num_findDigits_30 : decode b_Num_findDigits 30 = .ok (.putfield 25, 3) := by decide +kernel
theorem d_Num_findDigits_33 : decode b_Num_findDigits 33 = .ok (.iload_n 2, 1) := by decide +kernel
theorem d_Num_findDigits_34 : decode b_Num_findDigits 34 = .ok (.aload_n 0, 1) := by decide +kernel
theorem d_Num_findDigits_35 : decode b_Num_findDigits 35 = .ok (.iload_n 1, 1) := by decide +kernel
theorem d_Num_findDigits_36 : decode b_Num_findDigits 36 = .ok (.invokevirtual 80, 3) := by decide +kernel
theorem d_Num_findDigits_39 : decode b_Num_findDigits 39 = .ok (.iadd, 1) := by decide +kernel
theorem d_Num_findDigits_40 : decode b_Num_findDigits 40 = .ok (.istore_n 2, 1) := by decide +kernel
theorem d_Num_findDigits_41 : decode b_Num_findDigits 41 = .ok (.aload_n 0, 1) := by decide +kernel
theorem d_Num_findDigits_42 : decode b_Num_findDigits 42 = .ok (.aload_n 0, 1) := by decide +kernel
theorem d_Num_findDigits_43 : decode b_Num_findDigits 43 = .ok (.getfield 25, 3) := by decide +kernel
theorem d_Num_findDigits_46 : decode b_Num_findDigits 46 = .ok (.putfield 84, 3) := by decide +kernel
theorem d_Num_findDigits_49 : decode b_Num_findDigits 49 = .ok (.iload_n 2, 1) := by decide +kernel
theorem d_Num_findDigits_50 : decode b_Num_findDigits 50 = .ok (.ifCond .le 7, 3) := by decide +kernel
theorem d_Num_findDigits_53 : decode b_Num_findDigits 53 = .ok (.iconst 1, 1) := by decide +kernel
theorem d_Num_findDigits_54 : decode b_Num_findDigits 54 = .ok (.goto 4, 3) := by decide +kernel
theorem d_Num_findDigits_57 : decode b_Num_findDigits 57 = .ok (.iconst 0, 1) := by decide +kernel
theorem d_Num_findDigits_58 : decode b_Num_findDigits 58 = .ok (.ireturn, 1) := by decide +kernel
set_option maxHeartbeats 4000000 in
set_option maxRecDepth 100000 in
theorem c_Num_here (l : Launch) (D : va_G) (E : evD) (nm x : Nat) (cC : ClassId) (T : Nat → Nat) (hT : ∀ j, T j < 256) (mi fo fr to po : Int32) (a e : Nat) (hae : a ≤ e) (he : e ≤ 2400) : Ci (S := Unit) l y_Num_here (wz y_Num_here b_Num_here 1 (some .char)) ({ frames := 0, cells := 0, slots := 0, locals := 0 }) D vcl (ev1 E) [.ref nm] [(cC, .char)] [(nm, .inr (3, [.ref x, .int (nI a), .int (nI e), .int mi, .int fo, .int fr, .int to, .int po])), (x, .inl (cC, 2400, .inl (tx T)))] 0 0 (fun (r : Int32) (_ : Unit) => r = nI (lk T e a)) (fun _ => [(cC, .char)]) (fun _ : Unit => [(nm, .inr (3, [.ref x, .int (nI a), .int (nI e), .int mi, .int fo, .int fr, .int to, .int po])), (x, .inl (cC, 2400, .inl (tx T)))]) := by
  have hev := ev1_ok E
  unfold Ci
  refine ct_of (y := y_Num_here) (av := [.ref nm]) (cc := b_Num_here) (maxL := 1) (ret := (some .char)) (Qc := fun A => va_Qi (S := Unit) (fun (r : Int32) (_ : Unit) => r = nI (lk T e a)) (fun u tS => ctB D vcl ((fun _ => [(cC, .char)]) u) ((fun _ : Unit => [(nm, .inr (3, [.ref x, .int (nI a), .int (nI e), .int mi, .int fo, .int fr, .int to, .int po])), (x, .inl (cC, 2400, .inl (tx T)))]) u) A tS) A) (by decide) rfl (Nat.le_of_ble_eq_true rfl) ?_
  intro p ee s m below meth cde ls A H locs hx hb hml hrt hlocks hown hin hts hA hP hK hD hS hE hl
  have hown : s.vm.findClass R_Num = some m.cls := hown
  have hts := wz_g hts
  have hl : lv_has ls 1 [(0, .ref nm)] := hl
  refine lv_aload_n hx hb d_Num_here_0 rfl (lv_at hl 0 rfl) ?_
  refine va_get (D := D) (ci := 3) (v := .int (nI a)) (C := R_Num) (T := F_Num) (N := 8) hx hb hts w_Num hown hK hP 0 rfl rfl 1 (by decide) (hts _ kF_Num_25) (fun _ h9 => h9) rfl d_Num_here_1 ?_
  refine lv_aload_n hx hb d_Num_here_4 rfl (lv_at hl 0 rfl) ?_
  refine va_get (D := D) (ci := 3) (v := .int (nI e)) (C := R_Num) (T := F_Num) (N := 8) hx hb hts w_Num hown hK hP 0 rfl rfl 2 (by decide) (hts _ kF_Num_50) (fun _ h9 => h9) rfl d_Num_here_5 ?_
  refine lv_icmp_ge (tgt := 23) hx hb d_Num_here_8 (by decide) (fun c8 => ?_) (fun c8 => ?_)
  · have e8 : e ≤ a := (nI_leI (by omega) (by omega)).mp c8
    refine lv_iconst (v := 0) hx hb d_Num_here_23 (by decide) ?_
    refine tv_i (nI 0) (rfl) ?_
    exact rt_i hx hb hrt hlocks ((pk_charN (by decide)).1) (()) (by rw [lk_out (by omega)]) (hP.sub [0, 1] rfl) (hK.sub [0] rfl) (hD.sub [0, 1] (by decide) rfl) hS d_Num_here_24
  · have e8 : a < e := Nat.lt_of_not_le (fun z => c8 ((nI_leI (by omega) (by omega)).mpr z))
    refine lv_aload_n hx hb d_Num_here_11 rfl (lv_at hl 0 rfl) ?_
    refine va_get (D := D) (ci := 3) (v := .ref x) (C := R_Num) (T := F_Num) (N := 8) hx hb hts w_Num hown hK hP 0 rfl rfl 0 (by decide) (hts _ kF_Num_7) (fun _ h9 => h9) rfl d_Num_here_12 ?_
    refine lv_aload_n hx hb d_Num_here_15 rfl (lv_at hl 0 rfl) ?_
    refine va_get (D := D) (ci := 3) (v := .int (nI a)) (C := R_Num) (T := F_Num) (N := 8) hx hb hts w_Num hown hK hP 0 rfl rfl 1 (by decide) (hts _ kF_Num_25) (fun _ h9 => h9) rfl d_Num_here_16 ?_
    refine va_cald hx hb hK hP 1 0 rfl rfl (i := nI a) (vp_in_nI (show a < 2400 by omega) (by decide)) d_Num_here_19 ?_
    refine tv_i (nI (T (a))) (by rw [nI_clamp (by omega)]; rfl) ?_
    refine lv_goto (tgt := 24) hx hb d_Num_here_20 (by decide) ?_
    exact rt_i hx hb hrt hlocks ((pk_charN (by have := hT a; omega)).1) (()) (by rw [lk_in e8]) (hP.sub [0, 1] rfl) (hK.sub [0] rfl) (hD.sub [0, 1] (by decide) rfl) hS d_Num_here_24

set_option maxHeartbeats 4000000 in
set_option maxRecDepth 100000 in
theorem c_Num_isHere (l : Launch) (D : va_G) (E : evD) (nm x : Nat) (cC : ClassId) (T : Nat → Nat) (hT : ∀ j, T j < 256) (mi fo fr to po : Int32) (a e : Nat) (hae : a ≤ e) (he : e ≤ 2400) (k1 k2 : Nat) (hk1 : k1 < 256) (hk2 : k2 < 256) : Ci (S := Unit) l y_Num_isHere (wz y_Num_isHere b_Num_isHere 3 (some .boolean)) ({ frames := 1, cells := 0, slots := 0, locals := 20 }) D vcl (ev1 E) [.ref nm, .int (nI k1), .int (nI k2)] [(cC, .char)] [(nm, .inr (3, [.ref x, .int (nI a), .int (nI e), .int mi, .int fo, .int fr, .int to, .int po])), (x, .inl (cC, 2400, .inl (tx T)))] 0 0 (fun (r : Int32) (_ : Unit) => r = bI (decide (lk T e a = k1 ∨ lk T e a = k2))) (fun _ => [(cC, .char)]) (fun _ : Unit => [(nm, .inr (3, [.ref x, .int (nI a), .int (nI e), .int mi, .int fo, .int fr, .int to, .int po])), (x, .inl (cC, 2400, .inl (tx T)))]) := by
  have hev := ev1_ok E
  unfold Ci
  refine ct_of (y := y_Num_isHere) (av := [.ref nm, .int (nI k1), .int (nI k2)]) (cc := b_Num_isHere) (maxL := 3) (ret := (some .boolean)) (Qc := fun A => va_Qi (S := Unit) (fun (r : Int32) (_ : Unit) => r = bI (decide (lk T e a = k1 ∨ lk T e a = k2))) (fun u tS => ctB D vcl ((fun _ => [(cC, .char)]) u) ((fun _ : Unit => [(nm, .inr (3, [.ref x, .int (nI a), .int (nI e), .int mi, .int fo, .int fr, .int to, .int po])), (x, .inl (cC, 2400, .inl (tx T)))]) u) A tS) A) (by decide) rfl (Nat.le_of_ble_eq_true rfl) ?_
  intro p ee s m below meth cde ls A H locs hx hb hml hrt hlocks hown hin hts hA hP hK hD hS hE hl
  have hown : s.vm.findClass R_Num = some m.cls := hown
  have hts := wz_g hts
  have hl : lv_has ls 3 [(0, .ref nm), (1, .int (nI k1)), (2, .int (nI k2))] := hl
  have hlb := lk_b hT e a
  refine lv_aload_n hx hb d_Num_isHere_0 rfl (lv_at hl 0 rfl) ?_
  refine ca_i [] (va_runV (As := []) (rest := []) ⟨hx, hb, hml, hown, hts⟩ (c_Num_here l D E nm x cC T hT mi fo fr to po a e (hae) (he) H.size) (xV 0 hts kC_Num_here kM_Num_17 kI_Num_here kS_Num_here kN_Num rfl rfl (by decide +kernel) ⟨Nat.le_of_ble_eq_true rfl, Nat.le_of_ble_eq_true rfl⟩) ⟨ct_blind hev, va_recv hK hP (ci := 3) (q0 := 0) rfl rfl, ct_pre hev hP hK hD hS hA hE [0, 1] rfl (by decide) [0] rfl⟩ rfl rfl hl.1 rfl (lv_room (Nat.le_of_ble_eq_true rfl)) d_Num_isHere_1 ⟨Nat.le_of_ble_eq_true rfl, Nat.le_of_ble_eq_true rfl⟩) hP hD hS hA [0, 1] [] rfl rfl (by decide) (by decide) (fun r u H locs hw hP hD hS hK1 => ?_)
  subst hw
  have hP : va_P D vcl [(nm, .inr (3, [.ref x, .int (nI a), .int (nI e), .int mi, .int fo, .int fr, .int to, .int po])), (x, .inl (cC, 2400, .inl (tx T)))] H := hP
  have hD : va_D A [(nm, .inr (3, [.ref x, .int (nI a), .int (nI e), .int mi, .int fo, .int fr, .int to, .int po])), (x, .inl (cC, 2400, .inl (tx T)))] := hD
  refine lv_iload_n hx hb d_Num_isHere_4 rfl (lv_at hl 1 rfl) ?_
  refine lv_icmp_eq (tgt := 16) hx hb d_Num_isHere_5 (by decide) (fun c5 => ?_) (fun c5 => ?_)
  · have e5 : lk T e a = k1 := (nI_eq (by omega) (by omega)).mp c5
    refine lv_iconst (v := 1) hx hb d_Num_isHere_16 (by decide) ?_
    refine lv_goto (tgt := 21) hx hb d_Num_isHere_17 (by decide) ?_
    exact rt_i hx hb hrt hlocks (rfl) (()) (by rw [decide_eq_true (Or.inl e5)]; rfl) (hP.sub [0, 1] rfl) (hK.sub [0] rfl) (hD.sub [0, 1] (by decide) rfl) hS d_Num_isHere_21
  · have e5 : ¬ lk T e a = k1 := fun z => c5 (by rw [z])
    refine lv_aload_n hx hb d_Num_isHere_8 rfl (lv_at hl 0 rfl) ?_
    refine ca_i [] (va_runV (As := []) (rest := []) ⟨hx, hb, hml, hown, hts⟩ (c_Num_here l D E nm x cC T hT mi fo fr to po a e (hae) (he) H.size) (xV 0 hts kC_Num_here kM_Num_17 kI_Num_here kS_Num_here kN_Num rfl rfl (by decide +kernel) ⟨Nat.le_of_ble_eq_true rfl, Nat.le_of_ble_eq_true rfl⟩) ⟨ct_blind hev, va_recv hK hP (ci := 3) (q0 := 0) rfl rfl, ct_pre hev hP hK hD hS hA hE [0, 1] rfl (by decide) [0] rfl⟩ rfl rfl hl.1 rfl (lv_room (Nat.le_of_ble_eq_true rfl)) d_Num_isHere_9 ⟨Nat.le_of_ble_eq_true rfl, Nat.le_of_ble_eq_true rfl⟩) hP hD hS hA [0, 1] [] rfl rfl (by decide) (by decide) (fun r u H locs hw hP hD hS hK1 => ?_)
    subst hw
    have hP : va_P D vcl [(nm, .inr (3, [.ref x, .int (nI a), .int (nI e), .int mi, .int fo, .int fr, .int to, .int po])), (x, .inl (cC, 2400, .inl (tx T)))] H := hP
    have hD : va_D A [(nm, .inr (3, [.ref x, .int (nI a), .int (nI e), .int mi, .int fo, .int fr, .int to, .int po])), (x, .inl (cC, 2400, .inl (tx T)))] := hD
    refine lv_iload_n hx hb d_Num_isHere_12 rfl (lv_at hl 2 rfl) ?_
    refine lv_icmp_ne (tgt := 20) hx hb d_Num_isHere_13 (by decide) (fun c13 => ?_) (fun c13 => ?_)
    · have e13 : ¬ lk T e a = k2 := fun z => c13 (by rw [z])
      refine lv_iconst (v := 0) hx hb d_Num_isHere_20 (by decide) ?_
      exact rt_i hx hb hrt hlocks (rfl) (()) (by rw [decide_eq_false (fun z => z.elim e5 e13)]; rfl) (hP.sub [0, 1] rfl) (hK.sub [0] rfl) (hD.sub [0, 1] (by decide) rfl) hS d_Num_isHere_21
    · have e13 : lk T e a = k2 := (nI_eq (by omega) (by omega)).mp c13
      refine lv_iconst (v := 1) hx hb d_Num_isHere_16 (by decide) ?_
      refine lv_goto (tgt := 21) hx hb d_Num_isHere_17 (by decide) ?_
      exact rt_i hx hb hrt hlocks (rfl) (()) (by rw [decide_eq_true (Or.inr e13)]; rfl) (hP.sub [0, 1] rfl) (hK.sub [0] rfl) (hD.sub [0, 1] (by decide) rfl) hS d_Num_isHere_21

set_option maxHeartbeats 4000000 in
set_option maxRecDepth 100000 in
theorem c_Num_trim (l : Launch) (D : va_G) (E : evD) (nm x : Nat) (cC : ClassId) (T : Nat → Nat) (hT : ∀ j, T j < 256) (mi fo fr to po : Int32) (v1 v2 : Int32) (n : Nat) (hn : n ≤ 2400) : Cv (S := Unit) l y_Num_trim (wz y_Num_trim b_Num_trim 2 none) ({ frames := 1, cells := 0, slots := 0, locals := 21 }) D vcl (ev1 E) [.ref nm, .int (nI n)] [(cC, .char)] [(nm, .inr (3, [.ref x, .int v1, .int v2, .int mi, .int fo, .int fr, .int to, .int po])), (x, .inl (cC, 2400, .inl (tx T)))] 0 0 (fun _ : Unit => True) (fun _ => [(cC, .char)]) (fun _ : Unit => [(nm, .inr (3, [.ref x, .int (nI (bk T (tE T n) 0)), .int (nI (tE T n)), .int mi, .int fo, .int fr, .int to, .int po])), (x, .inl (cC, 2400, .inl (tx T)))]) := by
  have hev := ev1_ok E
  unfold Cv
  refine ct_of (y := y_Num_trim) (av := [.ref nm, .int (nI n)]) (cc := b_Num_trim) (maxL := 2) (ret := none) (Qc := fun A => va_Qv (S := Unit) (fun _ : Unit => True) (fun u tS => ctB D vcl ((fun _ => [(cC, .char)]) u) ((fun _ : Unit => [(nm, .inr (3, [.ref x, .int (nI (bk T (tE T n) 0)), .int (nI (tE T n)), .int mi, .int fo, .int fr, .int to, .int po])), (x, .inl (cC, 2400, .inl (tx T)))]) u) A tS) A) (by decide) rfl (Nat.le_of_ble_eq_true rfl) ?_
  intro p ee s m below meth cde ls A H locs hx hb hml hrt hlocks hown hin hts hA hP hK hD hS hE hl
  have hown : s.vm.findClass R_Num = some m.cls := hown
  have hts := wz_g hts
  have hl : lv_has ls 2 [(0, .ref nm), (1, .int (nI n))] := hl
  refine lv_aload_n hx hb d_Num_trim_0 rfl (lv_at hl 0 rfl) ?_
  refine lv_iconst (v := 0) hx hb d_Num_trim_1 (by decide) ?_
  refine tv_i (nI 0) (rfl) ?_
  refine va_put (D := D) (ci := 3) (v := .int (nI 0)) (ty := .int) (C := R_Num) (T := F_Num) (N := 8) hx hb hts w_Num t_Num tk_Num n_Num hown hK hP hD hS 0 rfl rfl 1 (by decide) (hts _ kF_Num_25) (fun _ h9 => h9) rfl (by decide +kernel) (rfl) (rfl) (Nat.le_of_ble_eq_true rfl) d_Num_trim_2 (fun H locs hP hD hS => ?_)
  have hP : va_P D vcl [(nm, .inr (3, [.ref x, .int (nI 0), .int v2, .int mi, .int fo, .int fr, .int to, .int po])), (x, .inl (cC, 2400, .inl (tx T)))] H := hP
  have hD : va_D A [(nm, .inr (3, [.ref x, .int (nI 0), .int v2, .int mi, .int fo, .int fr, .int to, .int po])), (x, .inl (cC, 2400, .inl (tx T)))] := hD
  refine lv_aload_n hx hb d_Num_trim_5 rfl (lv_at hl 0 rfl) ?_
  refine lv_iload_n hx hb d_Num_trim_6 rfl (lv_at hl 1 rfl) ?_
  refine lv_aload_n hx hb d_Num_trim_7 rfl (lv_at hl 0 rfl) ?_
  refine va_get (D := D) (ci := 3) (v := .ref x) (C := R_Num) (T := F_Num) (N := 8) hx hb hts w_Num hown hK hP 0 rfl rfl 0 (by decide) (hts _ kF_Num_7) (fun _ h9 => h9) rfl d_Num_trim_8 ?_
  refine va_alen hx hb hK hP 1 0 rfl rfl (v := 2400) rfl d_Num_trim_11 ?_
  refine va_mmin hx hb (by rw [hml]; exact hl.1.symm) hown (hts _ kM_Num_44) (hts _ kT_mmin) (hts _ kN_Math) (hts _ kC_mmin) (Nat.le_of_ble_eq_true rfl) (Nat.le_of_ble_eq_true rfl) (Nat.le_of_ble_eq_true rfl) (Nat.le_of_ble_eq_true rfl) d_Num_trim_12 ?_
  refine tv_i (nI n) (if_neg (fun z => absurd ((nI_ltI (a := 2400) (by decide) (by omega)).mp z) (by omega))) ?_
  refine va_put (D := D) (ci := 3) (v := .int (nI n)) (ty := .int) (C := R_Num) (T := F_Num) (N := 8) hx hb hts w_Num t_Num tk_Num n_Num hown hK hP hD hS 0 rfl rfl 2 (by decide) (hts _ kF_Num_50) (fun _ h9 => h9) rfl (by decide +kernel) (rfl) (rfl) (Nat.le_of_ble_eq_true rfl) d_Num_trim_15 (fun H locs hP hD hS => ?_)
  have hP : va_P D vcl [(nm, .inr (3, [.ref x, .int (nI 0), .int (nI n), .int mi, .int fo, .int fr, .int to, .int po])), (x, .inl (cC, 2400, .inl (tx T)))] H := hP
  have hD : va_D A [(nm, .inr (3, [.ref x, .int (nI 0), .int (nI n), .int mi, .int fo, .int fr, .int to, .int po])), (x, .inl (cC, 2400, .inl (tx T)))] := hD
  have L54 : ∀ (kk : Nat) (k : Nat) (e : Nat), e - k < kk → (k ≤ e) → (e = tE T n) → (bk T e k = bk T e 0) → ∀ (H : Heap) (locs : List Loc) (ls : Array Slot), va_P D vcl [(nm, .inr (3, [.ref x, .int (nI k), .int (nI e), .int mi, .int fo, .int fr, .int to, .int po])), (x, .inl (cC, 2400, .inl (tx T)))] H → va_D A [(nm, .inr (3, [.ref x, .int (nI k), .int (nI e), .int mi, .int fo, .int fr, .int to, .int po])), (x, .inl (cC, 2400, .inl (tx T)))] → va_S A s.heap H locs → lv_has ls 2 [(0, .ref nm)] → W p l ee ({ frames := 1, cells := 0, slots := 0, locals := 21 }) s m ([.ref nm, .int (nI n)] : List Value).toArray below meth cde H locs 0 0 (MQ below (va_Qv (S := Unit) (fun _ : Unit => True) (fun u tS => ctB D vcl ((fun _ => [(cC, .char)]) u) ((fun _ : Unit => [(nm, .inr (3, [.ref x, .int (nI (bk T (tE T n) 0)), .int (nI (tE T n)), .int mi, .int fo, .int fr, .int to, .int po])), (x, .inl (cC, 2400, .inl (tx T)))]) u) A tS) A) ([.ref nm, .int (nI n)] : List Value).toArray s 0 0 A) (F0 m 54 ls []) := by
    intro kk
    induction kk with
    | zero => intro k e hmz; exact absurd hmz (Nat.not_lt_zero _)
    | succ kk ih =>
      intro k e hmz hke he hv H locs ls hP hD hS hl
      have he24 : e ≤ 2400 := by have := tE_le T n; omega
      refine lv_aload_n hx hb d_Num_trim_54 rfl (lv_at hl 0 rfl) ?_
      refine va_get (D := D) (ci := 3) (v := .int (nI k)) (C := R_Num) (T := F_Num) (N := 8) hx hb hts w_Num hown hK hP 0 rfl rfl 1 (by decide) (hts _ kF_Num_25) (fun _ h9 => h9) rfl d_Num_trim_55 ?_
      refine lv_aload_n hx hb d_Num_trim_58 rfl (lv_at hl 0 rfl) ?_
      refine va_get (D := D) (ci := 3) (v := .int (nI e)) (C := R_Num) (T := F_Num) (N := 8) hx hb hts w_Num hown hK hP 0 rfl rfl 2 (by decide) (hts _ kF_Num_50) (fun _ h9 => h9) rfl d_Num_trim_59 ?_
      refine lv_icmp_ge (tgt := 92) hx hb d_Num_trim_62 (by decide) (fun c62 => ?_) (fun c62 => ?_)
      · have e62 : e ≤ k := (nI_leI (by omega) (by omega)).mp c62
        have hkb : k = bk T (tE T n) 0 := by rw [← he, ← hv]; exact (bk_f (fun z => absurd z.1 (by omega))).symm
        rw [hkb, he] at hP hD
        exact rt_v hx hb hrt hlocks (()) (trivial) (hP.sub [0, 1] rfl) (hK.sub [0] rfl) (hD.sub [0, 1] (by decide) rfl) hS d_Num_trim_92
      · have e62 : k < e := Nat.lt_of_not_le (fun z => c62 ((nI_leI (by omega) (by omega)).mpr z))
        refine lv_aload_n hx hb d_Num_trim_65 rfl (lv_at hl 0 rfl) ?_
        refine va_get (D := D) (ci := 3) (v := .ref x) (C := R_Num) (T := F_Num) (N := 8) hx hb hts w_Num hown hK hP 0 rfl rfl 0 (by decide) (hts _ kF_Num_7) (fun _ h9 => h9) rfl d_Num_trim_66 ?_
        refine lv_aload_n hx hb d_Num_trim_69 rfl (lv_at hl 0 rfl) ?_
        refine va_get (D := D) (ci := 3) (v := .int (nI k)) (C := R_Num) (T := F_Num) (N := 8) hx hb hts w_Num hown hK hP 0 rfl rfl 1 (by decide) (hts _ kF_Num_25) (fun _ h9 => h9) rfl d_Num_trim_70 ?_
        refine va_cald hx hb hK hP 1 0 rfl rfl (i := nI k) (vp_in_nI (show k < 2400 by omega) (by decide)) d_Num_trim_73 ?_
        refine tv_i (nI (T (k))) (by rw [nI_clamp (by omega)]; rfl) ?_
        refine lv_bipush (v := 32) hx hb d_Num_trim_74 (by decide) ?_
        refine lv_icmp_gt (tgt := 92) hx hb d_Num_trim_76 (by decide) (fun c76 => ?_) (fun c76 => ?_)
        · have e76 : ¬ T k ≤ 32 := Nat.not_le.mpr ((nI_ltI (a := 32) (by decide) (by have := hT k; omega)).mp c76)
          have hkb : k = bk T (tE T n) 0 := by rw [← he, ← hv]; exact (bk_f (fun z => e76 z.2)).symm
          rw [hkb, he] at hP hD
          exact rt_v hx hb hrt hlocks (()) (trivial) (hP.sub [0, 1] rfl) (hK.sub [0] rfl) (hD.sub [0, 1] (by decide) rfl) hS d_Num_trim_92
        · have e76 : T k ≤ 32 := Nat.le_of_not_lt (fun z => c76 ((nI_ltI (a := 32) (by decide) (by have := hT k; omega)).mpr z))
          refine lv_aload_n hx hb d_Num_trim_79 rfl (lv_at hl 0 rfl) ?_
          refine lv_dup hx hb d_Num_trim_80 rfl ?_
          refine va_get (D := D) (ci := 3) (v := .int (nI k)) (C := R_Num) (T := F_Num) (N := 8) hx hb hts w_Num hown hK hP 0 rfl rfl 1 (by decide) (hts _ kF_Num_25) (fun _ h9 => h9) rfl d_Num_trim_81 ?_
          refine lv_iconst (v := 1) hx hb d_Num_trim_84 (by decide) ?_
          refine lv_iadd hx hb d_Num_trim_85 ?_
          refine tv_i (nI (k + 1)) (nI_1 k) ?_
          refine va_put (D := D) (ci := 3) (v := .int (nI (k + 1))) (ty := .int) (C := R_Num) (T := F_Num) (N := 8) hx hb hts w_Num t_Num tk_Num n_Num hown hK hP hD hS 0 rfl rfl 1 (by decide) (hts _ kF_Num_25) (fun _ h9 => h9) rfl (by decide +kernel) (rfl) (rfl) (Nat.le_of_ble_eq_true rfl) d_Num_trim_86 (fun H locs hP hD hS => ?_)
          have hP : va_P D vcl [(nm, .inr (3, [.ref x, .int (nI (k + 1)), .int (nI e), .int mi, .int fo, .int fr, .int to, .int po])), (x, .inl (cC, 2400, .inl (tx T)))] H := hP
          have hD : va_D A [(nm, .inr (3, [.ref x, .int (nI (k + 1)), .int (nI e), .int mi, .int fo, .int fr, .int to, .int po])), (x, .inl (cC, 2400, .inl (tx T)))] := hD
          refine lv_goto (tgt := 54) hx hb d_Num_trim_89 (by decide) ?_
          exact ih (k + 1) e (by omega) (by omega) (he) (by rw [← bk_t e62 e76]; exact hv) _ _ _ (hP.sub [0, 1] rfl) (hD.sub [0, 1] (by decide) rfl) hS (lv_sub hl [0] rfl)
  have L18 : ∀ (kk : Nat) (q : Nat), q < kk → (q ≤ n) → (tE T q = tE T n) → ∀ (H : Heap) (locs : List Loc) (ls : Array Slot), va_P D vcl [(nm, .inr (3, [.ref x, .int (nI 0), .int (nI q), .int mi, .int fo, .int fr, .int to, .int po])), (x, .inl (cC, 2400, .inl (tx T)))] H → va_D A [(nm, .inr (3, [.ref x, .int (nI 0), .int (nI q), .int mi, .int fo, .int fr, .int to, .int po])), (x, .inl (cC, 2400, .inl (tx T)))] → va_S A s.heap H locs → lv_has ls 2 [(0, .ref nm)] → W p l ee ({ frames := 1, cells := 0, slots := 0, locals := 21 }) s m ([.ref nm, .int (nI n)] : List Value).toArray below meth cde H locs 0 0 (MQ below (va_Qv (S := Unit) (fun _ : Unit => True) (fun u tS => ctB D vcl ((fun _ => [(cC, .char)]) u) ((fun _ : Unit => [(nm, .inr (3, [.ref x, .int (nI (bk T (tE T n) 0)), .int (nI (tE T n)), .int mi, .int fo, .int fr, .int to, .int po])), (x, .inl (cC, 2400, .inl (tx T)))]) u) A tS) A) ([.ref nm, .int (nI n)] : List Value).toArray s 0 0 A) (F0 m 18 ls []) := by
    intro kk
    induction kk with
    | zero => intro q hmz; exact absurd hmz (Nat.not_lt_zero _)
    | succ kk ih =>
      intro q hmz hq hv H locs ls hP hD hS hl
      refine lv_aload_n hx hb d_Num_trim_18 rfl (lv_at hl 0 rfl) ?_
      refine va_get (D := D) (ci := 3) (v := .int (nI q)) (C := R_Num) (T := F_Num) (N := 8) hx hb hts w_Num hown hK hP 0 rfl rfl 2 (by decide) (hts _ kF_Num_50) (fun _ h9 => h9) rfl d_Num_trim_19 ?_
      refine lv_if_le (tgt := 54) hx hb d_Num_trim_22 (by decide) (fun c22 => ?_) (fun c22 => ?_)
      · have e22 : q = 0 := (nI_le0 (by omega)).mp c22
        exact L54 (q + 1) 0 q (by omega) (Nat.zero_le _) (by rw [← hv, e22]; rfl) (rfl) _ _ _ (hP.sub [0, 1] rfl) (hD.sub [0, 1] (by decide) rfl) hS (lv_sub hl [0] rfl)
      · have e22 : 0 < q := Nat.pos_of_ne_zero (fun z => c22 ((nI_le0 (by omega)).mpr z))
        refine lv_aload_n hx hb d_Num_trim_25 rfl (lv_at hl 0 rfl) ?_
        refine va_get (D := D) (ci := 3) (v := .ref x) (C := R_Num) (T := F_Num) (N := 8) hx hb hts w_Num hown hK hP 0 rfl rfl 0 (by decide) (hts _ kF_Num_7) (fun _ h9 => h9) rfl d_Num_trim_26 ?_
        refine lv_aload_n hx hb d_Num_trim_29 rfl (lv_at hl 0 rfl) ?_
        refine va_get (D := D) (ci := 3) (v := .int (nI q)) (C := R_Num) (T := F_Num) (N := 8) hx hb hts w_Num hown hK hP 0 rfl rfl 2 (by decide) (hts _ kF_Num_50) (fun _ h9 => h9) rfl d_Num_trim_30 ?_
        refine lv_iconst (v := 1) hx hb d_Num_trim_33 (by decide) ?_
        refine lv_isub hx hb d_Num_trim_34 ?_
        refine tv_i (nI (q - 1)) (nI_dec e22) ?_
        refine va_cald hx hb hK hP 1 0 rfl rfl (i := nI (q - 1)) (vp_in_nI (show q - 1 < 2400 by omega) (by decide)) d_Num_trim_35 ?_
        refine tv_i (nI (T (q - 1))) (by rw [nI_clamp (by omega)]; rfl) ?_
        refine lv_bipush (v := 32) hx hb d_Num_trim_36 (by decide) ?_
        refine lv_icmp_gt (tgt := 54) hx hb d_Num_trim_38 (by decide) (fun c38 => ?_) (fun c38 => ?_)
        · have e38 : ¬ T (q - 1) ≤ 32 := Nat.not_le.mpr ((nI_ltI (a := 32) (by decide) (by have := hT (q - 1); omega)).mp c38)
          exact L54 (q + 1) 0 q (by omega) (Nat.zero_le _) (by rw [← hv, tE_f e22 e38]) (rfl) _ _ _ (hP.sub [0, 1] rfl) (hD.sub [0, 1] (by decide) rfl) hS (lv_sub hl [0] rfl)
        · have e38 : T (q - 1) ≤ 32 := Nat.le_of_not_lt (fun z => c38 ((nI_ltI (a := 32) (by decide) (by have := hT (q - 1); omega)).mpr z))
          refine lv_aload_n hx hb d_Num_trim_41 rfl (lv_at hl 0 rfl) ?_
          refine lv_dup hx hb d_Num_trim_42 rfl ?_
          refine va_get (D := D) (ci := 3) (v := .int (nI q)) (C := R_Num) (T := F_Num) (N := 8) hx hb hts w_Num hown hK hP 0 rfl rfl 2 (by decide) (hts _ kF_Num_50) (fun _ h9 => h9) rfl d_Num_trim_43 ?_
          refine lv_iconst (v := 1) hx hb d_Num_trim_46 (by decide) ?_
          refine lv_isub hx hb d_Num_trim_47 ?_
          refine tv_i (nI (q - 1)) (nI_dec e22) ?_
          refine va_put (D := D) (ci := 3) (v := .int (nI (q - 1))) (ty := .int) (C := R_Num) (T := F_Num) (N := 8) hx hb hts w_Num t_Num tk_Num n_Num hown hK hP hD hS 0 rfl rfl 2 (by decide) (hts _ kF_Num_50) (fun _ h9 => h9) rfl (by decide +kernel) (rfl) (rfl) (Nat.le_of_ble_eq_true rfl) d_Num_trim_48 (fun H locs hP hD hS => ?_)
          have hP : va_P D vcl [(nm, .inr (3, [.ref x, .int (nI 0), .int (nI (q - 1)), .int mi, .int fo, .int fr, .int to, .int po])), (x, .inl (cC, 2400, .inl (tx T)))] H := hP
          have hD : va_D A [(nm, .inr (3, [.ref x, .int (nI 0), .int (nI (q - 1)), .int mi, .int fo, .int fr, .int to, .int po])), (x, .inl (cC, 2400, .inl (tx T)))] := hD
          refine lv_goto (tgt := 18) hx hb d_Num_trim_51 (by decide) ?_
          exact ih (q - 1) (by omega) (by omega) (by rw [← tE_t e22 e38]; exact hv) _ _ _ (hP.sub [0, 1] rfl) (hD.sub [0, 1] (by decide) rfl) hS (lv_sub hl [0] rfl)
  exact L18 (n + 1) n (by omega) (Nat.le_refl n) (rfl) _ _ _ (hP.sub [0, 1] rfl) (hD.sub [0, 1] (by decide) rfl) hS (lv_sub hl [0] rfl)

set_option maxHeartbeats 4000000 in
set_option maxRecDepth 100000 in
theorem c_Num_skipDigits (l : Launch) (D : va_G) (E : evD) (nm x : Nat) (cC : ClassId) (T : Nat → Nat) (hT : ∀ j, T j < 256) (mi fo fr to po : Int32) (a e : Nat) (hae : a ≤ e) (he : e ≤ 2400) (β : Nat) (hβ : β ≤ 16) : Ci (S := Unit) l y_Num_skipDigits (wz y_Num_skipDigits b_Num_skipDigits 3 (some .int)) ({ frames := 1, cells := 0, slots := 0, locals := 20 }) D vcl (ev1 E) [.ref nm, .int (nI β)] [(cC, .char)] [(nm, .inr (3, [.ref x, .int (nI a), .int (nI e), .int mi, .int fo, .int fr, .int to, .int po])), (x, .inl (cC, 2400, .inl (tx T)))] 0 0 (fun (r : Int32) (_ : Unit) => r = nI (sk β T e a - a)) (fun _ => [(cC, .char)]) (fun _ : Unit => [(nm, .inr (3, [.ref x, .int (nI (sk β T e a)), .int (nI e), .int mi, .int fo, .int fr, .int to, .int po])), (x, .inl (cC, 2400, .inl (tx T)))]) := by
  have hev := ev1_ok E
  unfold Ci
  refine ct_of (y := y_Num_skipDigits) (av := [.ref nm, .int (nI β)]) (cc := b_Num_skipDigits) (maxL := 3) (ret := (some .int)) (Qc := fun A => va_Qi (S := Unit) (fun (r : Int32) (_ : Unit) => r = nI (sk β T e a - a)) (fun u tS => ctB D vcl ((fun _ => [(cC, .char)]) u) ((fun _ : Unit => [(nm, .inr (3, [.ref x, .int (nI (sk β T e a)), .int (nI e), .int mi, .int fo, .int fr, .int to, .int po])), (x, .inl (cC, 2400, .inl (tx T)))]) u) A tS) A) (by decide) rfl (Nat.le_of_ble_eq_true rfl) ?_
  intro p ee s m below meth cde ls A H locs hx hb hml hrt hlocks hown hin hts hA hP hK hD hS hE hl
  have hown : s.vm.findClass R_Num = some m.cls := hown
  have hts := wz_g hts
  have hl : lv_has ls 3 [(0, .ref nm), (1, .int (nI β))] := hl
  refine lv_aload_n hx hb d_Num_skipDigits_0 rfl (lv_at hl 0 rfl) ?_
  refine va_get (D := D) (ci := 3) (v := .int (nI a)) (C := R_Num) (T := F_Num) (N := 8) hx hb hts w_Num hown hK hP 0 rfl rfl 1 (by decide) (hts _ kF_Num_25) (fun _ h9 => h9) rfl d_Num_skipDigits_1 ?_
  refine lv_istore_n (lv' := [(2, .int (nI a)), (0, .ref nm), (1, .int (nI β))]) hx hb d_Num_skipDigits_4 rfl hl (by decide) rfl (fun ls hl => ?_)
  have L5 : ∀ (kk : Nat) (k : Nat), e - k < kk → (a ≤ k) → (k ≤ e) → (sk β T e k = sk β T e a) → ∀ (H : Heap) (locs : List Loc) (ls : Array Slot), va_P D vcl [(nm, .inr (3, [.ref x, .int (nI k), .int (nI e), .int mi, .int fo, .int fr, .int to, .int po])), (x, .inl (cC, 2400, .inl (tx T)))] H → va_D A [(nm, .inr (3, [.ref x, .int (nI k), .int (nI e), .int mi, .int fo, .int fr, .int to, .int po])), (x, .inl (cC, 2400, .inl (tx T)))] → va_S A s.heap H locs → lv_has ls 3 [(0, .ref nm), (1, .int (nI β)), (2, .int (nI a))] → W p l ee ({ frames := 1, cells := 0, slots := 0, locals := 20 }) s m ([.ref nm, .int (nI β)] : List Value).toArray below meth cde H locs 0 0 (MQ below (va_Qi (S := Unit) (fun (r : Int32) (_ : Unit) => r = nI (sk β T e a - a)) (fun u tS => ctB D vcl ((fun _ => [(cC, .char)]) u) ((fun _ : Unit => [(nm, .inr (3, [.ref x, .int (nI (sk β T e a)), .int (nI e), .int mi, .int fo, .int fr, .int to, .int po])), (x, .inl (cC, 2400, .inl (tx T)))]) u) A tS) A) ([.ref nm, .int (nI β)] : List Value).toArray s 0 0 A) (F0 m 5 ls []) := by
    intro kk
    induction kk with
    | zero => intro k hmz; exact absurd hmz (Nat.not_lt_zero _)
    | succ kk ih =>
      intro k hmz hak hke hv H locs ls hP hD hS hl
      refine lv_aload_n hx hb d_Num_skipDigits_5 rfl (lv_at hl 0 rfl) ?_
      refine va_get (D := D) (ci := 3) (v := .int (nI k)) (C := R_Num) (T := F_Num) (N := 8) hx hb hts w_Num hown hK hP 0 rfl rfl 1 (by decide) (hts _ kF_Num_25) (fun _ h9 => h9) rfl d_Num_skipDigits_6 ?_
      refine lv_aload_n hx hb d_Num_skipDigits_9 rfl (lv_at hl 0 rfl) ?_
      refine va_get (D := D) (ci := 3) (v := .int (nI e)) (C := R_Num) (T := F_Num) (N := 8) hx hb hts w_Num hown hK hP 0 rfl rfl 2 (by decide) (hts _ kF_Num_50) (fun _ h9 => h9) rfl d_Num_skipDigits_10 ?_
      refine lv_icmp_ge (tgt := 45) hx hb d_Num_skipDigits_13 (by decide) (fun c13 => ?_) (fun c13 => ?_)
      · have e13 : e ≤ k := (nI_leI (by omega) (by omega)).mp c13
        have hkb : k = sk β T e a := by rw [← hv]; exact (sk_f (fun z => absurd z.1 (by omega))).symm
        rw [hkb] at hP hD hak
        refine lv_aload_n hx hb d_Num_skipDigits_45 rfl (lv_at hl 0 rfl) ?_
        refine va_get (D := D) (ci := 3) (v := .int (nI (sk β T e a))) (C := R_Num) (T := F_Num) (N := 8) hx hb hts w_Num hown hK hP 0 rfl rfl 1 (by decide) (hts _ kF_Num_25) (fun _ h9 => h9) rfl d_Num_skipDigits_46 ?_
        refine lv_iload_n hx hb d_Num_skipDigits_49 rfl (lv_at hl 2 rfl) ?_
        refine lv_isub hx hb d_Num_skipDigits_50 ?_
        refine tv_i (nI (sk β T e a - a)) (pk_sub hak) ?_
        exact rt_i hx hb hrt hlocks (rfl) (()) (rfl) (hP.sub [0, 1] rfl) (hK.sub [0] rfl) (hD.sub [0, 1] (by decide) rfl) hS d_Num_skipDigits_51
      · have e13 : k < e := Nat.lt_of_not_le (fun z => c13 ((nI_leI (by omega) (by omega)).mpr z))
        refine lv_aload_n hx hb d_Num_skipDigits_16 rfl (lv_at hl 0 rfl) ?_
        refine va_get (D := D) (ci := 3) (v := .ref x) (C := R_Num) (T := F_Num) (N := 8) hx hb hts w_Num hown hK hP 0 rfl rfl 0 (by decide) (hts _ kF_Num_7) (fun _ h9 => h9) rfl d_Num_skipDigits_17 ?_
        refine lv_aload_n hx hb d_Num_skipDigits_20 rfl (lv_at hl 0 rfl) ?_
        refine va_get (D := D) (ci := 3) (v := .int (nI k)) (C := R_Num) (T := F_Num) (N := 8) hx hb hts w_Num hown hK hP 0 rfl rfl 1 (by decide) (hts _ kF_Num_25) (fun _ h9 => h9) rfl d_Num_skipDigits_21 ?_
        refine va_cald hx hb hK hP 1 0 rfl rfl (i := nI k) (vp_in_nI (show k < 2400 by omega) (by decide)) d_Num_skipDigits_24 ?_
        refine tv_i (nI (T (k))) (by rw [nI_clamp (by omega)]; rfl) ?_
        refine ca_i [(nm, .inr (3, [.ref x, .int (nI k), .int (nI e), .int mi, .int fo, .int fr, .int to, .int po])), (x, .inl (cC, 2400, .inl (tx T)))] (va_runSN (As := [.int (nI (T (k)))]) (rest := []) ⟨hx, hb, hml, hown, hts⟩ (c_Rea_digitOf l D E (T (k)) (by have := hT k; omega) H.size) (xSN 1 hts kC_Rea_digitOf hE.1.1 kT_Rea_digitOf kN_Rea rfl rfl (by decide +kernel) ⟨Nat.le_of_ble_eq_true rfl, Nat.le_of_ble_eq_true rfl⟩) ⟨ct_blind hev, ct_pre hev hP hK hD hS hA hE [] rfl (by decide) [] rfl⟩ rfl rfl hl.1 rfl (lv_room (Nat.le_of_ble_eq_true rfl)) d_Num_skipDigits_25 ⟨Nat.le_of_ble_eq_true rfl, Nat.le_of_ble_eq_true rfl⟩) hP hD hS hA [] [0, 1] rfl rfl (by decide) (by decide) (fun r u H locs hw hP hD hS hK1 => ?_)
        subst hw
        have hP : va_P D vcl [(nm, .inr (3, [.ref x, .int (nI k), .int (nI e), .int mi, .int fo, .int fr, .int to, .int po])), (x, .inl (cC, 2400, .inl (tx T)))] H := hP
        have hD : va_D A [(nm, .inr (3, [.ref x, .int (nI k), .int (nI e), .int mi, .int fo, .int fr, .int to, .int po])), (x, .inl (cC, 2400, .inl (tx T)))] := hD
        refine lv_iload_n hx hb d_Num_skipDigits_28 rfl (lv_at hl 1 rfl) ?_
        refine lv_icmp_ge (tgt := 45) hx hb d_Num_skipDigits_29 (by decide) (fun c29 => ?_) (fun c29 => ?_)
        · have e29 : β ≤ dg (T k) := (nI_leI (by omega) (by have := dg_le (T k); omega)).mp c29
          have hkb : k = sk β T e a := by rw [← hv]; exact (sk_f (fun z => absurd z.2 (by omega))).symm
          rw [hkb] at hP hD hak
          refine lv_aload_n hx hb d_Num_skipDigits_45 rfl (lv_at hl 0 rfl) ?_
          refine va_get (D := D) (ci := 3) (v := .int (nI (sk β T e a))) (C := R_Num) (T := F_Num) (N := 8) hx hb hts w_Num hown hK hP 0 rfl rfl 1 (by decide) (hts _ kF_Num_25) (fun _ h9 => h9) rfl d_Num_skipDigits_46 ?_
          refine lv_iload_n hx hb d_Num_skipDigits_49 rfl (lv_at hl 2 rfl) ?_
          refine lv_isub hx hb d_Num_skipDigits_50 ?_
          refine tv_i (nI (sk β T e a - a)) (pk_sub hak) ?_
          exact rt_i hx hb hrt hlocks (rfl) (()) (rfl) (hP.sub [0, 1] rfl) (hK.sub [0] rfl) (hD.sub [0, 1] (by decide) rfl) hS d_Num_skipDigits_51
        · have e29 : dg (T k) < β := Nat.lt_of_not_le (fun z => c29 ((nI_leI (by omega) (by have := dg_le (T k); omega)).mpr z))
          refine lv_aload_n hx hb d_Num_skipDigits_32 rfl (lv_at hl 0 rfl) ?_
          refine lv_dup hx hb d_Num_skipDigits_33 rfl ?_
          refine va_get (D := D) (ci := 3) (v := .int (nI k)) (C := R_Num) (T := F_Num) (N := 8) hx hb hts w_Num hown hK hP 0 rfl rfl 1 (by decide) (hts _ kF_Num_25) (fun _ h9 => h9) rfl d_Num_skipDigits_34 ?_
          refine lv_iconst (v := 1) hx hb d_Num_skipDigits_37 (by decide) ?_
          refine lv_iadd hx hb d_Num_skipDigits_38 ?_
          refine tv_i (nI (k + 1)) (nI_1 k) ?_
          refine va_put (D := D) (ci := 3) (v := .int (nI (k + 1))) (ty := .int) (C := R_Num) (T := F_Num) (N := 8) hx hb hts w_Num t_Num tk_Num n_Num hown hK hP hD hS 0 rfl rfl 1 (by decide) (hts _ kF_Num_25) (fun _ h9 => h9) rfl (by decide +kernel) (rfl) (rfl) (Nat.le_of_ble_eq_true rfl) d_Num_skipDigits_39 (fun H locs hP hD hS => ?_)
          have hP : va_P D vcl [(nm, .inr (3, [.ref x, .int (nI (k + 1)), .int (nI e), .int mi, .int fo, .int fr, .int to, .int po])), (x, .inl (cC, 2400, .inl (tx T)))] H := hP
          have hD : va_D A [(nm, .inr (3, [.ref x, .int (nI (k + 1)), .int (nI e), .int mi, .int fo, .int fr, .int to, .int po])), (x, .inl (cC, 2400, .inl (tx T)))] := hD
          refine lv_goto (tgt := 5) hx hb d_Num_skipDigits_42 (by decide) ?_
          exact ih (k + 1) (by omega) (by omega) (by omega) (by rw [← sk_t e13 e29]; exact hv) _ _ _ (hP.sub [0, 1] rfl) (hD.sub [0, 1] (by decide) rfl) hS (lv_sub hl [0, 1, 2] rfl)
  exact L5 (e - a + 1) a (by omega) (Nat.le_refl a) (hae) (rfl) _ _ _ (hP.sub [0, 1] rfl) (hD.sub [0, 1] (by decide) rfl) hS (lv_sub hl [1, 2, 0] rfl)

set_option maxHeartbeats 4000000 in
set_option maxRecDepth 100000 in
theorem c_Num_skipPrefix (l : Launch) (D : va_G) (E : evD) (nm x : Nat) (cC : ClassId) (T : Nat → Nat) (hT : ∀ j, T j < 256) (mi fo fr to po : Int32) (a e : Nat) (hae : a ≤ e) (he : e ≤ 2400) : Ci (S := Unit) l y_Num_skipPrefix (wz y_Num_skipPrefix b_Num_skipPrefix 1 (some .boolean)) ({ frames := 0, cells := 0, slots := 0, locals := 0 }) D vcl (ev1 E) [.ref nm] [(cC, .char)] [(nm, .inr (3, [.ref x, .int (nI a), .int (nI e), .int mi, .int fo, .int fr, .int to, .int po])), (x, .inl (cC, 2400, .inl (tx T)))] 0 0 (fun (r : Int32) (_ : Unit) => r = bI (pxB T e a)) (fun _ => [(cC, .char)]) (fun _ : Unit => [(nm, .inr (3, [.ref x, .int (nI (pxA T e a)), .int (nI e), .int mi, .int fo, .int fr, .int to, .int po])), (x, .inl (cC, 2400, .inl (tx T)))]) := by
  have hev := ev1_ok E
  unfold Ci
  refine ct_of (y := y_Num_skipPrefix) (av := [.ref nm]) (cc := b_Num_skipPrefix) (maxL := 1) (ret := (some .boolean)) (Qc := fun A => va_Qi (S := Unit) (fun (r : Int32) (_ : Unit) => r = bI (pxB T e a)) (fun u tS => ctB D vcl ((fun _ => [(cC, .char)]) u) ((fun _ : Unit => [(nm, .inr (3, [.ref x, .int (nI (pxA T e a)), .int (nI e), .int mi, .int fo, .int fr, .int to, .int po])), (x, .inl (cC, 2400, .inl (tx T)))]) u) A tS) A) (by decide) rfl (Nat.le_of_ble_eq_true rfl) ?_
  intro p ee s m below meth cde ls A H locs hx hb hml hrt hlocks hown hin hts hA hP hK hD hS hE hl
  have hown : s.vm.findClass R_Num = some m.cls := hown
  have hts := wz_g hts
  have hl : lv_has ls 1 [(0, .ref nm)] := hl
  refine lv_aload_n hx hb d_Num_skipPrefix_0 rfl (lv_at hl 0 rfl) ?_
  refine va_get (D := D) (ci := 3) (v := .int (nI e)) (C := R_Num) (T := F_Num) (N := 8) hx hb hts w_Num hown hK hP 0 rfl rfl 2 (by decide) (hts _ kF_Num_50) (fun _ h9 => h9) rfl d_Num_skipPrefix_1 ?_
  refine lv_aload_n hx hb d_Num_skipPrefix_4 rfl (lv_at hl 0 rfl) ?_
  refine va_get (D := D) (ci := 3) (v := .int (nI a)) (C := R_Num) (T := F_Num) (N := 8) hx hb hts w_Num hown hK hP 0 rfl rfl 1 (by decide) (hts _ kF_Num_25) (fun _ h9 => h9) rfl d_Num_skipPrefix_5 ?_
  refine lv_isub hx hb d_Num_skipPrefix_8 ?_
  refine tv_i (nI (e - a)) (pk_sub hae) ?_
  refine lv_iconst (v := 2) hx hb d_Num_skipPrefix_9 (by decide) ?_
  refine lv_icmp_lt (tgt := 59) hx hb d_Num_skipPrefix_10 (by decide) (fun c10 => ?_) (fun c10 => ?_)
  · have e10 : e - a < 2 := (nI_ltI (b := 2) (by omega) (by decide)).mp c10
    refine lv_iconst (v := 0) hx hb d_Num_skipPrefix_59 (by decide) ?_
    have hp : pxB T e a = false := decide_eq_false (fun z => absurd z.1 (by omega))
    rw [show nI a = nI (pxA T e a) by unfold pxA; rw [hp]; rfl] at hP hD
    exact rt_i hx hb hrt hlocks (rfl) (()) (by rw [hp]; rfl) (hP.sub [0, 1] rfl) (hK.sub [0] rfl) (hD.sub [0, 1] (by decide) rfl) hS d_Num_skipPrefix_60
  · have e10 : 2 ≤ e - a := Nat.le_of_not_lt (fun z => c10 ((nI_ltI (b := 2) (by omega) (by decide)).mpr z))
    have h0 := hT a
    have h1 := hT (a + 1)
    refine lv_aload_n hx hb d_Num_skipPrefix_13 rfl (lv_at hl 0 rfl) ?_
    refine va_get (D := D) (ci := 3) (v := .ref x) (C := R_Num) (T := F_Num) (N := 8) hx hb hts w_Num hown hK hP 0 rfl rfl 0 (by decide) (hts _ kF_Num_7) (fun _ h9 => h9) rfl d_Num_skipPrefix_14 ?_
    refine lv_aload_n hx hb d_Num_skipPrefix_17 rfl (lv_at hl 0 rfl) ?_
    refine va_get (D := D) (ci := 3) (v := .int (nI a)) (C := R_Num) (T := F_Num) (N := 8) hx hb hts w_Num hown hK hP 0 rfl rfl 1 (by decide) (hts _ kF_Num_25) (fun _ h9 => h9) rfl d_Num_skipPrefix_18 ?_
    refine va_cald hx hb hK hP 1 0 rfl rfl (i := nI a) (vp_in_nI (show a < 2400 by omega) (by decide)) d_Num_skipPrefix_21 ?_
    refine tv_i (nI (T (a))) (by rw [nI_clamp (by omega)]; rfl) ?_
    refine lv_bipush (v := 48) hx hb d_Num_skipPrefix_22 (by decide) ?_
    refine lv_icmp_ne (tgt := 59) hx hb d_Num_skipPrefix_24 (by decide) (fun c24 => ?_) (fun c24 => ?_)
    · have e24 : ¬ T a = 48 := fun z => c24 (by rw [z]; rfl)
      refine lv_iconst (v := 0) hx hb d_Num_skipPrefix_59 (by decide) ?_
      have hp : pxB T e a = false := decide_eq_false (fun z => e24 z.2.1)
      rw [show nI a = nI (pxA T e a) by unfold pxA; rw [hp]; rfl] at hP hD
      exact rt_i hx hb hrt hlocks (rfl) (()) (by rw [hp]; rfl) (hP.sub [0, 1] rfl) (hK.sub [0] rfl) (hD.sub [0, 1] (by decide) rfl) hS d_Num_skipPrefix_60
    · have e24 : T a = 48 := (nI_eq (b := 48) (by omega) (by decide)).mp c24
      refine lv_aload_n hx hb d_Num_skipPrefix_27 rfl (lv_at hl 0 rfl) ?_
      refine va_get (D := D) (ci := 3) (v := .ref x) (C := R_Num) (T := F_Num) (N := 8) hx hb hts w_Num hown hK hP 0 rfl rfl 0 (by decide) (hts _ kF_Num_7) (fun _ h9 => h9) rfl d_Num_skipPrefix_28 ?_
      refine lv_aload_n hx hb d_Num_skipPrefix_31 rfl (lv_at hl 0 rfl) ?_
      refine va_get (D := D) (ci := 3) (v := .int (nI a)) (C := R_Num) (T := F_Num) (N := 8) hx hb hts w_Num hown hK hP 0 rfl rfl 1 (by decide) (hts _ kF_Num_25) (fun _ h9 => h9) rfl d_Num_skipPrefix_32 ?_
      refine lv_iconst (v := 1) hx hb d_Num_skipPrefix_35 (by decide) ?_
      refine lv_iadd hx hb d_Num_skipPrefix_36 ?_
      refine tv_i (nI (a + 1)) (nI_1 a) ?_
      refine va_cald hx hb hK hP 1 0 rfl rfl (i := nI (a + 1)) (vp_in_nI (show a + 1 < 2400 by omega) (by decide)) d_Num_skipPrefix_37 ?_
      refine tv_i (nI (T (a + 1))) (by rw [nI_clamp (by omega)]; rfl) ?_
      refine lv_bipush (v := 120) hx hb d_Num_skipPrefix_38 (by decide) ?_
      refine lv_icmp_eq (tgt := 61) hx hb d_Num_skipPrefix_40 (by decide) (fun c40 => ?_) (fun c40 => ?_)
      · have e40 : T (a + 1) = 120 := (nI_eq (b := 120) (by omega) (by decide)).mp c40
        refine lv_aload_n hx hb d_Num_skipPrefix_61 rfl (lv_at hl 0 rfl) ?_
        refine lv_dup hx hb d_Num_skipPrefix_62 rfl ?_
        refine va_get (D := D) (ci := 3) (v := .int (nI a)) (C := R_Num) (T := F_Num) (N := 8) hx hb hts w_Num hown hK hP 0 rfl rfl 1 (by decide) (hts _ kF_Num_25) (fun _ h9 => h9) rfl d_Num_skipPrefix_63 ?_
        refine lv_iconst (v := 2) hx hb d_Num_skipPrefix_66 (by decide) ?_
        refine lv_iadd hx hb d_Num_skipPrefix_67 ?_
        refine tv_i (nI (a + 2)) (nI_add a 2) ?_
        refine va_put (D := D) (ci := 3) (v := .int (nI (a + 2))) (ty := .int) (C := R_Num) (T := F_Num) (N := 8) hx hb hts w_Num t_Num tk_Num n_Num hown hK hP hD hS 0 rfl rfl 1 (by decide) (hts _ kF_Num_25) (fun _ h9 => h9) rfl (by decide +kernel) (rfl) (rfl) (Nat.le_of_ble_eq_true rfl) d_Num_skipPrefix_68 (fun H locs hP hD hS => ?_)
        have hP : va_P D vcl [(nm, .inr (3, [.ref x, .int (nI (a + 2)), .int (nI e), .int mi, .int fo, .int fr, .int to, .int po])), (x, .inl (cC, 2400, .inl (tx T)))] H := hP
        have hD : va_D A [(nm, .inr (3, [.ref x, .int (nI (a + 2)), .int (nI e), .int mi, .int fo, .int fr, .int to, .int po])), (x, .inl (cC, 2400, .inl (tx T)))] := hD
        refine lv_iconst (v := 1) hx hb d_Num_skipPrefix_71 (by decide) ?_
        have hp : pxB T e a = true := decide_eq_true ⟨e10, e24, Or.inl e40⟩
        rw [show nI (a + 2) = nI (pxA T e a) by unfold pxA; rw [hp]; rfl] at hP hD
        exact rt_i hx hb hrt hlocks (rfl) (()) (by rw [hp]; rfl) (hP.sub [0, 1] rfl) (hK.sub [0] rfl) (hD.sub [0, 1] (by decide) rfl) hS d_Num_skipPrefix_72
      · have e40 : ¬ T (a + 1) = 120 := fun z => c40 (by rw [z]; rfl)
        refine lv_aload_n hx hb d_Num_skipPrefix_43 rfl (lv_at hl 0 rfl) ?_
        refine va_get (D := D) (ci := 3) (v := .ref x) (C := R_Num) (T := F_Num) (N := 8) hx hb hts w_Num hown hK hP 0 rfl rfl 0 (by decide) (hts _ kF_Num_7) (fun _ h9 => h9) rfl d_Num_skipPrefix_44 ?_
        refine lv_aload_n hx hb d_Num_skipPrefix_47 rfl (lv_at hl 0 rfl) ?_
        refine va_get (D := D) (ci := 3) (v := .int (nI a)) (C := R_Num) (T := F_Num) (N := 8) hx hb hts w_Num hown hK hP 0 rfl rfl 1 (by decide) (hts _ kF_Num_25) (fun _ h9 => h9) rfl d_Num_skipPrefix_48 ?_
        refine lv_iconst (v := 1) hx hb d_Num_skipPrefix_51 (by decide) ?_
        refine lv_iadd hx hb d_Num_skipPrefix_52 ?_
        refine tv_i (nI (a + 1)) (nI_1 a) ?_
        refine va_cald hx hb hK hP 1 0 rfl rfl (i := nI (a + 1)) (vp_in_nI (show a + 1 < 2400 by omega) (by decide)) d_Num_skipPrefix_53 ?_
        refine tv_i (nI (T (a + 1))) (by rw [nI_clamp (by omega)]; rfl) ?_
        refine lv_bipush (v := 88) hx hb d_Num_skipPrefix_54 (by decide) ?_
        refine lv_icmp_eq (tgt := 61) hx hb d_Num_skipPrefix_56 (by decide) (fun c56 => ?_) (fun c56 => ?_)
        · have e56 : T (a + 1) = 88 := (nI_eq (b := 88) (by omega) (by decide)).mp c56
          refine lv_aload_n hx hb d_Num_skipPrefix_61 rfl (lv_at hl 0 rfl) ?_
          refine lv_dup hx hb d_Num_skipPrefix_62 rfl ?_
          refine va_get (D := D) (ci := 3) (v := .int (nI a)) (C := R_Num) (T := F_Num) (N := 8) hx hb hts w_Num hown hK hP 0 rfl rfl 1 (by decide) (hts _ kF_Num_25) (fun _ h9 => h9) rfl d_Num_skipPrefix_63 ?_
          refine lv_iconst (v := 2) hx hb d_Num_skipPrefix_66 (by decide) ?_
          refine lv_iadd hx hb d_Num_skipPrefix_67 ?_
          refine tv_i (nI (a + 2)) (nI_add a 2) ?_
          refine va_put (D := D) (ci := 3) (v := .int (nI (a + 2))) (ty := .int) (C := R_Num) (T := F_Num) (N := 8) hx hb hts w_Num t_Num tk_Num n_Num hown hK hP hD hS 0 rfl rfl 1 (by decide) (hts _ kF_Num_25) (fun _ h9 => h9) rfl (by decide +kernel) (rfl) (rfl) (Nat.le_of_ble_eq_true rfl) d_Num_skipPrefix_68 (fun H locs hP hD hS => ?_)
          have hP : va_P D vcl [(nm, .inr (3, [.ref x, .int (nI (a + 2)), .int (nI e), .int mi, .int fo, .int fr, .int to, .int po])), (x, .inl (cC, 2400, .inl (tx T)))] H := hP
          have hD : va_D A [(nm, .inr (3, [.ref x, .int (nI (a + 2)), .int (nI e), .int mi, .int fo, .int fr, .int to, .int po])), (x, .inl (cC, 2400, .inl (tx T)))] := hD
          refine lv_iconst (v := 1) hx hb d_Num_skipPrefix_71 (by decide) ?_
          have hp : pxB T e a = true := decide_eq_true ⟨e10, e24, Or.inr e56⟩
          rw [show nI (a + 2) = nI (pxA T e a) by unfold pxA; rw [hp]; rfl] at hP hD
          exact rt_i hx hb hrt hlocks (rfl) (()) (by rw [hp]; rfl) (hP.sub [0, 1] rfl) (hK.sub [0] rfl) (hD.sub [0, 1] (by decide) rfl) hS d_Num_skipPrefix_72
        · have e56 : ¬ T (a + 1) = 88 := fun z => c56 (by rw [z]; rfl)
          refine lv_iconst (v := 0) hx hb d_Num_skipPrefix_59 (by decide) ?_
          have hp : pxB T e a = false := decide_eq_false (fun z => z.2.2.elim e40 e56)
          rw [show nI a = nI (pxA T e a) by unfold pxA; rw [hp]; rfl] at hP hD
          exact rt_i hx hb hrt hlocks (rfl) (()) (by rw [hp]; rfl) (hP.sub [0, 1] rfl) (hK.sub [0] rfl) (hD.sub [0, 1] (by decide) rfl) hS d_Num_skipPrefix_60

set_option maxHeartbeats 4000000 in
set_option maxRecDepth 100000 in
theorem c_Num_isRest (l : Launch) (D : va_G) (E : evD) (nm x : Nat) (cC : ClassId) (T : Nat → Nat) (hT : ∀ j, T j < 256) (mi fo fr to po : Int32) (a e : Nat) (hae : a ≤ e) (he : e ≤ 2400) (j : Nat) (hj : j < 2) : Ci (S := Unit) l y_Num_isRest (wz y_Num_isRest b_Num_isRest 3 (some .boolean)) ({ frames := 4, cells := 0, slots := 0, locals := 85 }) D vcl (ev1 E) [.ref nm, .ref (E.2.1 j)] [(cC, .char)] [(nm, .inr (3, [.ref x, .int (nI a), .int (nI e), .int mi, .int fo, .int fr, .int to, .int po])), (x, .inl (cC, 2400, .inl (tx T)))] 0 0 (fun (r : Int32) (_ : Unit) => r = bI (wdB T e a j)) (fun _ => [(cC, .char)]) (fun _ : Unit => [(nm, .inr (3, [.ref x, .int (nI a), .int (nI e), .int mi, .int fo, .int fr, .int to, .int po])), (x, .inl (cC, 2400, .inl (tx T)))]) := by
  have hev := ev1_ok E
  unfold Ci
  refine ct_of (y := y_Num_isRest) (av := [.ref nm, .ref (E.2.1 j)]) (cc := b_Num_isRest) (maxL := 3) (ret := (some .boolean)) (Qc := fun A => va_Qi (S := Unit) (fun (r : Int32) (_ : Unit) => r = bI (wdB T e a j)) (fun u tS => ctB D vcl ((fun _ => [(cC, .char)]) u) ((fun _ : Unit => [(nm, .inr (3, [.ref x, .int (nI a), .int (nI e), .int mi, .int fo, .int fr, .int to, .int po])), (x, .inl (cC, 2400, .inl (tx T)))]) u) A tS) A) (by decide) rfl (Nat.le_of_ble_eq_true rfl) ?_
  intro p ee s m below meth cde ls A H locs hx hb hml hrt hlocks hown hin hts hA hP hK hD hS hE hl
  have hown : s.vm.findClass R_Num = some m.cls := hown
  have hts := wz_g hts
  have hl : lv_has ls 3 [(0, .ref nm), (1, .ref (E.2.1 j))] := hl
  have hsl := sLen_b j hj
  refine lv_aload_n hx hb d_Num_isRest_0 rfl (lv_at hl 0 rfl) ?_
  refine va_get (D := D) (ci := 3) (v := .int (nI e)) (C := R_Num) (T := F_Num) (N := 8) hx hb hts w_Num hown hK hP 0 rfl rfl 2 (by decide) (hts _ kF_Num_50) (fun _ h9 => h9) rfl d_Num_isRest_1 ?_
  refine lv_aload_n hx hb d_Num_isRest_4 rfl (lv_at hl 0 rfl) ?_
  refine va_get (D := D) (ci := 3) (v := .int (nI a)) (C := R_Num) (T := F_Num) (N := 8) hx hb hts w_Num hown hK hP 0 rfl rfl 1 (by decide) (hts _ kF_Num_25) (fun _ h9 => h9) rfl d_Num_isRest_5 ?_
  refine lv_isub hx hb d_Num_isRest_8 ?_
  refine tv_i (nI (e - a)) (pk_sub hae) ?_
  refine lv_aload_n hx hb d_Num_isRest_9 rfl (lv_at hl 1 rfl) ?_
  refine ca_i [(nm, .inr (3, [.ref x, .int (nI a), .int (nI e), .int mi, .int fo, .int fr, .int to, .int po])), (x, .inl (cC, 2400, .inl (tx T)))] (va_runV (As := []) (rest := [.int (nI (e - a))]) ⟨hx, hb, hml, hown, hts⟩ (c_Str_length l D E j hj H.size) (xV 0 hts kC_Str_length kM_Num_53 kI_Str_length kS_Str_length kN_Str rfl rfl (by decide +kernel) ⟨Nat.le_of_ble_eq_true rfl, Nat.le_of_ble_eq_true rfl⟩) ⟨ct_blind hev, vk_recv (i := j) hE.2.2.2.2.2.2.1 hj hS, ct_pre hev hP hK hD hS hA hE [] rfl (by decide) [] rfl⟩ rfl rfl hl.1 rfl (lv_room (Nat.le_of_ble_eq_true rfl)) d_Num_isRest_10 ⟨Nat.le_of_ble_eq_true rfl, Nat.le_of_ble_eq_true rfl⟩) hP hD hS hA [] [0, 1] rfl rfl (by decide) (by decide) (fun r u H locs hw hP hD hS hK1 => ?_)
  subst hw
  have hP : va_P D vcl [(nm, .inr (3, [.ref x, .int (nI a), .int (nI e), .int mi, .int fo, .int fr, .int to, .int po])), (x, .inl (cC, 2400, .inl (tx T)))] H := hP
  have hD : va_D A [(nm, .inr (3, [.ref x, .int (nI a), .int (nI e), .int mi, .int fo, .int fr, .int to, .int po])), (x, .inl (cC, 2400, .inl (tx T)))] := hD
  refine lv_icmp_eq (tgt := 18) hx hb d_Num_isRest_13 (by decide) (fun c13 => ?_) (fun c13 => ?_)
  · have e13 : e - a = sLen.getD j 0 := (nI_eq (by omega) (by omega)).mp c13
    refine lv_iconst (v := 0) hx hb d_Num_isRest_18 (by decide) ?_
    refine tv_i (nI 0) (rfl) ?_
    refine lv_istore_n (lv' := [(2, .int (nI 0)), (0, .ref nm), (1, .ref (E.2.1 j))]) hx hb d_Num_isRest_19 rfl hl (by decide) rfl (fun ls hl => ?_)
    have L20 : ∀ (kk : Nat) (k : Nat), sLen.getD j 0 - k < kk → (k ≤ sLen.getD j 0) → (∀ q, q < k → T (a + q) = sCh j q) → ∀ (H : Heap) (locs : List Loc) (ls : Array Slot), va_P D vcl [(nm, .inr (3, [.ref x, .int (nI a), .int (nI e), .int mi, .int fo, .int fr, .int to, .int po])), (x, .inl (cC, 2400, .inl (tx T)))] H → va_D A [(nm, .inr (3, [.ref x, .int (nI a), .int (nI e), .int mi, .int fo, .int fr, .int to, .int po])), (x, .inl (cC, 2400, .inl (tx T)))] → va_S A s.heap H locs → lv_has ls 3 [(0, .ref nm), (1, .ref (E.2.1 j)), (2, .int (nI k))] → W p l ee ({ frames := 4, cells := 0, slots := 0, locals := 85 }) s m ([.ref nm, .ref (E.2.1 j)] : List Value).toArray below meth cde H locs 0 0 (MQ below (va_Qi (S := Unit) (fun (r : Int32) (_ : Unit) => r = bI (wdB T e a j)) (fun u tS => ctB D vcl ((fun _ => [(cC, .char)]) u) ((fun _ : Unit => [(nm, .inr (3, [.ref x, .int (nI a), .int (nI e), .int mi, .int fo, .int fr, .int to, .int po])), (x, .inl (cC, 2400, .inl (tx T)))]) u) A tS) A) ([.ref nm, .ref (E.2.1 j)] : List Value).toArray s 0 0 A) (F0 m 20 ls []) := by
      intro kk
      induction kk with
      | zero => intro k hmz; exact absurd hmz (Nat.not_lt_zero _)
      | succ kk ih =>
        intro k hmz hk hv H locs ls hP hD hS hl
        refine lv_iload_n hx hb d_Num_isRest_20 rfl (lv_at hl 2 rfl) ?_
        refine lv_aload_n hx hb d_Num_isRest_21 rfl (lv_at hl 1 rfl) ?_
        refine ca_i [(nm, .inr (3, [.ref x, .int (nI a), .int (nI e), .int mi, .int fo, .int fr, .int to, .int po])), (x, .inl (cC, 2400, .inl (tx T)))] (va_runV (As := []) (rest := [.int (nI k)]) ⟨hx, hb, hml, hown, hts⟩ (c_Str_length l D E j hj H.size) (xV 0 hts kC_Str_length kM_Num_53 kI_Str_length kS_Str_length kN_Str rfl rfl (by decide +kernel) ⟨Nat.le_of_ble_eq_true rfl, Nat.le_of_ble_eq_true rfl⟩) ⟨ct_blind hev, vk_recv (i := j) hE.2.2.2.2.2.2.1 hj hS, ct_pre hev hP hK hD hS hA hE [] rfl (by decide) [] rfl⟩ rfl rfl hl.1 rfl (lv_room (Nat.le_of_ble_eq_true rfl)) d_Num_isRest_22 ⟨Nat.le_of_ble_eq_true rfl, Nat.le_of_ble_eq_true rfl⟩) hP hD hS hA [] [0, 1] rfl rfl (by decide) (by decide) (fun r u H locs hw hP hD hS hK1 => ?_)
        subst hw
        have hP : va_P D vcl [(nm, .inr (3, [.ref x, .int (nI a), .int (nI e), .int mi, .int fo, .int fr, .int to, .int po])), (x, .inl (cC, 2400, .inl (tx T)))] H := hP
        have hD : va_D A [(nm, .inr (3, [.ref x, .int (nI a), .int (nI e), .int mi, .int fo, .int fr, .int to, .int po])), (x, .inl (cC, 2400, .inl (tx T)))] := hD
        refine lv_icmp_ge (tgt := 55) hx hb d_Num_isRest_25 (by decide) (fun c25 => ?_) (fun c25 => ?_)
        · have e25 : sLen.getD j 0 ≤ k := (nI_leI (by omega) (by omega)).mp c25
          refine lv_iconst (v := 1) hx hb d_Num_isRest_55 (by decide) ?_
          exact rt_i hx hb hrt hlocks (rfl) (()) (by unfold wdB; rw [decide_eq_true ⟨e13, fun q hq => hv q (by omega)⟩]; rfl) (hP.sub [0, 1] rfl) (hK.sub [0] rfl) (hD.sub [0, 1] (by decide) rfl) hS d_Num_isRest_56
        · have e25 : k < sLen.getD j 0 := Nat.lt_of_not_le (fun z => c25 ((nI_leI (by omega) (by omega)).mpr z))
          refine lv_aload_n hx hb d_Num_isRest_28 rfl (lv_at hl 0 rfl) ?_
          refine va_get (D := D) (ci := 3) (v := .ref x) (C := R_Num) (T := F_Num) (N := 8) hx hb hts w_Num hown hK hP 0 rfl rfl 0 (by decide) (hts _ kF_Num_7) (fun _ h9 => h9) rfl d_Num_isRest_29 ?_
          refine lv_aload_n hx hb d_Num_isRest_32 rfl (lv_at hl 0 rfl) ?_
          refine va_get (D := D) (ci := 3) (v := .int (nI a)) (C := R_Num) (T := F_Num) (N := 8) hx hb hts w_Num hown hK hP 0 rfl rfl 1 (by decide) (hts _ kF_Num_25) (fun _ h9 => h9) rfl d_Num_isRest_33 ?_
          refine lv_iload_n hx hb d_Num_isRest_36 rfl (lv_at hl 2 rfl) ?_
          refine lv_iadd hx hb d_Num_isRest_37 ?_
          refine tv_i (nI (a + k)) (nI_add a k) ?_
          refine va_cald hx hb hK hP 1 0 rfl rfl (i := nI (a + k)) (vp_in_nI (show a + k < 2400 by omega) (by decide)) d_Num_isRest_38 ?_
          refine tv_i (nI (T (a + k))) (by rw [nI_clamp (by omega)]; rfl) ?_
          refine lv_aload_n hx hb d_Num_isRest_39 rfl (lv_at hl 1 rfl) ?_
          refine lv_iload_n hx hb d_Num_isRest_40 rfl (lv_at hl 2 rfl) ?_
          refine ca_i [(nm, .inr (3, [.ref x, .int (nI a), .int (nI e), .int mi, .int fo, .int fr, .int to, .int po])), (x, .inl (cC, 2400, .inl (tx T)))] (va_runV (As := [.int (nI k)]) (rest := [.int (nI (T (a + k)))]) ⟨hx, hb, hml, hown, hts⟩ (c_Str_charAt l D E j hj k (e25) H.size) (xV 1 hts kC_Str_charAt kM_Num_59 kI_Str_charAt kS_Str_charAt kN_Str rfl rfl (by decide +kernel) ⟨Nat.le_of_ble_eq_true rfl, Nat.le_of_ble_eq_true rfl⟩) ⟨ct_blind hev, vk_recv (i := j) hE.2.2.2.2.2.2.1 hj hS, ct_pre hev hP hK hD hS hA hE [] rfl (by decide) [] rfl⟩ rfl rfl hl.1 rfl (lv_room (Nat.le_of_ble_eq_true rfl)) d_Num_isRest_41 ⟨Nat.le_of_ble_eq_true rfl, Nat.le_of_ble_eq_true rfl⟩) hP hD hS hA [] [0, 1] rfl rfl (by decide) (by decide) (fun r u H locs hw hP hD hS hK1 => ?_)
          subst hw
          have hP : va_P D vcl [(nm, .inr (3, [.ref x, .int (nI a), .int (nI e), .int mi, .int fo, .int fr, .int to, .int po])), (x, .inl (cC, 2400, .inl (tx T)))] H := hP
          have hD : va_D A [(nm, .inr (3, [.ref x, .int (nI a), .int (nI e), .int mi, .int fo, .int fr, .int to, .int po])), (x, .inl (cC, 2400, .inl (tx T)))] := hD
          refine lv_icmp_eq (tgt := 49) hx hb d_Num_isRest_44 (by decide) (fun c44 => ?_) (fun c44 => ?_)
          · have e44 : T (a + k) = sCh j k := (nI_eq (by have := hT (a + k); omega) (by have := sCh_lt j k; omega)).mp c44
            refine lv_iinc (v := nI (k + 1)) (lv' := [(2, .int (nI (k + 1))), (0, .ref nm), (1, .ref (E.2.1 j))]) hx hb d_Num_isRest_49 hl (k := 2) rfl (nI_1 k) (by decide) rfl (fun ls hl => ?_)
            refine lv_goto (tgt := 20) hx hb d_Num_isRest_52 (by decide) ?_
            exact ih (k + 1) (by omega) (by omega) (fun q hq => by by_cases h9 : q = k; (· rw [h9]; exact e44); exact hv q (by omega)) _ _ _ (hP.sub [0, 1] rfl) (hD.sub [0, 1] (by decide) rfl) hS (lv_sub hl [1, 2, 0] rfl)
          · have e44 : ¬ T (a + k) = sCh j k := fun z => c44 (by rw [z])
            refine lv_iconst (v := 0) hx hb d_Num_isRest_47 (by decide) ?_
            exact rt_i hx hb hrt hlocks (rfl) (()) (by unfold wdB; rw [decide_eq_false (fun z => e44 (z.2 k e25))]; rfl) (hP.sub [0, 1] rfl) (hK.sub [0] rfl) (hD.sub [0, 1] (by decide) rfl) hS d_Num_isRest_48
    exact L20 (sLen.getD j 0 + 1) 0 (by omega) (Nat.zero_le _) (fun q hq => absurd hq (by omega)) _ _ _ (hP.sub [0, 1] rfl) (hD.sub [0, 1] (by decide) rfl) hS (lv_sub hl [1, 2, 0] rfl)
  · have e13 : ¬ e - a = sLen.getD j 0 := fun z => c13 (by rw [z])
    refine lv_iconst (v := 0) hx hb d_Num_isRest_16 (by decide) ?_
    exact rt_i hx hb hrt hlocks (rfl) (()) (by unfold wdB; rw [decide_eq_false (fun z => e13 z.1)]; rfl) (hP.sub [0, 1] rfl) (hK.sub [0] rfl) (hD.sub [0, 1] (by decide) rfl) hS d_Num_isRest_17

set_option maxHeartbeats 4000000 in
set_option maxRecDepth 100000 in
theorem c_Num_findDigits (l : Launch) (D : va_G) (E : evD) (nm x : Nat) (cC : ClassId) (T : Nat → Nat) (hT : ∀ j, T j < 256) (mi fo fr to po : Int32) (a e : Nat) (hae : a ≤ e) (he : e ≤ 2400) (β : Nat) (hβ : β ≤ 16) : Ci (S := Unit) l y_Num_findDigits (wz y_Num_findDigits b_Num_findDigits 3 (some .boolean)) ({ frames := 2, cells := 0, slots := 0, locals := 42 }) D vcl (ev1 E) [.ref nm, .int (nI β)] [(cC, .char)] [(nm, .inr (3, [.ref x, .int (nI a), .int (nI e), .int mi, .int fo, .int fr, .int to, .int po])), (x, .inl (cC, 2400, .inl (tx T)))] 0 0 (fun (r : Int32) (_ : Unit) => r = bI (decide (0 < dN β T e a))) (fun _ => [(cC, .char)]) (fun _ : Unit => [(nm, .inr (3, [.ref x, .int (nI (dE β T e a)), .int (nI e), .int mi, .int fo, .int (nI a), .int (nI (dE β T e a)), .int po])), (x, .inl (cC, 2400, .inl (tx T)))]) := by
  have hev := ev1_ok E
  unfold Ci
  refine ct_of (y := y_Num_findDigits) (av := [.ref nm, .int (nI β)]) (cc := b_Num_findDigits) (maxL := 3) (ret := (some .boolean)) (Qc := fun A => va_Qi (S := Unit) (fun (r : Int32) (_ : Unit) => r = bI (decide (0 < dN β T e a))) (fun u tS => ctB D vcl ((fun _ => [(cC, .char)]) u) ((fun _ : Unit => [(nm, .inr (3, [.ref x, .int (nI (dE β T e a)), .int (nI e), .int mi, .int fo, .int (nI a), .int (nI (dE β T e a)), .int po])), (x, .inl (cC, 2400, .inl (tx T)))]) u) A tS) A) (by decide) rfl (Nat.le_of_ble_eq_true rfl) ?_
  intro p ee s m below meth cde ls A H locs hx hb hml hrt hlocks hown hin hts hA hP hK hD hS hE hl
  have hown : s.vm.findClass R_Num = some m.cls := hown
  have hts := wz_g hts
  have hl : lv_has ls 3 [(0, .ref nm), (1, .int (nI β))] := hl
  have hsk : sk β T e a ≤ e := sk_le hae
  have hsk2 := sk_ge β T e a
  refine lv_aload_n hx hb d_Num_findDigits_0 rfl (lv_at hl 0 rfl) ?_
  refine lv_aload_n hx hb d_Num_findDigits_1 rfl (lv_at hl 0 rfl) ?_
  refine va_get (D := D) (ci := 3) (v := .int (nI a)) (C := R_Num) (T := F_Num) (N := 8) hx hb hts w_Num hown hK hP 0 rfl rfl 1 (by decide) (hts _ kF_Num_25) (fun _ h9 => h9) rfl d_Num_findDigits_2 ?_
  refine va_put (D := D) (ci := 3) (v := .int (nI a)) (ty := .int) (C := R_Num) (T := F_Num) (N := 8) hx hb hts w_Num t_Num tk_Num n_Num hown hK hP hD hS 0 rfl rfl 5 (by decide) (hts _ kF_Num_77) (fun _ h9 => h9) rfl (by decide +kernel) (rfl) (rfl) (Nat.le_of_ble_eq_true rfl) d_Num_findDigits_5 (fun H locs hP hD hS => ?_)
  have hP : va_P D vcl [(nm, .inr (3, [.ref x, .int (nI a), .int (nI e), .int mi, .int fo, .int (nI a), .int to, .int po])), (x, .inl (cC, 2400, .inl (tx T)))] H := hP
  have hD : va_D A [(nm, .inr (3, [.ref x, .int (nI a), .int (nI e), .int mi, .int fo, .int (nI a), .int to, .int po])), (x, .inl (cC, 2400, .inl (tx T)))] := hD
  refine lv_aload_n hx hb d_Num_findDigits_8 rfl (lv_at hl 0 rfl) ?_
  refine lv_iload_n hx hb d_Num_findDigits_9 rfl (lv_at hl 1 rfl) ?_
  refine ca_i [] (va_runV (As := [.int (nI β)]) (rest := []) ⟨hx, hb, hml, hown, hts⟩ (c_Num_skipDigits l D E nm x cC T hT mi fo (nI a) to po a e (hae) (he) β (hβ) H.size) (xV 1 hts kC_Num_skipDigits kM_Num_80 kI_Num_skipDigits kS_Num_skipDigits kN_Num rfl rfl (by decide +kernel) ⟨Nat.le_of_ble_eq_true rfl, Nat.le_of_ble_eq_true rfl⟩) ⟨ct_blind hev, va_recv hK hP (ci := 3) (q0 := 0) rfl rfl, ct_pre hev hP hK hD hS hA hE [0, 1] rfl (by decide) [0] rfl⟩ rfl rfl hl.1 rfl (lv_room (Nat.le_of_ble_eq_true rfl)) d_Num_findDigits_10 ⟨Nat.le_of_ble_eq_true rfl, Nat.le_of_ble_eq_true rfl⟩) hP hD hS hA [0, 1] [] rfl rfl (by decide) (by decide) (fun r u H locs hw hP hD hS hK1 => ?_)
  subst hw
  have hP : va_P D vcl [(nm, .inr (3, [.ref x, .int (nI (sk β T e a)), .int (nI e), .int mi, .int fo, .int (nI a), .int to, .int po])), (x, .inl (cC, 2400, .inl (tx T)))] H := hP
  have hD : va_D A [(nm, .inr (3, [.ref x, .int (nI (sk β T e a)), .int (nI e), .int mi, .int fo, .int (nI a), .int to, .int po])), (x, .inl (cC, 2400, .inl (tx T)))] := hD
  refine lv_istore_n (lv' := [(2, .int (nI (sk β T e a - a))), (0, .ref nm), (1, .int (nI β))]) hx hb d_Num_findDigits_13 rfl hl (by decide) rfl (fun ls hl => ?_)
  refine lv_aload_n hx hb d_Num_findDigits_14 rfl (lv_at hl 1 rfl) ?_
  refine ca_i [] (va_runV (As := []) (rest := []) ⟨hx, hb, hml, hown, hts⟩ (c_Num_here l D E nm x cC T hT mi fo (nI a) to po (sk β T e a) e (hsk) (he) H.size) (xV 0 hts kC_Num_here kM_Num_17 kI_Num_here kS_Num_here kN_Num rfl rfl (by decide +kernel) ⟨Nat.le_of_ble_eq_true rfl, Nat.le_of_ble_eq_true rfl⟩) ⟨ct_blind hev, va_recv hK hP (ci := 3) (q0 := 0) rfl rfl, ct_pre hev hP hK hD hS hA hE [0, 1] rfl (by decide) [0] rfl⟩ rfl rfl hl.1 rfl (lv_room (Nat.le_of_ble_eq_true rfl)) d_Num_findDigits_15 ⟨Nat.le_of_ble_eq_true rfl, Nat.le_of_ble_eq_true rfl⟩) hP hD hS hA [0, 1] [] rfl rfl (by decide) (by decide) (fun r u H locs hw hP hD hS hK1 => ?_)
  subst hw
  have hP : va_P D vcl [(nm, .inr (3, [.ref x, .int (nI (sk β T e a)), .int (nI e), .int mi, .int fo, .int (nI a), .int to, .int po])), (x, .inl (cC, 2400, .inl (tx T)))] H := hP
  have hD : va_D A [(nm, .inr (3, [.ref x, .int (nI (sk β T e a)), .int (nI e), .int mi, .int fo, .int (nI a), .int to, .int po])), (x, .inl (cC, 2400, .inl (tx T)))] := hD
  refine lv_bipush (v := 46) hx hb d_Num_findDigits_18 (by decide) ?_
  refine lv_icmp_ne (tgt := 41) hx hb d_Num_findDigits_20 (by decide) (fun c20 => ?_) (fun c20 => ?_)
  · have e20 : ¬ lk T e (sk β T e a) = 46 := fun z => c20 (by rw [z]; rfl)
    refine lv_aload_n hx hb d_Num_findDigits_41 rfl (lv_at hl 1 rfl) ?_
    refine lv_aload_n hx hb d_Num_findDigits_42 rfl (lv_at hl 1 rfl) ?_
    refine va_get (D := D) (ci := 3) (v := .int (nI (sk β T e a))) (C := R_Num) (T := F_Num) (N := 8) hx hb hts w_Num hown hK hP 0 rfl rfl 1 (by decide) (hts _ kF_Num_25) (fun _ h9 => h9) rfl d_Num_findDigits_43 ?_
    refine va_put (D := D) (ci := 3) (v := .int (nI (sk β T e a))) (ty := .int) (C := R_Num) (T := F_Num) (N := 8) hx hb hts w_Num t_Num tk_Num n_Num hown hK hP hD hS 0 rfl rfl 6 (by decide) (hts _ kF_Num_84) (fun _ h9 => h9) rfl (by decide +kernel) (rfl) (rfl) (Nat.le_of_ble_eq_true rfl) d_Num_findDigits_46 (fun H locs hP hD hS => ?_)
    have hP : va_P D vcl [(nm, .inr (3, [.ref x, .int (nI (sk β T e a)), .int (nI e), .int mi, .int fo, .int (nI a), .int (nI (sk β T e a)), .int po])), (x, .inl (cC, 2400, .inl (tx T)))] H := hP
    have hD : va_D A [(nm, .inr (3, [.ref x, .int (nI (sk β T e a)), .int (nI e), .int mi, .int fo, .int (nI a), .int (nI (sk β T e a)), .int po])), (x, .inl (cC, 2400, .inl (tx T)))] := hD
    refine lv_iload_n hx hb d_Num_findDigits_49 rfl (lv_at hl 0 rfl) ?_
    refine lv_if_le (tgt := 57) hx hb d_Num_findDigits_50 (by decide) (fun c50 => ?_) (fun c50 => ?_)
    · have e50 : (sk β T e a - a) = 0 := (nI_le0 (by omega)).mp c50
      refine lv_iconst (v := 0) hx hb d_Num_findDigits_57 (by decide) ?_
      have hd : dE β T e a = sk β T e a := by unfold dE; rw [if_neg e20]
      have hn2 : dN β T e a = sk β T e a - a := by unfold dN; rw [if_neg e20]
      rw [← hd] at hP hD
      exact rt_i hx hb hrt hlocks (rfl) (()) (by rw [decide_eq_false (by omega)]; rfl) (hP.sub [0, 1] rfl) (hK.sub [0] rfl) (hD.sub [0, 1] (by decide) rfl) hS d_Num_findDigits_58
    · have e50 : (sk β T e a - a) ≠ 0 := fun z => c50 ((nI_le0 (by omega)).mpr z)
      refine lv_iconst (v := 1) hx hb d_Num_findDigits_53 (by decide) ?_
      refine lv_goto (tgt := 58) hx hb d_Num_findDigits_54 (by decide) ?_
      have hd : dE β T e a = sk β T e a := by unfold dE; rw [if_neg e20]
      have hn2 : dN β T e a = sk β T e a - a := by unfold dN; rw [if_neg e20]
      rw [← hd] at hP hD
      exact rt_i hx hb hrt hlocks (rfl) (()) (by rw [decide_eq_true (by omega)]; rfl) (hP.sub [0, 1] rfl) (hK.sub [0] rfl) (hD.sub [0, 1] (by decide) rfl) hS d_Num_findDigits_58
  · have e20 : lk T e (sk β T e a) = 46 := (nI_eq (b := 46) (by have := lk_b hT e (sk β T e a); omega) (by decide)).mp c20
    have h20 := lk_lt e20 (by decide)
    have h21 := sk_ge β T e (sk β T e a + 1)
    have h22 : sk β T e (sk β T e a + 1) ≤ e := sk_le (by omega)
    refine lv_aload_n hx hb d_Num_findDigits_23 rfl (lv_at hl 1 rfl) ?_
    refine lv_dup hx hb d_Num_findDigits_24 rfl ?_
    refine va_get (D := D) (ci := 3) (v := .int (nI (sk β T e a))) (C := R_Num) (T := F_Num) (N := 8) hx hb hts w_Num hown hK hP 0 rfl rfl 1 (by decide) (hts _ kF_Num_25) (fun _ h9 => h9) rfl d_Num_findDigits_25 ?_
    refine lv_iconst (v := 1) hx hb d_Num_findDigits_28 (by decide) ?_
    refine lv_iadd hx hb d_Num_findDigits_29 ?_
    refine tv_i (nI (sk β T e a + 1)) (nI_1 _) ?_
    refine va_put (D := D) (ci := 3) (v := .int (nI (sk β T e a + 1))) (ty := .int) (C := R_Num) (T := F_Num) (N := 8) hx hb hts w_Num t_Num tk_Num n_Num hown hK hP hD hS 0 rfl rfl 1 (by decide) (hts _ kF_Num_25) (fun _ h9 => h9) rfl (by decide +kernel) (rfl) (rfl) (Nat.le_of_ble_eq_true rfl) d_Num_findDigits_30 (fun H locs hP hD hS => ?_)
    have hP : va_P D vcl [(nm, .inr (3, [.ref x, .int (nI (sk β T e a + 1)), .int (nI e), .int mi, .int fo, .int (nI a), .int to, .int po])), (x, .inl (cC, 2400, .inl (tx T)))] H := hP
    have hD : va_D A [(nm, .inr (3, [.ref x, .int (nI (sk β T e a + 1)), .int (nI e), .int mi, .int fo, .int (nI a), .int to, .int po])), (x, .inl (cC, 2400, .inl (tx T)))] := hD
    refine lv_iload_n hx hb d_Num_findDigits_33 rfl (lv_at hl 0 rfl) ?_
    refine lv_aload_n hx hb d_Num_findDigits_34 rfl (lv_at hl 1 rfl) ?_
    refine lv_iload_n hx hb d_Num_findDigits_35 rfl (lv_at hl 2 rfl) ?_
    refine ca_i [] (va_runV (As := [.int (nI β)]) (rest := [.int (nI (sk β T e a - a))]) ⟨hx, hb, hml, hown, hts⟩ (c_Num_skipDigits l D E nm x cC T hT mi fo (nI a) to po (sk β T e a + 1) e (by omega) (he) β (hβ) H.size) (xV 1 hts kC_Num_skipDigits kM_Num_80 kI_Num_skipDigits kS_Num_skipDigits kN_Num rfl rfl (by decide +kernel) ⟨Nat.le_of_ble_eq_true rfl, Nat.le_of_ble_eq_true rfl⟩) ⟨ct_blind hev, va_recv hK hP (ci := 3) (q0 := 0) rfl rfl, ct_pre hev hP hK hD hS hA hE [0, 1] rfl (by decide) [0] rfl⟩ rfl rfl hl.1 rfl (lv_room (Nat.le_of_ble_eq_true rfl)) d_Num_findDigits_36 ⟨Nat.le_of_ble_eq_true rfl, Nat.le_of_ble_eq_true rfl⟩) hP hD hS hA [0, 1] [] rfl rfl (by decide) (by decide) (fun r u H locs hw hP hD hS hK1 => ?_)
    subst hw
    have hP : va_P D vcl [(nm, .inr (3, [.ref x, .int (nI (sk β T e (sk β T e a + 1))), .int (nI e), .int mi, .int fo, .int (nI a), .int to, .int po])), (x, .inl (cC, 2400, .inl (tx T)))] H := hP
    have hD : va_D A [(nm, .inr (3, [.ref x, .int (nI (sk β T e (sk β T e a + 1))), .int (nI e), .int mi, .int fo, .int (nI a), .int to, .int po])), (x, .inl (cC, 2400, .inl (tx T)))] := hD
    refine lv_iadd hx hb d_Num_findDigits_39 ?_
    refine tv_i (nI (sk β T e a - a + (sk β T e (sk β T e a + 1) - (sk β T e a + 1)))) (nI_add _ _) ?_
    refine lv_istore_n (lv' := [(2, .int (nI (sk β T e a - a + (sk β T e (sk β T e a + 1) - (sk β T e a + 1))))), (0, .ref nm), (1, .int (nI β))]) hx hb d_Num_findDigits_40 rfl hl (by decide) rfl (fun ls hl => ?_)
    refine lv_aload_n hx hb d_Num_findDigits_41 rfl (lv_at hl 1 rfl) ?_
    refine lv_aload_n hx hb d_Num_findDigits_42 rfl (lv_at hl 1 rfl) ?_
    refine va_get (D := D) (ci := 3) (v := .int (nI (sk β T e (sk β T e a + 1)))) (C := R_Num) (T := F_Num) (N := 8) hx hb hts w_Num hown hK hP 0 rfl rfl 1 (by decide) (hts _ kF_Num_25) (fun _ h9 => h9) rfl d_Num_findDigits_43 ?_
    refine va_put (D := D) (ci := 3) (v := .int (nI (sk β T e (sk β T e a + 1)))) (ty := .int) (C := R_Num) (T := F_Num) (N := 8) hx hb hts w_Num t_Num tk_Num n_Num hown hK hP hD hS 0 rfl rfl 6 (by decide) (hts _ kF_Num_84) (fun _ h9 => h9) rfl (by decide +kernel) (rfl) (rfl) (Nat.le_of_ble_eq_true rfl) d_Num_findDigits_46 (fun H locs hP hD hS => ?_)
    have hP : va_P D vcl [(nm, .inr (3, [.ref x, .int (nI (sk β T e (sk β T e a + 1))), .int (nI e), .int mi, .int fo, .int (nI a), .int (nI (sk β T e (sk β T e a + 1))), .int po])), (x, .inl (cC, 2400, .inl (tx T)))] H := hP
    have hD : va_D A [(nm, .inr (3, [.ref x, .int (nI (sk β T e (sk β T e a + 1))), .int (nI e), .int mi, .int fo, .int (nI a), .int (nI (sk β T e (sk β T e a + 1))), .int po])), (x, .inl (cC, 2400, .inl (tx T)))] := hD
    refine lv_iload_n hx hb d_Num_findDigits_49 rfl (lv_at hl 0 rfl) ?_
    refine lv_if_le (tgt := 57) hx hb d_Num_findDigits_50 (by decide) (fun c50 => ?_) (fun c50 => ?_)
    · have e50 : (sk β T e a - a + (sk β T e (sk β T e a + 1) - (sk β T e a + 1))) = 0 := (nI_le0 (by omega)).mp c50
      refine lv_iconst (v := 0) hx hb d_Num_findDigits_57 (by decide) ?_
      have hd : dE β T e a = sk β T e (sk β T e a + 1) := by unfold dE; rw [if_pos e20]
      have hn2 : dN β T e a = sk β T e a - a + (sk β T e (sk β T e a + 1) - (sk β T e a + 1)) := by unfold dN; rw [if_pos e20]
      rw [← hd] at hP hD
      exact rt_i hx hb hrt hlocks (rfl) (()) (by rw [decide_eq_false (by omega)]; rfl) (hP.sub [0, 1] rfl) (hK.sub [0] rfl) (hD.sub [0, 1] (by decide) rfl) hS d_Num_findDigits_58
    · have e50 : (sk β T e a - a + (sk β T e (sk β T e a + 1) - (sk β T e a + 1))) ≠ 0 := fun z => c50 ((nI_le0 (by omega)).mpr z)
      refine lv_iconst (v := 1) hx hb d_Num_findDigits_53 (by decide) ?_
      refine lv_goto (tgt := 58) hx hb d_Num_findDigits_54 (by decide) ?_
      have hd : dE β T e a = sk β T e (sk β T e a + 1) := by unfold dE; rw [if_pos e20]
      have hn2 : dN β T e a = sk β T e a - a + (sk β T e (sk β T e a + 1) - (sk β T e a + 1)) := by unfold dN; rw [if_pos e20]
      rw [← hd] at hP hD
      exact rt_i hx hb hrt hlocks (rfl) (()) (by rw [decide_eq_true (by omega)]; rfl) (hP.sub [0, 1] rfl) (hK.sub [0] rfl) (hD.sub [0, 1] (by decide) rfl) hS d_Num_findDigits_58
end
section
theorem pw_min {T : Nat → Nat} {s k : Nat} (h : s ≤ k) : (if (1000000 : Int32) < zI ((min (xv T s (k - s)) 1000000 * 10 + dg (T k) : Nat) : Int) then (1000000 : Int32) else zI ((min (xv T s (k - s)) 1000000 * 10 + dg (T k) : Nat) : Int)) = zI ((min (xv T s ((k + 1) - s)) 1000000 : Nat) : Int) := by
  have hd := dg_le (T k)
  have hm : min (xv T s (k - s)) 1000000 ≤ 1000000 := Nat.min_le_right _ _
  have e : xv T s (k + 1 - s) = xv T s (k - s) * 10 + dg (T k) := by
    rw [show k + 1 - s = (k - s) + 1 by omega]
    show xv T s (k - s) * 10 + dg (T (s + (k - s))) = _
    rw [show s + (k - s) = k by omega]
  rw [e, ← min_st]
  have hX : min (xv T s (k - s)) 1000000 * 10 + dg (T k) ≤ 10000016 := by omega
  generalize min (xv T s (k - s)) 1000000 * 10 + dg (T k) = X at hX ⊢
  show (if zI 1000000 < zI (X : Int) then zI 1000000 else zI (X : Int)) = _
  by_cases h2 : (1000000 : Int) < X
  · rw [if_pos ((zI_lt (by omega) (by omega) (by omega) (by omega)).mpr h2), Nat.min_eq_right (by omega)]; rfl
  · rw [if_neg (fun z => h2 ((zI_lt (by omega) (by omega) (by omega) (by omega)).mp z)), Nat.min_eq_left (by omega)]
/-- what a reading's finder leaves -/
def finOK (T : Nat → Nat) (n : Nat) (r : Int32) (u : Int32 × Int32 × Int32 × Int32 × Int32 × Int32 × Int32) : Prop :=
  r = bI (decide (xF T n ≠ 0)) ∧ u.2.2.1 = bI (xM T n) ∧ (xF T n ≠ 0 → u.2.2.2.1 = nI (xF T n)) ∧ (2 < xF T n → u.2.2.2.2.1 = nI (pxA T (xE T n) (xP T n)) ∧ u.2.2.2.2.2.1 = nI (lD T (xE T n) (xP T n)) ∧ u.2.2.2.2.2.2 = zI (pPw 1000000 (pxB T (xE T n) (xP T n)) T (xE T n) (lD T (xE T n) (xP T n))))
theorem fin_lit {T : Nat → Nat} {n : Nat} {ua ue uf ur ut up : Int32} (h1 : wdB T (xE T n) (xP T n) 0 = false) (h2 : wdB T (xE T n) (xP T n) 1 = false) (h : litB T (xE T n) (xP T n) = true → uf = nI (if pxB T (xE T n) (xP T n) then 4 else 3) ∧ ur = nI (pxA T (xE T n) (xP T n)) ∧ ut = nI (lD T (xE T n) (xP T n)) ∧ up = zI (pPw 1000000 (pxB T (xE T n) (xP T n)) T (xE T n) (lD T (xE T n) (xP T n)))) : finOK T n (bI (litB T (xE T n) (xP T n))) (ua, ue, bI (xM T n), uf, ur, ut, up) := by
  have hx : xF T n = if litB T (xE T n) (xP T n) then (if pxB T (xE T n) (xP T n) then 4 else 3) else 0 := by unfold xF; rw [h1, h2]; rfl
  unfold finOK
  rw [hx]
  cases hl : litB T (xE T n) (xP T n) with
  | false => exact ⟨rfl, rfl, fun z => absurd rfl z, fun z => by have z : 2 < 0 := z; omega⟩
  | true =>
    obtain ⟨a1, a2, a3, a4⟩ := h hl
    refine ⟨?_, rfl, fun _ => a1, fun _ => ⟨a2, a3, a4⟩⟩
    cases pxB T (xE T n) (xP T n) <;> rfl
theorem fin_1 {T : Nat → Nat} {n : Nat} {ua ue ur ut up : Int32} (h1 : wdB T (xE T n) (xP T n) 0 = true) : finOK T n 1 (ua, ue, bI (xM T n), nI 1, ur, ut, up) := by
  have hx : xF T n = 1 := by unfold xF; rw [h1]; rfl
  unfold finOK
  rw [hx]
  exact ⟨rfl, rfl, fun _ => rfl, fun z => absurd z (by decide)⟩
theorem fin_2 {T : Nat → Nat} {n : Nat} {ua ue ur ut up : Int32} (h1 : wdB T (xE T n) (xP T n) 0 = false) (h2 : wdB T (xE T n) (xP T n) 1 = true) : finOK T n 1 (ua, ue, bI (xM T n), nI 2, ur, ut, up) := by
  have hx : xF T n = 2 := by unfold xF; rw [h1, h2]; rfl
  unfold finOK
  rw [hx]
  exact ⟨rfl, rfl, fun _ => rfl, fun z => absurd z (by decide)⟩
theorem d_Num_findPower_0 : decode b_Num_findPower 0 = .ok (.aload_n 0, 1) := by decide +kernel
theorem d_Num_findPower_1 : decode b_Num_findPower 1 = .ok (.iconst 0, 1) := by decide +kernel
theorem d_Num_findPower_2 : decode b_Num_findPower 2 = .ok (.putfield 93, 3) := by decide +kernel
theorem d_Num_findPower_5 : decode b_Num_findPower 5 = .ok (.aload_n 0, 1) := by decide +kernel
theorem d_Num_findPower_6 : decode b_Num_findPower 6 = .ok (.getfield 35, 3) := by decide +kernel
theorem d_Num_findPower_9 : decode b_Num_findPower 9 = .ok (.iconst 4, 1) := by decide +kernel
theorem d_Num_findPower_10 : decode b_Num_findPower 10 = .ok (.if_icmp .ne 14, 3) := by decide +kernel
theorem d_Num_findPower_13 : decode b_Num_findPower 13 = .ok (.aload_n 0, 1) := by decide +kernel
theorem d_Num_findPower_14 : decode b_Num_findPower 14 = .ok (.bipush 112, 2) := by decide +kernel
theorem d_Num_findPower_16 : decode b_Num_findPower 16 = .ok (.bipush 80, 2) := by decide +kernel
theorem d_Num_findPower_18 : decode b_Num_findPower 18 = .ok (.invokevirtual 73, 3) := by decide +kernel
theorem d_Num_findPower_21 : decode b_Num_findPower 21 = .ok (.goto 11, 3) := by decide +kernel
theorem d_Num_findPower_24 : decode b_Num_findPower 24 = .ok (.aload_n 0, 1) := by decide +kernel
theorem d_Num_findPower_25 : decode b_Num_findPower 25 = .ok (.bipush 101, 2) := by decide +kernel
theorem d_Num_findPower_27 : decode b_Num_findPower 27 = .ok (.bipush 69, 2) := by decide +kernel
theorem d_Num_findPower_29 : decode b_Num_findPower 29 = .ok (.invokevirtual 73, 3) := by decide +kernel
theorem d_Num_findPower_32 : decode b_Num_findPower 32 = .ok (.istore_n 1, 1) := by decide +kernel
theorem d_Num_findPower_33 : decode b_Num_findPower 33 = .ok (.iload_n 1, 1) := by decide +kernel
theorem d_Num_findPower_34 : decode b_Num_findPower 34 = .ok (.ifCond .ne 17, 3) := by decide +kernel
theorem d_Num_findPower_37 : decode b_Num_findPower 37 = .ok (.aload_n 0, 1) := by decide +kernel
theorem d_Num_findPower_38 : decode b_Num_findPower 38 = .ok (.getfield 35, 3) := by decide +kernel
theorem d_Num_findPower_41 : decode b_Num_findPower 41 = .ok (.iconst 3, 1) := by decide +kernel
theorem d_Num_findPower_42 : decode b_Num_findPower 42 = .ok (.if_icmp .ne 7, 3) := by decide +kernel
theorem d_Num_findPower_45 : decode b_Num_findPower 45 = .ok (.iconst 1, 1) := by decide +kernel
theorem d_Num_findPower_46 : decode b_Num_findPower 46 = .ok (.goto 4, 3) := by decide +kernel
theorem d_Num_findPower_49 : decode b_Num_findPower 49 = .ok (.iconst 0, 1) := by decide +kernel
theorem d_Num_findPower_50 : decode b_Num_findPower 50 = .ok (.ireturn, 1) := by decide +kernel
theorem d_Num_findPower_51 : decode b_Num_findPower 51 = .ok (.aload_n 0, 1) := by decide +kernel
theorem d_Num_findPower_52 : decode b_Num_findPower 52 = .ok (.dup, 1) := by decide +kernel
theorem d_Num_findPower_53 : decode b_Num_findPower 53 = .ok (.getfield 25, 3) := by decide +kernel
theorem d_Num_findPower_56 : decode b_Num_findPower 56 = .ok (.iconst 1, 1) := by decide +kernel
theorem d_Num_findPower_57 : decode b_Num_findPower 57 = .ok (.iadd, 1) := by decide +kernel
theorem d_Num_findPower_58 : decode b_Num_findPower 58 = .ok (.putfield 25, 3) := by decide +kernel
theorem d_Num_findPower_61 : decode b_Num_findPower 61 = .ok (.aload_n 0, 1) := by decide +kernel
theorem d_Num_findPower_62 : decode b_Num_findPower 62 = .ok (.invokevirtual 17, 3) := by decide +kernel
theorem d_Num_findPower_65 : decode b_Num_findPower 65 = .ok (.bipush 45, 2) := by decide +kernel
theorem d_Num_findPower_67 : decode b_Num_findPower 67 = .ok (.if_icmp .ne 7, 3) := by decide +kernel
theorem d_Num_findPower_70 : decode b_Num_findPower 70 = .ok (.iconst 1, 1) := by decide +kernel
theorem d_Num_findPower_71 : decode b_Num_findPower 71 = .ok (.goto 4, 3) := by decide +kernel
theorem d_Num_findPower_74 : decode b_Num_findPower 74 = .ok (.iconst 0, 1) := by decide +kernel
theorem d_Num_findPower_75 : decode b_Num_findPower 75 = .ok (.istore_n 2, 1) := by decide +kernel
theorem d_Num_findPower_76 : decode b_Num_findPower 76 = .ok (.iload_n 2, 1) := by decide +kernel
theorem d_Num_findPower_77 : decode b_Num_findPower 77 = .ok (.ifCond .ne 12, 3) := by decide +kernel
theorem d_Num_findPower_80 : decode b_Num_findPower 80 = .ok (.aload_n 0, 1) := by decide +kernel
theorem d_Num_findPower_81 : decode b_Num_findPower 81 = .ok (.invokevirtual 17, 3) := by decide +kernel
theorem d_Num_findPower_84 : decode b_Num_findPower 84 = .ok (.bipush 43, 2) := by decide +kernel
theorem d_Num_findPower_86 : decode b_Num_findPower 86 = .ok (.if_icmp .ne 13, 3) := by decide +kernel
theorem d_Num_findPower_89 : decode b_Num_findPower 89 = .ok (.aload_n 0, 1) := by decide +kernel
theorem d_Num_findPower_90 : decode b_Num_findPower 90 = .ok (.dup, 1) := by decide +kernel
theorem d_Num_findPower_91 : decode b_Num_findPower 91 = .ok (.getfield 25, 3) := by decide +kernel
theorem d_Num_findPower_94 : decode b_Num_findPower 94 = .ok (.iconst 1, 1) := by decide +kernel
theorem d_Num_findPower_95 : decode b_Num_findPower 95 = .ok (.iadd, 1) := by decide +kernel
theorem d_Num_findPower_96 : decode b_Num_findPower 96 = .ok (.putfield 25, 3) := by decide +kernel
theorem d_Num_findPower_99 : decode b_Num_findPower 99 = .ok (.aload_n 0, 1) := by decide +kernel
theorem d_Num_findPower_100 : decode b_Num_findPower 100 = .ok (.getfield 25, 3) := by decide +kernel
theorem d_Num_findPower_103 : decode b_Num_findPower 103 = .ok (.istore_n 3, 1) := by decide +kernel
theorem d_Num_findPower_104 : decode b_Num_findPower 104 = .ok (.aload_n 0, 1) := by decide +kernel
theorem d_Num_findPower_105 : decode b_Num_findPower 105 = .ok (.getfield 25, 3) := by decide +kernel
theorem d_Num_findPower_108 : decode b_Num_findPower 108 = .ok (.aload_n 0, 1) := by decide +kernel
theorem d_Num_findPower_109 : decode b_Num_findPower 109 = .ok (.getfield 50, 3) := by decide +kernel
theorem d_Num_findPower_112 : decode b_Num_findPower 112 = .ok (.if_icmp .ge 62, 3) := by decide +kernel
theorem d_Num_findPower_115 : decode b_Num_findPower 115 = .ok (.aload_n 0, 1) := by decide +kernel
theorem d_Num_findPower_116 : decode b_Num_findPower 116 = .ok (.getfield 7, 3) := by decide +kernel
theorem d_Num_findPower_119 : decode b_Num_findPower 119 = .ok (.aload_n 0, 1) := by decide +kernel
theorem d_Num_findPower_120 : decode b_Num_findPower 120 = .ok (.getfield 25, 3) := by decide +kernel
theorem d_Num_findPower_123 : decode b_Num_findPower 123 = .ok (.caload, 1) := by decide +kernel
theorem d_Num_findPower_124 : decode b_Num_findPower 124 = .ok (.invokestatic 87, 3) := by decide +kernel
theorem d_Num_findPower_127 : decode b_Num_findPower 127 = .ok (.bipush 10, 2) := by decide +kernel
theorem d_Num_findPower_129 : decode b_Num_findPower 129 = .ok (.if_icmp .ge 45, 3) := by decide +kernel
theorem d_Num_findPower_132 : decode b_Num_findPower 132 = .ok (.aload_n 0, 1) := by decide +kernel
theorem d_Num_findPower_133 : decode b_Num_findPower 133 = .ok (.aload_n 0, 1) := by decide +kernel
theorem d_Num_findPower_134 : decode b_Num_findPower 134 = .ok (.getfield 93, 3) := by decide +kernel
theorem d_Num_findPower_137 : decode b_Num_findPower 137 = .ok (.bipush 10, 2) := by decide +kernel
theorem d_Num_findPower_139 : decode b_Num_findPower 139 = .ok (.imul, 1) := by decide +kernel
theorem d_Num_findPower_140 : decode b_Num_findPower 140 = .ok (.aload_n 0, 1) := by decide +kernel
theorem d_Num_findPower_141 : decode b_Num_findPower 141 = .ok (.getfield 7, 3) := by decide +kernel
theorem d_Num_findPower_144 : decode b_Num_findPower 144 = .ok (.aload_n 0, 1) := by decide +kernel
theorem d_Num_findPower_145 : decode b_Num_findPower 145 = .ok (.getfield 25, 3) := by decide +kernel
theorem d_Num_findPower_148 : decode b_Num_findPower 148 = .ok (.caload, 1) := by decide +kernel
theorem d_Num_findPower_149 : decode b_Num_findPower 149 = .ok (.invokestatic 87, 3) := by decide +kernel
theorem d_Num_findPower_152 : decode b_Num_findPower 152 = .ok (.iadd, 1) := by decide +kernel
theorem d_Num_findPower_153 : decode b_Num_findPower 153 = .ok (.ldc 96, 2) := by decide +kernel
theorem d_Num_findPower_155 : decode b_Num_findPower 155 = .ok (.invokestatic 44, 3) := by decide +kernel
theorem d_Num_findPower_158 : decode b_Num_findPower 158 = .ok (.putfield 93, 3) := by decide +kernel
theorem d_Num_findPower_161 : decode b_Num_findPower 161 = .ok (.aload_n 0, 1) := by decide +kernel
theorem d_Num_findPower_162 : decode b_Num_findPower 162 = .ok (.dup, 1) := by decide +kernel
theorem d_Num_findPower_163 : decode b_Num_findPower 163 = .ok (.getfield 25, 3) := by decide +kernel
theorem d_Num_findPower_166 : decode b_Num_findPower 166 = .ok (.iconst 1, 1) := by decide +kernel
theorem d_Num_findPower_167 : decode b_Num_findPower 167 = .ok (.iadd, 1) := by decide +kernel
theorem d_Num_findPower_168 : decode b_Num_findPower 168 = .ok (.putfield 25, 3) := by decide +kernel
theorem d_Num_findPower_171 : decode b_Num_findPower 171 = .ok (.goto (-67), 3) := by decide +kernel
theorem d_Num_findPower_174 : decode b_Num_findPower 174 = .ok (.iload_n 2, 1) := by decide +kernel
theorem d_Num_findPower_175 : decode b_Num_findPower 175 = .ok (.ifCond .eq 12, 3) := by decide +kernel
theorem d_Num_findPower_178 : decode b_Num_findPower 178 = .ok (.aload_n 0, 1) := by decide +kernel
theorem d_Num_findPower_179 : decode b_Num_findPower 179 = .ok (.aload_n 0, 1) := by decide +kernel
theorem d_Num_findPower_180 : decode b_Num_findPower 180 = .ok (.getfield 93, 3) := by decide +kernel
theorem d_Num_findPower_183 : decode b_Num_findPower 183 = .ok (.ineg, 1) := by decide +kernel
theorem d_Num_findPower_184 : decode b_Num_findPower 184 = .ok (.putfield 93, 3) := by decide +kernel
theorem d_Num_findPower_187 : decode b_Num_findPower 187 = .ok (.aload_n 0, 1) := by decide +kernel
theorem d_Num_findPower_188 : decode b_Num_findPower 188 = .ok (.getfield 25, 3) := by decide +kernel
theorem d_Num_findPower_191 : decode b_Num_findPower 191 = .ok (.iload_n 3, 1) := by decide +kernel
theorem d_Num_findPower_192 : decode b_Num_findPower 192 = .ok (.if_icmp .le 7, 3) := by decide +kernel
theorem d_Num_findPower_195 : decode b_Num_findPower 195 = .ok (.iconst 1, 1) := by decide +kernel
theorem d_Num_findPower_196 : decode b_Num_findPower 196 = .ok (.goto 4, 3) := by decide +kernel
theorem d_Num_findPower_199 : decode b_Num_findPower 199 = .ok (.iconst 0, 1) := by decide +kernel
theorem d_Num_findPower_200 : decode b_Num_findPower 200 = .ok (.ireturn, 1) := by decide +kernel
theorem d_Num_findLiteral_0 : decode b_Num_findLiteral 0 = .ok (.aload_n 0, 1) := by decide +kernel
theorem d_Num_findLiteral_1 : decode b_Num_findLiteral 1 = .ok (.aload_n 0, 1) := by decide +kernel
theorem d_Num_findLiteral_2 : decode b_Num_findLiteral 2 = .ok (.invokevirtual 63, 3) := by decide +kernel
theorem d_Num_findLiteral_5 : decode b_Num_findLiteral 5 = .ok (.ifCond .eq 7, 3) := by decide +kernel
theorem d_Num_findLiteral_8 : decode b_Num_findLiteral 8 = .ok (.iconst 4, 1) := by decide +kernel
theorem d_Num_findLiteral_9 : decode b_Num_findLiteral 9 = .ok (.goto 4, 3) := by decide +kernel
theorem d_Num_findLiteral_12 : decode b_Num_findLiteral 12 = .ok (.iconst 3, 1) := by decide +kernel
theorem d_Num_findLiteral_13 : decode b_Num_findLiteral 13 = .ok (.putfield 35, 3) := by decide +kernel
theorem d_Num_findLiteral_16 : decode b_Num_findLiteral 16 = .ok (.aload_n 0, 1) := by decide +kernel
theorem d_Num_findLiteral_17 : decode b_Num_findLiteral 17 = .ok (.aload_n 0, 1) := by decide +kernel
theorem d_Num_findLiteral_18 : decode b_Num_findLiteral 18 = .ok (.getfield 35, 3) := by decide +kernel
theorem d_Num_findLiteral_21 : decode b_Num_findLiteral 21 = .ok (.iconst 4, 1) := by decide +kernel
theorem d_Num_findLiteral_22 : decode b_Num_findLiteral 22 = .ok (.if_icmp .ne 8, 3) := by decide +kernel
theorem d_Num_findLiteral_25 : decode b_Num_findLiteral 25 = .ok (.bipush 16, 2) := by decide +kernel
theorem d_Num_findLiteral_27 : decode b_Num_findLiteral 27 = .ok (.goto 5, 3) := by decide +kernel
theorem d_Num_findLiteral_30 : decode b_Num_findLiteral 30 = .ok (.bipush 10, 2) := by decide +kernel
theorem d_Num_findLiteral_32 : decode b_Num_findLiteral 32 = .ok (.invokevirtual 66, 3) := by decide +kernel
theorem d_Num_findLiteral_35 : decode b_Num_findLiteral 35 = .ok (.ifCond .eq 10, 3) := by decide +kernel
theorem d_Num_findLiteral_38 : decode b_Num_findLiteral 38 = .ok (.aload_n 0, 1) := by decide +kernel
theorem d_Num_findLiteral_39 : decode b_Num_findLiteral 39 = .ok (.invokevirtual 70, 3) := by decide +kernel
theorem d_Num_findLiteral_42 : decode b_Num_findLiteral 42 = .ok (.ifCond .ne 5, 3) := by decide +kernel
theorem d_Num_findLiteral_45 : decode b_Num_findLiteral 45 = .ok (.iconst 0, 1) := by decide +kernel
theorem d_Num_findLiteral_46 : decode b_Num_findLiteral 46 = .ok (.ireturn, 1) := by decide +kernel
theorem d_Num_findLiteral_47 : decode b_Num_findLiteral 47 = .ok (.aload_n 0, 1) := by decide +kernel
theorem d_Num_findLiteral_48 : decode b_Num_findLiteral 48 = .ok (.bipush 102, 2) := by decide +kernel
theorem d_Num_findLiteral_50 : decode b_Num_findLiteral 50 = .ok (.bipush 70, 2) := by decide +kernel
theorem d_Num_findLiteral_52 : decode b_Num_findLiteral 52 = .ok (.invokevirtual 73, 3) := by decide +kernel
theorem d_Num_findLiteral_55 : decode b_Num_findLiteral 55 = .ok (.ifCond .ne 14, 3) := by decide +kernel
theorem d_Num_findLiteral_58 : decode b_Num_findLiteral 58 = .ok (.aload_n 0, 1) := by decide +kernel
theorem d_Num_findLiteral_59 : decode b_Num_findLiteral 59 = .ok (.bipush 100, 2) := by decide +kernel
theorem d_Num_findLiteral_61 : decode b_Num_findLiteral 61 = .ok (.bipush 68, 2) := by decide +kernel
theorem d_Num_findLiteral_63 : decode b_Num_findLiteral 63 = .ok (.invokevirtual 73, 3) := by decide +kernel
theorem d_Num_findLiteral_66 : decode b_Num_findLiteral 66 = .ok (.ifCond .eq 13, 3) := by decide +kernel
theorem d_Num_findLiteral_69 : decode b_Num_findLiteral 69 = .ok (.aload_n 0, 1) := by decide +kernel
theorem d_Num_findLiteral_70 : decode b_Num_findLiteral 70 = .ok (.dup, 1) := by decide +kernel
theorem d_Num_findLiteral_71 : decode b_Num_findLiteral 71 = .ok (.getfield 25, 3) := by decide +kernel
theorem d_Num_findLiteral_74 : decode b_Num_findLiteral 74 = .ok (.iconst 1, 1) := by decide +kernel
theorem d_Num_findLiteral_75 : decode b_Num_findLiteral 75 = .ok (.iadd, 1) := by decide +kernel
theorem d_Num_findLiteral_76 : decode b_Num_findLiteral 76 = .ok (.putfield 25, 3) := by decide +kernel
theorem d_Num_findLiteral_79 : decode b_Num_findLiteral 79 = .ok (.aload_n 0, 1) := by decide +kernel
theorem d_Num_findLiteral_80 : decode b_Num_findLiteral 80 = .ok (.getfield 25, 3) := by decide +kernel
theorem d_Num_findLiteral_83 : decode b_Num_findLiteral 83 = .ok (.aload_n 0, 1) := by decide +kernel
theorem d_Num_findLiteral_84 : decode b_Num_findLiteral 84 = .ok (.getfield 50, 3) := by decide +kernel
theorem d_Num_findLiteral_87 : decode b_Num_findLiteral 87 = .ok (.if_icmp .ne 7, 3) := by decide +kernel
theorem d_Num_findLiteral_90 : decode b_Num_findLiteral 90 = .ok (.iconst 1, 1) := by decide +kernel
theorem d_Num_findLiteral_91 : decode b_Num_findLiteral 91 = .ok (.goto 4, 3) := by decide +kernel
theorem d_Num_findLiteral_94 : decode b_Num_findLiteral 94 = .ok (.iconst 0, 1) := by decide +kernel
theorem d_Num_findLiteral_95 : decode b_Num_findLiteral 95 = .ok (.ireturn, 1) := by decide +kernel
theorem d_Num_findIn_0 : decode b_Num_findIn 0 = .ok (.aload_n 0, 1) := by decide +kernel
theorem d_Num_findIn_1 : decode b_Num_findIn 1 = .ok (.iload_n 1, 1) := by decide +kernel
theorem d_Num_findIn_2 : decode b_Num_findIn 2 = .ok (.invokevirtual 13, 3) := by decide +kernel
theorem d_Num_findIn_5 : decode b_Num_findIn 5 = .ok (.aload_n 0, 1) := by decide +kernel
theorem d_Num_findIn_6 : decode b_Num_findIn 6 = .ok (.aload_n 0, 1) := by decide +kernel
theorem d_Num_findIn_7 : decode b_Num_findIn 7 = .ok (.invokevirtual 17, 3) := by decide +kernel
theorem d_Num_findIn_10 : decode b_Num_findIn 10 = .ok (.bipush 45, 2) := by decide +kernel
theorem d_Num_findIn_12 : decode b_Num_findIn 12 = .ok (.if_icmp .ne 7, 3) := by decide +kernel
theorem d_Num_findIn_15 : decode b_Num_findIn 15 = .ok (.iconst 1, 1) := by decide +kernel
theorem d_Num_findIn_16 : decode b_Num_findIn 16 = .ok (.goto 4, 3) := by decide +kernel
theorem d_Num_findIn_19 : decode b_Num_findIn 19 = .ok (.iconst 0, 1) := by decide +kernel
theorem d_Num_findIn_20 : decode b_Num_findIn 20 = .ok (.putfield 21, 3) := by decide +kernel
theorem d_Num_findIn_23 : decode b_Num_findIn 23 = .ok (.aload_n 0, 1) := by decide +kernel
theorem d_Num_findIn_24 : decode b_Num_findIn 24 = .ok (.getfield 21, 3) := by decide +kernel
theorem d_Num_findIn_27 : decode b_Num_findIn 27 = .ok (.ifCond .ne 12, 3) := by decide +kernel
theorem d_Num_findIn_30 : decode b_Num_findIn 30 = .ok (.aload_n 0, 1) := by decide +kernel
theorem d_Num_findIn_31 : decode b_Num_findIn 31 = .ok (.invokevirtual 17, 3) := by decide +kernel
theorem d_Num_findIn_34 : decode b_Num_findIn 34 = .ok (.bipush 43, 2) := by decide +kernel
theorem d_Num_findIn_36 : decode b_Num_findIn 36 = .ok (.if_icmp .ne 13, 3) := by decide +kernel
theorem d_Num_findIn_39 : decode b_Num_findIn 39 = .ok (.aload_n 0, 1) := by decide +kernel
theorem d_Num_findIn_40 : decode b_Num_findIn 40 = .ok (.dup, 1) := by decide +kernel
theorem d_Num_findIn_41 : decode b_Num_findIn 41 = .ok (.getfield 25, 3) := by decide +kernel
theorem d_Num_findIn_44 : decode b_Num_findIn 44 = .ok (.iconst 1, 1) := by decide +kernel
theorem d_Num_findIn_45 : decode b_Num_findIn 45 = .ok (.iadd, 1) := by decide +kernel
theorem d_Num_findIn_46 : decode b_Num_findIn 46 = .ok (.putfield 25, 3) := by decide +kernel
theorem d_Num_findIn_49 : decode b_Num_findIn 49 = .ok (.aload_n 0, 1) := by decide +kernel
theorem d_Num_findIn_50 : decode b_Num_findIn 50 = .ok (.ldc 29, 2) := by decide +kernel
theorem d_Num_findIn_52 : decode b_Num_findIn 52 = .ok (.invokevirtual 31, 3) := by decide +kernel
theorem d_Num_findIn_55 : decode b_Num_findIn 55 = .ok (.ifCond .eq 10, 3) := by decide +kernel
theorem d_Num_findIn_58 : decode b_Num_findIn 58 = .ok (.aload_n 0, 1) := by decide +kernel
theorem d_Num_findIn_59 : decode b_Num_findIn 59 = .ok (.iconst 1, 1) := by decide +kernel
theorem d_Num_findIn_60 : decode b_Num_findIn 60 = .ok (.putfield 35, 3) := by decide +kernel
theorem d_Num_findIn_63 : decode b_Num_findIn 63 = .ok (.iconst 1, 1) := by decide +kernel
theorem d_Num_findIn_64 : decode b_Num_findIn 64 = .ok (.ireturn, 1) := by decide +kernel
theorem d_Num_findIn_65 : decode b_Num_findIn 65 = .ok (.aload_n 0, 1) := by decide +kernel
theorem d_Num_findIn_66 : decode b_Num_findIn 66 = .ok (.ldc 38, 2) := by decide +kernel
theorem d_Num_findIn_68 : decode b_Num_findIn 68 = .ok (.invokevirtual 31, 3) := by decide +kernel
theorem d_Num_findIn_71 : decode b_Num_findIn 71 = .ok (.ifCond .eq 10, 3) := by decide +kernel
theorem d_Num_findIn_74 : decode b_Num_findIn 74 = .ok (.aload_n 0, 1) := by decide +kernel
theorem d_Num_findIn_75 : decode b_Num_findIn 75 = .ok (.iconst 2, 1) := by decide +kernel
theorem d_Num_findIn_76 : decode b_Num_findIn 76 = .ok (.putfield 35, 3) := by decide +kernel
theorem d_Num_findIn_79 : decode b_Num_findIn 79 = .ok (.iconst 1, 1) := by decide +kernel
theorem d_Num_findIn_80 : decode b_Num_findIn 80 = .ok (.ireturn, 1) := by decide +kernel
theorem d_Num_findIn_81 : decode b_Num_findIn 81 = .ok (.aload_n 0, 1) := by decide +kernel
theorem d_Num_findIn_82 : decode b_Num_findIn 82 = .ok (.invokevirtual 40, 3) := by decide +kernel
theorem d_Num_findIn_85 : decode b_Num_findIn 85 = .ok (.ireturn, 1) := by decide +kernel
set_option maxHeartbeats 4000000 in
set_option maxRecDepth 100000 in
theorem c_Num_findPower (l : Launch) (D : va_G) (E : evD) (nm x : Nat) (cC : ClassId) (T : Nat → Nat) (hT : ∀ j, T j < 256) (mi fo fr to po : Int32) (a e : Nat) (hae : a ≤ e) (he : e ≤ 2400) (hex : Bool) : Ci (S := Unit) l y_Num_findPower (wz y_Num_findPower b_Num_findPower 4 (some .boolean)) ({ frames := 2, cells := 0, slots := 0, locals := 42 }) D vcl (ev1 E) [.ref nm] [(cC, .char)] [(nm, .inr (3, [.ref x, .int (nI a), .int (nI e), .int mi, .int (nI (if hex then 4 else 3)), .int fr, .int to, .int po])), (x, .inl (cC, 2400, .inl (tx T)))] 0 0 (fun (r : Int32) (_ : Unit) => r = bI (pOk hex T e a)) (fun _ => [(cC, .char)]) (fun _ : Unit => [(nm, .inr (3, [.ref x, .int (nI (pAt hex T e a)), .int (nI e), .int mi, .int (nI (if hex then 4 else 3)), .int fr, .int to, .int (zI (pPw 1000000 hex T e a))])), (x, .inl (cC, 2400, .inl (tx T)))]) := by
  have hev := ev1_ok E
  unfold Ci
  refine ct_of (y := y_Num_findPower) (av := [.ref nm]) (cc := b_Num_findPower) (maxL := 4) (ret := (some .boolean)) (Qc := fun A => va_Qi (S := Unit) (fun (r : Int32) (_ : Unit) => r = bI (pOk hex T e a)) (fun u tS => ctB D vcl ((fun _ => [(cC, .char)]) u) ((fun _ : Unit => [(nm, .inr (3, [.ref x, .int (nI (pAt hex T e a)), .int (nI e), .int mi, .int (nI (if hex then 4 else 3)), .int fr, .int to, .int (zI (pPw 1000000 hex T e a))])), (x, .inl (cC, 2400, .inl (tx T)))]) u) A tS) A) (by decide) rfl (Nat.le_of_ble_eq_true rfl) ?_
  intro p ee s m below meth cde ls A H locs hx hb hml hrt hlocks hown hin hts hA hP hK hD hS hE hl
  have hown : s.vm.findClass R_Num = some m.cls := hown
  have hts := wz_g hts
  have hl : lv_has ls 4 [(0, .ref nm)] := hl
  have hlb := lk_b hT e (a + 1)
  refine lv_aload_n hx hb d_Num_findPower_0 rfl (lv_at hl 0 rfl) ?_
  refine lv_iconst (v := 0) hx hb d_Num_findPower_1 (by decide) ?_
  refine tv_i (zI 0) (rfl) ?_
  refine va_put (D := D) (ci := 3) (v := .int (zI 0)) (ty := .int) (C := R_Num) (T := F_Num) (N := 8) hx hb hts w_Num t_Num tk_Num n_Num hown hK hP hD hS 0 rfl rfl 7 (by decide) (hts _ kF_Num_93) (fun _ h9 => h9) rfl (by decide +kernel) (rfl) (rfl) (Nat.le_of_ble_eq_true rfl) d_Num_findPower_2 (fun H locs hP hD hS => ?_)
  have hP : va_P D vcl [(nm, .inr (3, [.ref x, .int (nI a), .int (nI e), .int mi, .int (nI (if hex then 4 else 3)), .int fr, .int to, .int (zI 0)])), (x, .inl (cC, 2400, .inl (tx T)))] H := hP
  have hD : va_D A [(nm, .inr (3, [.ref x, .int (nI a), .int (nI e), .int mi, .int (nI (if hex then 4 else 3)), .int fr, .int to, .int (zI 0)])), (x, .inl (cC, 2400, .inl (tx T)))] := hD
  refine lv_aload_n hx hb d_Num_findPower_5 rfl (lv_at hl 0 rfl) ?_
  refine va_get (D := D) (ci := 3) (v := .int (nI (if hex then 4 else 3))) (C := R_Num) (T := F_Num) (N := 8) hx hb hts w_Num hown hK hP 0 rfl rfl 4 (by decide) (hts _ kF_Num_35) (fun _ h9 => h9) rfl d_Num_findPower_6 ?_
  refine lv_iconst (v := 4) hx hb d_Num_findPower_9 (by decide) ?_
  refine lv_icmp_ne (tgt := 24) hx hb d_Num_findPower_10 (by decide) (fun c10 => ?_) (fun c10 => ?_)
  · have e10 : hex = false := by cases hex; (· rfl); exact absurd rfl c10
    refine lv_aload_n hx hb d_Num_findPower_24 rfl (lv_at hl 0 rfl) ?_
    refine lv_bipush (v := 101) hx hb d_Num_findPower_25 (by decide) ?_
    refine lv_bipush (v := 69) hx hb d_Num_findPower_27 (by decide) ?_
    refine ca_i [] (va_runV (As := [.int 101, .int 69]) (rest := []) ⟨hx, hb, hml, hown, hts⟩ (c_Num_isHere l D E nm x cC T hT mi (nI (if hex then 4 else 3)) fr to (zI 0) a e (hae) (he) 101 69 (by decide) (by decide) H.size) (xV 2 hts kC_Num_isHere kM_Num_73 kI_Num_isHere kS_Num_isHere kN_Num rfl rfl (by decide +kernel) ⟨Nat.le_of_ble_eq_true rfl, Nat.le_of_ble_eq_true rfl⟩) ⟨ct_blind hev, va_recv hK hP (ci := 3) (q0 := 0) rfl rfl, ct_pre hev hP hK hD hS hA hE [0, 1] rfl (by decide) [0] rfl⟩ rfl rfl hl.1 rfl (lv_room (Nat.le_of_ble_eq_true rfl)) d_Num_findPower_29 ⟨Nat.le_of_ble_eq_true rfl, Nat.le_of_ble_eq_true rfl⟩) hP hD hS hA [0, 1] [] rfl rfl (by decide) (by decide) (fun r u H locs hw hP hD hS hK1 => ?_)
    subst hw
    have hP : va_P D vcl [(nm, .inr (3, [.ref x, .int (nI a), .int (nI e), .int mi, .int (nI (if hex then 4 else 3)), .int fr, .int to, .int (zI 0)])), (x, .inl (cC, 2400, .inl (tx T)))] H := hP
    have hD : va_D A [(nm, .inr (3, [.ref x, .int (nI a), .int (nI e), .int mi, .int (nI (if hex then 4 else 3)), .int fr, .int to, .int (zI 0)])), (x, .inl (cC, 2400, .inl (tx T)))] := hD
    refine tv_i (bI (mkB hex T e a)) (by unfold mkB; rw [e10]; rfl) ?_
    refine lv_istore_n (lv' := [(1, .int (bI (mkB hex T e a))), (0, .ref nm)]) hx hb d_Num_findPower_32 rfl hl (by decide) rfl (fun ls hl => ?_)
    refine lv_iload_n hx hb d_Num_findPower_33 rfl (lv_at hl 0 rfl) ?_
    refine lv_if_ne (tgt := 51) hx hb d_Num_findPower_34 (by decide) (fun c34 => ?_) (fun c34 => ?_)
    · have e34 : mkB hex T e a = true := tt_of (fun z => c34 ((bI_0 _).mpr z))
      have hmk := mk_lt e34
      have hps := pS_le (T := T) hmk
      refine lv_aload_n hx hb d_Num_findPower_51 rfl (lv_at hl 1 rfl) ?_
      refine lv_dup hx hb d_Num_findPower_52 rfl ?_
      refine va_get (D := D) (ci := 3) (v := .int (nI a)) (C := R_Num) (T := F_Num) (N := 8) hx hb hts w_Num hown hK hP 0 rfl rfl 1 (by decide) (hts _ kF_Num_25) (fun _ h9 => h9) rfl d_Num_findPower_53 ?_
      refine lv_iconst (v := 1) hx hb d_Num_findPower_56 (by decide) ?_
      refine lv_iadd hx hb d_Num_findPower_57 ?_
      refine tv_i (nI (a + 1)) (nI_1 a) ?_
      refine va_put (D := D) (ci := 3) (v := .int (nI (a + 1))) (ty := .int) (C := R_Num) (T := F_Num) (N := 8) hx hb hts w_Num t_Num tk_Num n_Num hown hK hP hD hS 0 rfl rfl 1 (by decide) (hts _ kF_Num_25) (fun _ h9 => h9) rfl (by decide +kernel) (rfl) (rfl) (Nat.le_of_ble_eq_true rfl) d_Num_findPower_58 (fun H locs hP hD hS => ?_)
      have hP : va_P D vcl [(nm, .inr (3, [.ref x, .int (nI (a + 1)), .int (nI e), .int mi, .int (nI (if hex then 4 else 3)), .int fr, .int to, .int (zI 0)])), (x, .inl (cC, 2400, .inl (tx T)))] H := hP
      have hD : va_D A [(nm, .inr (3, [.ref x, .int (nI (a + 1)), .int (nI e), .int mi, .int (nI (if hex then 4 else 3)), .int fr, .int to, .int (zI 0)])), (x, .inl (cC, 2400, .inl (tx T)))] := hD
      refine lv_aload_n hx hb d_Num_findPower_61 rfl (lv_at hl 1 rfl) ?_
      refine ca_i [] (va_runV (As := []) (rest := []) ⟨hx, hb, hml, hown, hts⟩ (c_Num_here l D E nm x cC T hT mi (nI (if hex then 4 else 3)) fr to (zI 0) (a + 1) e (by omega) (he) H.size) (xV 0 hts kC_Num_here kM_Num_17 kI_Num_here kS_Num_here kN_Num rfl rfl (by decide +kernel) ⟨Nat.le_of_ble_eq_true rfl, Nat.le_of_ble_eq_true rfl⟩) ⟨ct_blind hev, va_recv hK hP (ci := 3) (q0 := 0) rfl rfl, ct_pre hev hP hK hD hS hA hE [0, 1] rfl (by decide) [0] rfl⟩ rfl rfl hl.1 rfl (lv_room (Nat.le_of_ble_eq_true rfl)) d_Num_findPower_62 ⟨Nat.le_of_ble_eq_true rfl, Nat.le_of_ble_eq_true rfl⟩) hP hD hS hA [0, 1] [] rfl rfl (by decide) (by decide) (fun r u H locs hw hP hD hS hK1 => ?_)
      subst hw
      have hP : va_P D vcl [(nm, .inr (3, [.ref x, .int (nI (a + 1)), .int (nI e), .int mi, .int (nI (if hex then 4 else 3)), .int fr, .int to, .int (zI 0)])), (x, .inl (cC, 2400, .inl (tx T)))] H := hP
      have hD : va_D A [(nm, .inr (3, [.ref x, .int (nI (a + 1)), .int (nI e), .int mi, .int (nI (if hex then 4 else 3)), .int fr, .int to, .int (zI 0)])), (x, .inl (cC, 2400, .inl (tx T)))] := hD
      refine lv_bipush (v := 45) hx hb d_Num_findPower_65 (by decide) ?_
      refine lv_icmp_ne (tgt := 74) hx hb d_Num_findPower_67 (by decide) (fun c67 => ?_) (fun c67 => ?_)
      · have e67 : ¬ lk T e (a + 1) = 45 := fun z => c67 (by rw [z]; rfl)
        refine lv_iconst (v := 0) hx hb d_Num_findPower_74 (by decide) ?_
        refine tv_i (bI (ngB T e a)) (by rw [show ngB T e a = false from decide_eq_false e67]; rfl) ?_
        refine lv_istore_n (lv' := [(2, .int (bI (ngB T e a))), (1, .int (bI (mkB hex T e a))), (0, .ref nm)]) hx hb d_Num_findPower_75 rfl hl (by decide) rfl (fun ls hl => ?_)
        refine lv_iload_n hx hb d_Num_findPower_76 rfl (lv_at hl 0 rfl) ?_
        refine lv_if_ne (tgt := 89) hx hb d_Num_findPower_77 (by decide) (fun c77 => ?_) (fun c77 => ?_)
        · exact absurd ((bI_0 _).mpr (decide_eq_false e67)) c77
        · refine lv_aload_n hx hb d_Num_findPower_80 rfl (lv_at hl 2 rfl) ?_
          refine ca_i [] (va_runV (As := []) (rest := []) ⟨hx, hb, hml, hown, hts⟩ (c_Num_here l D E nm x cC T hT mi (nI (if hex then 4 else 3)) fr to (zI 0) (a + 1) e (by omega) (he) H.size) (xV 0 hts kC_Num_here kM_Num_17 kI_Num_here kS_Num_here kN_Num rfl rfl (by decide +kernel) ⟨Nat.le_of_ble_eq_true rfl, Nat.le_of_ble_eq_true rfl⟩) ⟨ct_blind hev, va_recv hK hP (ci := 3) (q0 := 0) rfl rfl, ct_pre hev hP hK hD hS hA hE [0, 1] rfl (by decide) [0] rfl⟩ rfl rfl hl.1 rfl (lv_room (Nat.le_of_ble_eq_true rfl)) d_Num_findPower_81 ⟨Nat.le_of_ble_eq_true rfl, Nat.le_of_ble_eq_true rfl⟩) hP hD hS hA [0, 1] [] rfl rfl (by decide) (by decide) (fun r u H locs hw hP hD hS hK1 => ?_)
          subst hw
          have hP : va_P D vcl [(nm, .inr (3, [.ref x, .int (nI (a + 1)), .int (nI e), .int mi, .int (nI (if hex then 4 else 3)), .int fr, .int to, .int (zI 0)])), (x, .inl (cC, 2400, .inl (tx T)))] H := hP
          have hD : va_D A [(nm, .inr (3, [.ref x, .int (nI (a + 1)), .int (nI e), .int mi, .int (nI (if hex then 4 else 3)), .int fr, .int to, .int (zI 0)])), (x, .inl (cC, 2400, .inl (tx T)))] := hD
          refine lv_bipush (v := 43) hx hb d_Num_findPower_84 (by decide) ?_
          refine lv_icmp_ne (tgt := 99) hx hb d_Num_findPower_86 (by decide) (fun c86 => ?_) (fun c86 => ?_)
          · have e86 : ¬ lk T e (a + 1) = 43 := fun z => c86 (by rw [z]; rfl)
            have hps2 : pS T e a = a + 1 := by unfold pS; rw [if_neg (fun z => z.elim e67 e86)]
            rw [← hps2] at hP hD
            rw [show zI 0 = zI ((min (xv T (pS T e a) (pS T e a - pS T e a)) 1000000 : Nat) : Int) from by rw [Nat.sub_self]; rfl] at hP hD
            refine lv_aload_n hx hb d_Num_findPower_99 rfl (lv_at hl 2 rfl) ?_
            refine va_get (D := D) (ci := 3) (v := .int (nI (pS T e a))) (C := R_Num) (T := F_Num) (N := 8) hx hb hts w_Num hown hK hP 0 rfl rfl 1 (by decide) (hts _ kF_Num_25) (fun _ h9 => h9) rfl d_Num_findPower_100 ?_
            refine lv_istore_n (lv' := [(3, .int (nI (pS T e a))), (2, .int (bI (ngB T e a))), (1, .int (bI (mkB hex T e a))), (0, .ref nm)]) hx hb d_Num_findPower_103 rfl hl (by decide) rfl (fun ls hl => ?_)
            have L104 : ∀ (kk : Nat) (k : Nat), e - k < kk → (pS T e a ≤ k) → (k ≤ e) → (sk 10 T e k = sk 10 T e (pS T e a)) → ∀ (H : Heap) (locs : List Loc) (ls : Array Slot), va_P D vcl [(nm, .inr (3, [.ref x, .int (nI k), .int (nI e), .int mi, .int (nI (if hex then 4 else 3)), .int fr, .int to, .int (zI ((min (xv T (pS T e a) (k - pS T e a)) 1000000 : Nat) : Int))])), (x, .inl (cC, 2400, .inl (tx T)))] H → va_D A [(nm, .inr (3, [.ref x, .int (nI k), .int (nI e), .int mi, .int (nI (if hex then 4 else 3)), .int fr, .int to, .int (zI ((min (xv T (pS T e a) (k - pS T e a)) 1000000 : Nat) : Int))])), (x, .inl (cC, 2400, .inl (tx T)))] → va_S A s.heap H locs → lv_has ls 4 [(0, .ref nm), (2, .int (bI (ngB T e a))), (3, .int (nI (pS T e a)))] → W p l ee ({ frames := 2, cells := 0, slots := 0, locals := 42 }) s m ([.ref nm] : List Value).toArray below meth cde H locs 0 0 (MQ below (va_Qi (S := Unit) (fun (r : Int32) (_ : Unit) => r = bI (pOk hex T e a)) (fun u tS => ctB D vcl ((fun _ => [(cC, .char)]) u) ((fun _ : Unit => [(nm, .inr (3, [.ref x, .int (nI (pAt hex T e a)), .int (nI e), .int mi, .int (nI (if hex then 4 else 3)), .int fr, .int to, .int (zI (pPw 1000000 hex T e a))])), (x, .inl (cC, 2400, .inl (tx T)))]) u) A tS) A) ([.ref nm] : List Value).toArray s 0 0 A) (F0 m 104 ls []) := by
              intro kk
              induction kk with
              | zero => intro k hmz; exact absurd hmz (Nat.not_lt_zero _)
              | succ kk ih =>
                intro k hmz hk1 hke hv H locs ls hP hD hS hl
                refine lv_aload_n hx hb d_Num_findPower_104 rfl (lv_at hl 0 rfl) ?_
                refine va_get (D := D) (ci := 3) (v := .int (nI k)) (C := R_Num) (T := F_Num) (N := 8) hx hb hts w_Num hown hK hP 0 rfl rfl 1 (by decide) (hts _ kF_Num_25) (fun _ h9 => h9) rfl d_Num_findPower_105 ?_
                refine lv_aload_n hx hb d_Num_findPower_108 rfl (lv_at hl 0 rfl) ?_
                refine va_get (D := D) (ci := 3) (v := .int (nI e)) (C := R_Num) (T := F_Num) (N := 8) hx hb hts w_Num hown hK hP 0 rfl rfl 2 (by decide) (hts _ kF_Num_50) (fun _ h9 => h9) rfl d_Num_findPower_109 ?_
                refine lv_icmp_ge (tgt := 174) hx hb d_Num_findPower_112 (by decide) (fun c112 => ?_) (fun c112 => ?_)
                · have e112 : e ≤ k := (nI_leI (by omega) (by omega)).mp c112
                  have hkx : k = pX T e a := by unfold pX; rw [← hv]; exact (sk_f (fun z => absurd z.1 (by omega))).symm
                  rw [hkx] at hP hD
                  have hP : va_P D vcl [(nm, .inr (3, [.ref x, .int (nI (pX T e a)), .int (nI e), .int mi, .int (nI (if hex then 4 else 3)), .int fr, .int to, .int (zI ((min (pE T e a) 1000000 : Nat) : Int))])), (x, .inl (cC, 2400, .inl (tx T)))] H := hP
                  have hD : va_D A [(nm, .inr (3, [.ref x, .int (nI (pX T e a)), .int (nI e), .int mi, .int (nI (if hex then 4 else 3)), .int fr, .int to, .int (zI ((min (pE T e a) 1000000 : Nat) : Int))])), (x, .inl (cC, 2400, .inl (tx T)))] := hD
                  refine lv_iload_n hx hb d_Num_findPower_174 rfl (lv_at hl 1 rfl) ?_
                  refine lv_if_eq (tgt := 187) hx hb d_Num_findPower_175 (by decide) (fun c175 => ?_) (fun c175 => ?_)
                  · have e175 : ngB T e a = false := (bI_0 _).mp c175
                    refine lv_aload_n hx hb d_Num_findPower_187 rfl (lv_at hl 0 rfl) ?_
                    refine va_get (D := D) (ci := 3) (v := .int (nI (pX T e a))) (C := R_Num) (T := F_Num) (N := 8) hx hb hts w_Num hown hK hP 0 rfl rfl 1 (by decide) (hts _ kF_Num_25) (fun _ h9 => h9) rfl d_Num_findPower_188 ?_
                    refine lv_iload_n hx hb d_Num_findPower_191 rfl (lv_at hl 2 rfl) ?_
                    refine lv_icmp_le (tgt := 199) hx hb d_Num_findPower_192 (by decide) (fun c192 => ?_) (fun c192 => ?_)
                    · have e192 : pX T e a ≤ pS T e a := (nI_leI (by omega) (by omega)).mp c192
                      refine lv_iconst (v := 0) hx hb d_Num_findPower_199 (by decide) ?_
                      rw [show nI (pX T e a) = nI (pAt hex T e a) by unfold pAt; rw [e34]; rfl, show zI ((min (pE T e a) 1000000 : Nat) : Int) = zI (pPw 1000000 hex T e a) by unfold pPw; rw [e34, e175]; rfl] at hP hD
                      exact rt_i hx hb hrt hlocks (rfl) (()) (by unfold pOk; rw [e34]; show 0 = bI (decide (pS T e a < pX T e a)); rw [decide_eq_false (by omega)]; rfl) (hP.sub [0, 1] rfl) (hK.sub [0] rfl) (hD.sub [0, 1] (by decide) rfl) hS d_Num_findPower_200
                    · have e192 : ¬ pX T e a ≤ pS T e a := fun z => c192 ((nI_leI (by omega) (by omega)).mpr z)
                      refine lv_iconst (v := 1) hx hb d_Num_findPower_195 (by decide) ?_
                      refine lv_goto (tgt := 200) hx hb d_Num_findPower_196 (by decide) ?_
                      rw [show nI (pX T e a) = nI (pAt hex T e a) by unfold pAt; rw [e34]; rfl, show zI ((min (pE T e a) 1000000 : Nat) : Int) = zI (pPw 1000000 hex T e a) by unfold pPw; rw [e34, e175]; rfl] at hP hD
                      exact rt_i hx hb hrt hlocks (rfl) (()) (by unfold pOk; rw [e34]; show 1 = bI (decide (pS T e a < pX T e a)); rw [decide_eq_true (by omega)]; rfl) (hP.sub [0, 1] rfl) (hK.sub [0] rfl) (hD.sub [0, 1] (by decide) rfl) hS d_Num_findPower_200
                  · have e175 : ngB T e a = true := tt_of (fun z => c175 ((bI_0 _).mpr z))
                    refine lv_aload_n hx hb d_Num_findPower_178 rfl (lv_at hl 0 rfl) ?_
                    refine lv_aload_n hx hb d_Num_findPower_179 rfl (lv_at hl 0 rfl) ?_
                    refine va_get (D := D) (ci := 3) (v := .int (zI ((min (pE T e a) 1000000 : Nat) : Int))) (C := R_Num) (T := F_Num) (N := 8) hx hb hts w_Num hown hK hP 0 rfl rfl 7 (by decide) (hts _ kF_Num_93) (fun _ h9 => h9) rfl d_Num_findPower_180 ?_
                    refine lv_ineg hx hb d_Num_findPower_183 ?_
                    refine tv_i (zI (-((min (pE T e a) 1000000 : Nat) : Int))) (zI_neg _) ?_
                    refine va_put (D := D) (ci := 3) (v := .int (zI (-((min (pE T e a) 1000000 : Nat) : Int)))) (ty := .int) (C := R_Num) (T := F_Num) (N := 8) hx hb hts w_Num t_Num tk_Num n_Num hown hK hP hD hS 0 rfl rfl 7 (by decide) (hts _ kF_Num_93) (fun _ h9 => h9) rfl (by decide +kernel) (rfl) (rfl) (Nat.le_of_ble_eq_true rfl) d_Num_findPower_184 (fun H locs hP hD hS => ?_)
                    have hP : va_P D vcl [(nm, .inr (3, [.ref x, .int (nI (pX T e a)), .int (nI e), .int mi, .int (nI (if hex then 4 else 3)), .int fr, .int to, .int (zI (-((min (pE T e a) 1000000 : Nat) : Int)))])), (x, .inl (cC, 2400, .inl (tx T)))] H := hP
                    have hD : va_D A [(nm, .inr (3, [.ref x, .int (nI (pX T e a)), .int (nI e), .int mi, .int (nI (if hex then 4 else 3)), .int fr, .int to, .int (zI (-((min (pE T e a) 1000000 : Nat) : Int)))])), (x, .inl (cC, 2400, .inl (tx T)))] := hD
                    refine lv_aload_n hx hb d_Num_findPower_187 rfl (lv_at hl 0 rfl) ?_
                    refine va_get (D := D) (ci := 3) (v := .int (nI (pX T e a))) (C := R_Num) (T := F_Num) (N := 8) hx hb hts w_Num hown hK hP 0 rfl rfl 1 (by decide) (hts _ kF_Num_25) (fun _ h9 => h9) rfl d_Num_findPower_188 ?_
                    refine lv_iload_n hx hb d_Num_findPower_191 rfl (lv_at hl 2 rfl) ?_
                    refine lv_icmp_le (tgt := 199) hx hb d_Num_findPower_192 (by decide) (fun c192 => ?_) (fun c192 => ?_)
                    · have e192 : pX T e a ≤ pS T e a := (nI_leI (by omega) (by omega)).mp c192
                      refine lv_iconst (v := 0) hx hb d_Num_findPower_199 (by decide) ?_
                      rw [show nI (pX T e a) = nI (pAt hex T e a) by unfold pAt; rw [e34]; rfl, show zI (-((min (pE T e a) 1000000 : Nat) : Int)) = zI (pPw 1000000 hex T e a) by unfold pPw; rw [e34, e175]; rfl] at hP hD
                      exact rt_i hx hb hrt hlocks (rfl) (()) (by unfold pOk; rw [e34]; show 0 = bI (decide (pS T e a < pX T e a)); rw [decide_eq_false (by omega)]; rfl) (hP.sub [0, 1] rfl) (hK.sub [0] rfl) (hD.sub [0, 1] (by decide) rfl) hS d_Num_findPower_200
                    · have e192 : ¬ pX T e a ≤ pS T e a := fun z => c192 ((nI_leI (by omega) (by omega)).mpr z)
                      refine lv_iconst (v := 1) hx hb d_Num_findPower_195 (by decide) ?_
                      refine lv_goto (tgt := 200) hx hb d_Num_findPower_196 (by decide) ?_
                      rw [show nI (pX T e a) = nI (pAt hex T e a) by unfold pAt; rw [e34]; rfl, show zI (-((min (pE T e a) 1000000 : Nat) : Int)) = zI (pPw 1000000 hex T e a) by unfold pPw; rw [e34, e175]; rfl] at hP hD
                      exact rt_i hx hb hrt hlocks (rfl) (()) (by unfold pOk; rw [e34]; show 1 = bI (decide (pS T e a < pX T e a)); rw [decide_eq_true (by omega)]; rfl) (hP.sub [0, 1] rfl) (hK.sub [0] rfl) (hD.sub [0, 1] (by decide) rfl) hS d_Num_findPower_200
                · have e112 : k < e := Nat.lt_of_not_le (fun z => c112 ((nI_leI (by omega) (by omega)).mpr z))
                  refine lv_aload_n hx hb d_Num_findPower_115 rfl (lv_at hl 0 rfl) ?_
                  refine va_get (D := D) (ci := 3) (v := .ref x) (C := R_Num) (T := F_Num) (N := 8) hx hb hts w_Num hown hK hP 0 rfl rfl 0 (by decide) (hts _ kF_Num_7) (fun _ h9 => h9) rfl d_Num_findPower_116 ?_
                  refine lv_aload_n hx hb d_Num_findPower_119 rfl (lv_at hl 0 rfl) ?_
                  refine va_get (D := D) (ci := 3) (v := .int (nI k)) (C := R_Num) (T := F_Num) (N := 8) hx hb hts w_Num hown hK hP 0 rfl rfl 1 (by decide) (hts _ kF_Num_25) (fun _ h9 => h9) rfl d_Num_findPower_120 ?_
                  refine va_cald hx hb hK hP 1 0 rfl rfl (i := nI k) (vp_in_nI (show k < 2400 by omega) (by decide)) d_Num_findPower_123 ?_
                  refine tv_i (nI (T (k))) (by rw [nI_clamp (by omega)]; rfl) ?_
                  refine ca_i [(nm, .inr (3, [.ref x, .int (nI k), .int (nI e), .int mi, .int (nI (if hex then 4 else 3)), .int fr, .int to, .int (zI ((min (xv T (pS T e a) (k - pS T e a)) 1000000 : Nat) : Int))])), (x, .inl (cC, 2400, .inl (tx T)))] (va_runSN (As := [.int (nI (T (k)))]) (rest := []) ⟨hx, hb, hml, hown, hts⟩ (c_Rea_digitOf l D E (T (k)) (by have := hT k; omega) H.size) (xSN 1 hts kC_Rea_digitOf hE.1.1 kT_Rea_digitOf kN_Rea rfl rfl (by decide +kernel) ⟨Nat.le_of_ble_eq_true rfl, Nat.le_of_ble_eq_true rfl⟩) ⟨ct_blind hev, ct_pre hev hP hK hD hS hA hE [] rfl (by decide) [] rfl⟩ rfl rfl hl.1 rfl (lv_room (Nat.le_of_ble_eq_true rfl)) d_Num_findPower_124 ⟨Nat.le_of_ble_eq_true rfl, Nat.le_of_ble_eq_true rfl⟩) hP hD hS hA [] [0, 1] rfl rfl (by decide) (by decide) (fun r u H locs hw hP hD hS hK1 => ?_)
                  subst hw
                  have hP : va_P D vcl [(nm, .inr (3, [.ref x, .int (nI k), .int (nI e), .int mi, .int (nI (if hex then 4 else 3)), .int fr, .int to, .int (zI ((min (xv T (pS T e a) (k - pS T e a)) 1000000 : Nat) : Int))])), (x, .inl (cC, 2400, .inl (tx T)))] H := hP
                  have hD : va_D A [(nm, .inr (3, [.ref x, .int (nI k), .int (nI e), .int mi, .int (nI (if hex then 4 else 3)), .int fr, .int to, .int (zI ((min (xv T (pS T e a) (k - pS T e a)) 1000000 : Nat) : Int))])), (x, .inl (cC, 2400, .inl (tx T)))] := hD
                  refine lv_bipush (v := 10) hx hb d_Num_findPower_127 (by decide) ?_
                  refine lv_icmp_ge (tgt := 174) hx hb d_Num_findPower_129 (by decide) (fun c129 => ?_) (fun c129 => ?_)
                  · have e129 : 10 ≤ dg (T k) := (nI_leI (a := 10) (by decide) (by have := dg_le (T k); omega)).mp c129
                    have hkx : k = pX T e a := by unfold pX; rw [← hv]; exact (sk_f (fun z => absurd z.2 (by omega))).symm
                    rw [hkx] at hP hD
                    have hP : va_P D vcl [(nm, .inr (3, [.ref x, .int (nI (pX T e a)), .int (nI e), .int mi, .int (nI (if hex then 4 else 3)), .int fr, .int to, .int (zI ((min (pE T e a) 1000000 : Nat) : Int))])), (x, .inl (cC, 2400, .inl (tx T)))] H := hP
                    have hD : va_D A [(nm, .inr (3, [.ref x, .int (nI (pX T e a)), .int (nI e), .int mi, .int (nI (if hex then 4 else 3)), .int fr, .int to, .int (zI ((min (pE T e a) 1000000 : Nat) : Int))])), (x, .inl (cC, 2400, .inl (tx T)))] := hD
                    refine lv_iload_n hx hb d_Num_findPower_174 rfl (lv_at hl 1 rfl) ?_
                    refine lv_if_eq (tgt := 187) hx hb d_Num_findPower_175 (by decide) (fun c175 => ?_) (fun c175 => ?_)
                    · have e175 : ngB T e a = false := (bI_0 _).mp c175
                      refine lv_aload_n hx hb d_Num_findPower_187 rfl (lv_at hl 0 rfl) ?_
                      refine va_get (D := D) (ci := 3) (v := .int (nI (pX T e a))) (C := R_Num) (T := F_Num) (N := 8) hx hb hts w_Num hown hK hP 0 rfl rfl 1 (by decide) (hts _ kF_Num_25) (fun _ h9 => h9) rfl d_Num_findPower_188 ?_
                      refine lv_iload_n hx hb d_Num_findPower_191 rfl (lv_at hl 2 rfl) ?_
                      refine lv_icmp_le (tgt := 199) hx hb d_Num_findPower_192 (by decide) (fun c192 => ?_) (fun c192 => ?_)
                      · have e192 : pX T e a ≤ pS T e a := (nI_leI (by omega) (by omega)).mp c192
                        refine lv_iconst (v := 0) hx hb d_Num_findPower_199 (by decide) ?_
                        rw [show nI (pX T e a) = nI (pAt hex T e a) by unfold pAt; rw [e34]; rfl, show zI ((min (pE T e a) 1000000 : Nat) : Int) = zI (pPw 1000000 hex T e a) by unfold pPw; rw [e34, e175]; rfl] at hP hD
                        exact rt_i hx hb hrt hlocks (rfl) (()) (by unfold pOk; rw [e34]; show 0 = bI (decide (pS T e a < pX T e a)); rw [decide_eq_false (by omega)]; rfl) (hP.sub [0, 1] rfl) (hK.sub [0] rfl) (hD.sub [0, 1] (by decide) rfl) hS d_Num_findPower_200
                      · have e192 : ¬ pX T e a ≤ pS T e a := fun z => c192 ((nI_leI (by omega) (by omega)).mpr z)
                        refine lv_iconst (v := 1) hx hb d_Num_findPower_195 (by decide) ?_
                        refine lv_goto (tgt := 200) hx hb d_Num_findPower_196 (by decide) ?_
                        rw [show nI (pX T e a) = nI (pAt hex T e a) by unfold pAt; rw [e34]; rfl, show zI ((min (pE T e a) 1000000 : Nat) : Int) = zI (pPw 1000000 hex T e a) by unfold pPw; rw [e34, e175]; rfl] at hP hD
                        exact rt_i hx hb hrt hlocks (rfl) (()) (by unfold pOk; rw [e34]; show 1 = bI (decide (pS T e a < pX T e a)); rw [decide_eq_true (by omega)]; rfl) (hP.sub [0, 1] rfl) (hK.sub [0] rfl) (hD.sub [0, 1] (by decide) rfl) hS d_Num_findPower_200
                    · have e175 : ngB T e a = true := tt_of (fun z => c175 ((bI_0 _).mpr z))
                      refine lv_aload_n hx hb d_Num_findPower_178 rfl (lv_at hl 0 rfl) ?_
                      refine lv_aload_n hx hb d_Num_findPower_179 rfl (lv_at hl 0 rfl) ?_
                      refine va_get (D := D) (ci := 3) (v := .int (zI ((min (pE T e a) 1000000 : Nat) : Int))) (C := R_Num) (T := F_Num) (N := 8) hx hb hts w_Num hown hK hP 0 rfl rfl 7 (by decide) (hts _ kF_Num_93) (fun _ h9 => h9) rfl d_Num_findPower_180 ?_
                      refine lv_ineg hx hb d_Num_findPower_183 ?_
                      refine tv_i (zI (-((min (pE T e a) 1000000 : Nat) : Int))) (zI_neg _) ?_
                      refine va_put (D := D) (ci := 3) (v := .int (zI (-((min (pE T e a) 1000000 : Nat) : Int)))) (ty := .int) (C := R_Num) (T := F_Num) (N := 8) hx hb hts w_Num t_Num tk_Num n_Num hown hK hP hD hS 0 rfl rfl 7 (by decide) (hts _ kF_Num_93) (fun _ h9 => h9) rfl (by decide +kernel) (rfl) (rfl) (Nat.le_of_ble_eq_true rfl) d_Num_findPower_184 (fun H locs hP hD hS => ?_)
                      have hP : va_P D vcl [(nm, .inr (3, [.ref x, .int (nI (pX T e a)), .int (nI e), .int mi, .int (nI (if hex then 4 else 3)), .int fr, .int to, .int (zI (-((min (pE T e a) 1000000 : Nat) : Int)))])), (x, .inl (cC, 2400, .inl (tx T)))] H := hP
                      have hD : va_D A [(nm, .inr (3, [.ref x, .int (nI (pX T e a)), .int (nI e), .int mi, .int (nI (if hex then 4 else 3)), .int fr, .int to, .int (zI (-((min (pE T e a) 1000000 : Nat) : Int)))])), (x, .inl (cC, 2400, .inl (tx T)))] := hD
                      refine lv_aload_n hx hb d_Num_findPower_187 rfl (lv_at hl 0 rfl) ?_
                      refine va_get (D := D) (ci := 3) (v := .int (nI (pX T e a))) (C := R_Num) (T := F_Num) (N := 8) hx hb hts w_Num hown hK hP 0 rfl rfl 1 (by decide) (hts _ kF_Num_25) (fun _ h9 => h9) rfl d_Num_findPower_188 ?_
                      refine lv_iload_n hx hb d_Num_findPower_191 rfl (lv_at hl 2 rfl) ?_
                      refine lv_icmp_le (tgt := 199) hx hb d_Num_findPower_192 (by decide) (fun c192 => ?_) (fun c192 => ?_)
                      · have e192 : pX T e a ≤ pS T e a := (nI_leI (by omega) (by omega)).mp c192
                        refine lv_iconst (v := 0) hx hb d_Num_findPower_199 (by decide) ?_
                        rw [show nI (pX T e a) = nI (pAt hex T e a) by unfold pAt; rw [e34]; rfl, show zI (-((min (pE T e a) 1000000 : Nat) : Int)) = zI (pPw 1000000 hex T e a) by unfold pPw; rw [e34, e175]; rfl] at hP hD
                        exact rt_i hx hb hrt hlocks (rfl) (()) (by unfold pOk; rw [e34]; show 0 = bI (decide (pS T e a < pX T e a)); rw [decide_eq_false (by omega)]; rfl) (hP.sub [0, 1] rfl) (hK.sub [0] rfl) (hD.sub [0, 1] (by decide) rfl) hS d_Num_findPower_200
                      · have e192 : ¬ pX T e a ≤ pS T e a := fun z => c192 ((nI_leI (by omega) (by omega)).mpr z)
                        refine lv_iconst (v := 1) hx hb d_Num_findPower_195 (by decide) ?_
                        refine lv_goto (tgt := 200) hx hb d_Num_findPower_196 (by decide) ?_
                        rw [show nI (pX T e a) = nI (pAt hex T e a) by unfold pAt; rw [e34]; rfl, show zI (-((min (pE T e a) 1000000 : Nat) : Int)) = zI (pPw 1000000 hex T e a) by unfold pPw; rw [e34, e175]; rfl] at hP hD
                        exact rt_i hx hb hrt hlocks (rfl) (()) (by unfold pOk; rw [e34]; show 1 = bI (decide (pS T e a < pX T e a)); rw [decide_eq_true (by omega)]; rfl) (hP.sub [0, 1] rfl) (hK.sub [0] rfl) (hD.sub [0, 1] (by decide) rfl) hS d_Num_findPower_200
                  · have e129 : dg (T k) < 10 := Nat.lt_of_not_le (fun z => c129 ((nI_leI (a := 10) (by decide) (by have := dg_le (T k); omega)).mpr z))
                    refine lv_aload_n hx hb d_Num_findPower_132 rfl (lv_at hl 0 rfl) ?_
                    refine lv_aload_n hx hb d_Num_findPower_133 rfl (lv_at hl 0 rfl) ?_
                    refine va_get (D := D) (ci := 3) (v := .int (zI ((min (xv T (pS T e a) (k - pS T e a)) 1000000 : Nat) : Int))) (C := R_Num) (T := F_Num) (N := 8) hx hb hts w_Num hown hK hP 0 rfl rfl 7 (by decide) (hts _ kF_Num_93) (fun _ h9 => h9) rfl d_Num_findPower_134 ?_
                    refine lv_bipush (v := 10) hx hb d_Num_findPower_137 (by decide) ?_
                    refine lv_imul hx hb d_Num_findPower_139 ?_
                    refine lv_aload_n hx hb d_Num_findPower_140 rfl (lv_at hl 0 rfl) ?_
                    refine va_get (D := D) (ci := 3) (v := .ref x) (C := R_Num) (T := F_Num) (N := 8) hx hb hts w_Num hown hK hP 0 rfl rfl 0 (by decide) (hts _ kF_Num_7) (fun _ h9 => h9) rfl d_Num_findPower_141 ?_
                    refine lv_aload_n hx hb d_Num_findPower_144 rfl (lv_at hl 0 rfl) ?_
                    refine va_get (D := D) (ci := 3) (v := .int (nI k)) (C := R_Num) (T := F_Num) (N := 8) hx hb hts w_Num hown hK hP 0 rfl rfl 1 (by decide) (hts _ kF_Num_25) (fun _ h9 => h9) rfl d_Num_findPower_145 ?_
                    refine va_cald hx hb hK hP 1 0 rfl rfl (i := nI k) (vp_in_nI (show k < 2400 by omega) (by decide)) d_Num_findPower_148 ?_
                    refine tv_i (nI (T (k))) (by rw [nI_clamp (by omega)]; rfl) ?_
                    refine ca_i [(nm, .inr (3, [.ref x, .int (nI k), .int (nI e), .int mi, .int (nI (if hex then 4 else 3)), .int fr, .int to, .int (zI ((min (xv T (pS T e a) (k - pS T e a)) 1000000 : Nat) : Int))])), (x, .inl (cC, 2400, .inl (tx T)))] (va_runSN (As := [.int (nI (T (k)))]) (rest := [.int ((zI ((min (xv T (pS T e a) (k - pS T e a)) 1000000 : Nat) : Int)) * 10), .ref nm]) ⟨hx, hb, hml, hown, hts⟩ (c_Rea_digitOf l D E (T (k)) (by have := hT k; omega) H.size) (xSN 1 hts kC_Rea_digitOf hE.1.1 kT_Rea_digitOf kN_Rea rfl rfl (by decide +kernel) ⟨Nat.le_of_ble_eq_true rfl, Nat.le_of_ble_eq_true rfl⟩) ⟨ct_blind hev, ct_pre hev hP hK hD hS hA hE [] rfl (by decide) [] rfl⟩ rfl rfl hl.1 rfl (lv_room (Nat.le_of_ble_eq_true rfl)) d_Num_findPower_149 ⟨Nat.le_of_ble_eq_true rfl, Nat.le_of_ble_eq_true rfl⟩) hP hD hS hA [] [0, 1] rfl rfl (by decide) (by decide) (fun r u H locs hw hP hD hS hK1 => ?_)
                    subst hw
                    have hP : va_P D vcl [(nm, .inr (3, [.ref x, .int (nI k), .int (nI e), .int mi, .int (nI (if hex then 4 else 3)), .int fr, .int to, .int (zI ((min (xv T (pS T e a) (k - pS T e a)) 1000000 : Nat) : Int))])), (x, .inl (cC, 2400, .inl (tx T)))] H := hP
                    have hD : va_D A [(nm, .inr (3, [.ref x, .int (nI k), .int (nI e), .int mi, .int (nI (if hex then 4 else 3)), .int fr, .int to, .int (zI ((min (xv T (pS T e a) (k - pS T e a)) 1000000 : Nat) : Int))])), (x, .inl (cC, 2400, .inl (tx T)))] := hD
                    refine lv_iadd hx hb d_Num_findPower_152 ?_
                    refine tv_i (zI ((min (xv T (pS T e a) (k - pS T e a)) 1000000 * 10 + dg (T k) : Nat) : Int)) (by show zI _ * zI 10 + nI _ = _; rw [zI_mul, ← zI_nI, zI_add]; exact congrArg zI (by omega)) ?_
                    refine lv_ldc hx hb hown (hts _ kK_Num_96) d_Num_findPower_153 ?_
                    refine va_mmin hx hb (by rw [hml]; exact hl.1.symm) hown (hts _ kM_Num_44) (hts _ kT_mmin) (hts _ kN_Math) (hts _ kC_mmin) (Nat.le_of_ble_eq_true rfl) (Nat.le_of_ble_eq_true rfl) (Nat.le_of_ble_eq_true rfl) (Nat.le_of_ble_eq_true rfl) d_Num_findPower_155 ?_
                    refine tv_i (zI ((min (xv T (pS T e a) ((k + 1) - pS T e a)) 1000000 : Nat) : Int)) (pw_min hk1) ?_
                    refine va_put (D := D) (ci := 3) (v := .int (zI ((min (xv T (pS T e a) ((k + 1) - pS T e a)) 1000000 : Nat) : Int))) (ty := .int) (C := R_Num) (T := F_Num) (N := 8) hx hb hts w_Num t_Num tk_Num n_Num hown hK hP hD hS 0 rfl rfl 7 (by decide) (hts _ kF_Num_93) (fun _ h9 => h9) rfl (by decide +kernel) (rfl) (rfl) (Nat.le_of_ble_eq_true rfl) d_Num_findPower_158 (fun H locs hP hD hS => ?_)
                    have hP : va_P D vcl [(nm, .inr (3, [.ref x, .int (nI k), .int (nI e), .int mi, .int (nI (if hex then 4 else 3)), .int fr, .int to, .int (zI ((min (xv T (pS T e a) ((k + 1) - pS T e a)) 1000000 : Nat) : Int))])), (x, .inl (cC, 2400, .inl (tx T)))] H := hP
                    have hD : va_D A [(nm, .inr (3, [.ref x, .int (nI k), .int (nI e), .int mi, .int (nI (if hex then 4 else 3)), .int fr, .int to, .int (zI ((min (xv T (pS T e a) ((k + 1) - pS T e a)) 1000000 : Nat) : Int))])), (x, .inl (cC, 2400, .inl (tx T)))] := hD
                    refine lv_aload_n hx hb d_Num_findPower_161 rfl (lv_at hl 0 rfl) ?_
                    refine lv_dup hx hb d_Num_findPower_162 rfl ?_
                    refine va_get (D := D) (ci := 3) (v := .int (nI k)) (C := R_Num) (T := F_Num) (N := 8) hx hb hts w_Num hown hK hP 0 rfl rfl 1 (by decide) (hts _ kF_Num_25) (fun _ h9 => h9) rfl d_Num_findPower_163 ?_
                    refine lv_iconst (v := 1) hx hb d_Num_findPower_166 (by decide) ?_
                    refine lv_iadd hx hb d_Num_findPower_167 ?_
                    refine tv_i (nI (k + 1)) (nI_1 k) ?_
                    refine va_put (D := D) (ci := 3) (v := .int (nI (k + 1))) (ty := .int) (C := R_Num) (T := F_Num) (N := 8) hx hb hts w_Num t_Num tk_Num n_Num hown hK hP hD hS 0 rfl rfl 1 (by decide) (hts _ kF_Num_25) (fun _ h9 => h9) rfl (by decide +kernel) (rfl) (rfl) (Nat.le_of_ble_eq_true rfl) d_Num_findPower_168 (fun H locs hP hD hS => ?_)
                    have hP : va_P D vcl [(nm, .inr (3, [.ref x, .int (nI (k + 1)), .int (nI e), .int mi, .int (nI (if hex then 4 else 3)), .int fr, .int to, .int (zI ((min (xv T (pS T e a) ((k + 1) - pS T e a)) 1000000 : Nat) : Int))])), (x, .inl (cC, 2400, .inl (tx T)))] H := hP
                    have hD : va_D A [(nm, .inr (3, [.ref x, .int (nI (k + 1)), .int (nI e), .int mi, .int (nI (if hex then 4 else 3)), .int fr, .int to, .int (zI ((min (xv T (pS T e a) ((k + 1) - pS T e a)) 1000000 : Nat) : Int))])), (x, .inl (cC, 2400, .inl (tx T)))] := hD
                    refine lv_goto (tgt := 104) hx hb d_Num_findPower_171 (by decide) ?_
                    exact ih (k + 1) (by omega) (by omega) (by omega) (by rw [← sk_t e112 e129]; exact hv) _ _ _ (hP.sub [0, 1] rfl) (hD.sub [0, 1] (by decide) rfl) hS (lv_sub hl [0, 1, 2] rfl)
            exact L104 (e - pS T e a + 1) (pS T e a) (by omega) (Nat.le_refl _) (hps.1) (rfl) _ _ _ (hP.sub [0, 1] rfl) (hD.sub [0, 1] (by decide) rfl) hS (lv_sub hl [3, 1, 0] rfl)
          · have e86 : lk T e (a + 1) = 43 := (nI_eq (b := 43) (by omega) (by decide)).mp c86
            refine lv_aload_n hx hb d_Num_findPower_89 rfl (lv_at hl 2 rfl) ?_
            refine lv_dup hx hb d_Num_findPower_90 rfl ?_
            refine va_get (D := D) (ci := 3) (v := .int (nI (a + 1))) (C := R_Num) (T := F_Num) (N := 8) hx hb hts w_Num hown hK hP 0 rfl rfl 1 (by decide) (hts _ kF_Num_25) (fun _ h9 => h9) rfl d_Num_findPower_91 ?_
            refine lv_iconst (v := 1) hx hb d_Num_findPower_94 (by decide) ?_
            refine lv_iadd hx hb d_Num_findPower_95 ?_
            refine tv_i (nI (pS T e a)) (by rw [show pS T e a = a + 2 by unfold pS; rw [if_pos (Or.inr e86)]]; exact nI_1 (a + 1)) ?_
            refine va_put (D := D) (ci := 3) (v := .int (nI (pS T e a))) (ty := .int) (C := R_Num) (T := F_Num) (N := 8) hx hb hts w_Num t_Num tk_Num n_Num hown hK hP hD hS 0 rfl rfl 1 (by decide) (hts _ kF_Num_25) (fun _ h9 => h9) rfl (by decide +kernel) (rfl) (rfl) (Nat.le_of_ble_eq_true rfl) d_Num_findPower_96 (fun H locs hP hD hS => ?_)
            have hP : va_P D vcl [(nm, .inr (3, [.ref x, .int (nI (pS T e a)), .int (nI e), .int mi, .int (nI (if hex then 4 else 3)), .int fr, .int to, .int (zI 0)])), (x, .inl (cC, 2400, .inl (tx T)))] H := hP
            have hD : va_D A [(nm, .inr (3, [.ref x, .int (nI (pS T e a)), .int (nI e), .int mi, .int (nI (if hex then 4 else 3)), .int fr, .int to, .int (zI 0)])), (x, .inl (cC, 2400, .inl (tx T)))] := hD
            rw [show zI 0 = zI ((min (xv T (pS T e a) (pS T e a - pS T e a)) 1000000 : Nat) : Int) from by rw [Nat.sub_self]; rfl] at hP hD
            refine lv_aload_n hx hb d_Num_findPower_99 rfl (lv_at hl 2 rfl) ?_
            refine va_get (D := D) (ci := 3) (v := .int (nI (pS T e a))) (C := R_Num) (T := F_Num) (N := 8) hx hb hts w_Num hown hK hP 0 rfl rfl 1 (by decide) (hts _ kF_Num_25) (fun _ h9 => h9) rfl d_Num_findPower_100 ?_
            refine lv_istore_n (lv' := [(3, .int (nI (pS T e a))), (2, .int (bI (ngB T e a))), (1, .int (bI (mkB hex T e a))), (0, .ref nm)]) hx hb d_Num_findPower_103 rfl hl (by decide) rfl (fun ls hl => ?_)
            have L104 : ∀ (kk : Nat) (k : Nat), e - k < kk → (pS T e a ≤ k) → (k ≤ e) → (sk 10 T e k = sk 10 T e (pS T e a)) → ∀ (H : Heap) (locs : List Loc) (ls : Array Slot), va_P D vcl [(nm, .inr (3, [.ref x, .int (nI k), .int (nI e), .int mi, .int (nI (if hex then 4 else 3)), .int fr, .int to, .int (zI ((min (xv T (pS T e a) (k - pS T e a)) 1000000 : Nat) : Int))])), (x, .inl (cC, 2400, .inl (tx T)))] H → va_D A [(nm, .inr (3, [.ref x, .int (nI k), .int (nI e), .int mi, .int (nI (if hex then 4 else 3)), .int fr, .int to, .int (zI ((min (xv T (pS T e a) (k - pS T e a)) 1000000 : Nat) : Int))])), (x, .inl (cC, 2400, .inl (tx T)))] → va_S A s.heap H locs → lv_has ls 4 [(0, .ref nm), (2, .int (bI (ngB T e a))), (3, .int (nI (pS T e a)))] → W p l ee ({ frames := 2, cells := 0, slots := 0, locals := 42 }) s m ([.ref nm] : List Value).toArray below meth cde H locs 0 0 (MQ below (va_Qi (S := Unit) (fun (r : Int32) (_ : Unit) => r = bI (pOk hex T e a)) (fun u tS => ctB D vcl ((fun _ => [(cC, .char)]) u) ((fun _ : Unit => [(nm, .inr (3, [.ref x, .int (nI (pAt hex T e a)), .int (nI e), .int mi, .int (nI (if hex then 4 else 3)), .int fr, .int to, .int (zI (pPw 1000000 hex T e a))])), (x, .inl (cC, 2400, .inl (tx T)))]) u) A tS) A) ([.ref nm] : List Value).toArray s 0 0 A) (F0 m 104 ls []) := by
              intro kk
              induction kk with
              | zero => intro k hmz; exact absurd hmz (Nat.not_lt_zero _)
              | succ kk ih =>
                intro k hmz hk1 hke hv H locs ls hP hD hS hl
                refine lv_aload_n hx hb d_Num_findPower_104 rfl (lv_at hl 0 rfl) ?_
                refine va_get (D := D) (ci := 3) (v := .int (nI k)) (C := R_Num) (T := F_Num) (N := 8) hx hb hts w_Num hown hK hP 0 rfl rfl 1 (by decide) (hts _ kF_Num_25) (fun _ h9 => h9) rfl d_Num_findPower_105 ?_
                refine lv_aload_n hx hb d_Num_findPower_108 rfl (lv_at hl 0 rfl) ?_
                refine va_get (D := D) (ci := 3) (v := .int (nI e)) (C := R_Num) (T := F_Num) (N := 8) hx hb hts w_Num hown hK hP 0 rfl rfl 2 (by decide) (hts _ kF_Num_50) (fun _ h9 => h9) rfl d_Num_findPower_109 ?_
                refine lv_icmp_ge (tgt := 174) hx hb d_Num_findPower_112 (by decide) (fun c112 => ?_) (fun c112 => ?_)
                · have e112 : e ≤ k := (nI_leI (by omega) (by omega)).mp c112
                  have hkx : k = pX T e a := by unfold pX; rw [← hv]; exact (sk_f (fun z => absurd z.1 (by omega))).symm
                  rw [hkx] at hP hD
                  have hP : va_P D vcl [(nm, .inr (3, [.ref x, .int (nI (pX T e a)), .int (nI e), .int mi, .int (nI (if hex then 4 else 3)), .int fr, .int to, .int (zI ((min (pE T e a) 1000000 : Nat) : Int))])), (x, .inl (cC, 2400, .inl (tx T)))] H := hP
                  have hD : va_D A [(nm, .inr (3, [.ref x, .int (nI (pX T e a)), .int (nI e), .int mi, .int (nI (if hex then 4 else 3)), .int fr, .int to, .int (zI ((min (pE T e a) 1000000 : Nat) : Int))])), (x, .inl (cC, 2400, .inl (tx T)))] := hD
                  refine lv_iload_n hx hb d_Num_findPower_174 rfl (lv_at hl 1 rfl) ?_
                  refine lv_if_eq (tgt := 187) hx hb d_Num_findPower_175 (by decide) (fun c175 => ?_) (fun c175 => ?_)
                  · have e175 : ngB T e a = false := (bI_0 _).mp c175
                    refine lv_aload_n hx hb d_Num_findPower_187 rfl (lv_at hl 0 rfl) ?_
                    refine va_get (D := D) (ci := 3) (v := .int (nI (pX T e a))) (C := R_Num) (T := F_Num) (N := 8) hx hb hts w_Num hown hK hP 0 rfl rfl 1 (by decide) (hts _ kF_Num_25) (fun _ h9 => h9) rfl d_Num_findPower_188 ?_
                    refine lv_iload_n hx hb d_Num_findPower_191 rfl (lv_at hl 2 rfl) ?_
                    refine lv_icmp_le (tgt := 199) hx hb d_Num_findPower_192 (by decide) (fun c192 => ?_) (fun c192 => ?_)
                    · have e192 : pX T e a ≤ pS T e a := (nI_leI (by omega) (by omega)).mp c192
                      refine lv_iconst (v := 0) hx hb d_Num_findPower_199 (by decide) ?_
                      rw [show nI (pX T e a) = nI (pAt hex T e a) by unfold pAt; rw [e34]; rfl, show zI ((min (pE T e a) 1000000 : Nat) : Int) = zI (pPw 1000000 hex T e a) by unfold pPw; rw [e34, e175]; rfl] at hP hD
                      exact rt_i hx hb hrt hlocks (rfl) (()) (by unfold pOk; rw [e34]; show 0 = bI (decide (pS T e a < pX T e a)); rw [decide_eq_false (by omega)]; rfl) (hP.sub [0, 1] rfl) (hK.sub [0] rfl) (hD.sub [0, 1] (by decide) rfl) hS d_Num_findPower_200
                    · have e192 : ¬ pX T e a ≤ pS T e a := fun z => c192 ((nI_leI (by omega) (by omega)).mpr z)
                      refine lv_iconst (v := 1) hx hb d_Num_findPower_195 (by decide) ?_
                      refine lv_goto (tgt := 200) hx hb d_Num_findPower_196 (by decide) ?_
                      rw [show nI (pX T e a) = nI (pAt hex T e a) by unfold pAt; rw [e34]; rfl, show zI ((min (pE T e a) 1000000 : Nat) : Int) = zI (pPw 1000000 hex T e a) by unfold pPw; rw [e34, e175]; rfl] at hP hD
                      exact rt_i hx hb hrt hlocks (rfl) (()) (by unfold pOk; rw [e34]; show 1 = bI (decide (pS T e a < pX T e a)); rw [decide_eq_true (by omega)]; rfl) (hP.sub [0, 1] rfl) (hK.sub [0] rfl) (hD.sub [0, 1] (by decide) rfl) hS d_Num_findPower_200
                  · have e175 : ngB T e a = true := tt_of (fun z => c175 ((bI_0 _).mpr z))
                    refine lv_aload_n hx hb d_Num_findPower_178 rfl (lv_at hl 0 rfl) ?_
                    refine lv_aload_n hx hb d_Num_findPower_179 rfl (lv_at hl 0 rfl) ?_
                    refine va_get (D := D) (ci := 3) (v := .int (zI ((min (pE T e a) 1000000 : Nat) : Int))) (C := R_Num) (T := F_Num) (N := 8) hx hb hts w_Num hown hK hP 0 rfl rfl 7 (by decide) (hts _ kF_Num_93) (fun _ h9 => h9) rfl d_Num_findPower_180 ?_
                    refine lv_ineg hx hb d_Num_findPower_183 ?_
                    refine tv_i (zI (-((min (pE T e a) 1000000 : Nat) : Int))) (zI_neg _) ?_
                    refine va_put (D := D) (ci := 3) (v := .int (zI (-((min (pE T e a) 1000000 : Nat) : Int)))) (ty := .int) (C := R_Num) (T := F_Num) (N := 8) hx hb hts w_Num t_Num tk_Num n_Num hown hK hP hD hS 0 rfl rfl 7 (by decide) (hts _ kF_Num_93) (fun _ h9 => h9) rfl (by decide +kernel) (rfl) (rfl) (Nat.le_of_ble_eq_true rfl) d_Num_findPower_184 (fun H locs hP hD hS => ?_)
                    have hP : va_P D vcl [(nm, .inr (3, [.ref x, .int (nI (pX T e a)), .int (nI e), .int mi, .int (nI (if hex then 4 else 3)), .int fr, .int to, .int (zI (-((min (pE T e a) 1000000 : Nat) : Int)))])), (x, .inl (cC, 2400, .inl (tx T)))] H := hP
                    have hD : va_D A [(nm, .inr (3, [.ref x, .int (nI (pX T e a)), .int (nI e), .int mi, .int (nI (if hex then 4 else 3)), .int fr, .int to, .int (zI (-((min (pE T e a) 1000000 : Nat) : Int)))])), (x, .inl (cC, 2400, .inl (tx T)))] := hD
                    refine lv_aload_n hx hb d_Num_findPower_187 rfl (lv_at hl 0 rfl) ?_
                    refine va_get (D := D) (ci := 3) (v := .int (nI (pX T e a))) (C := R_Num) (T := F_Num) (N := 8) hx hb hts w_Num hown hK hP 0 rfl rfl 1 (by decide) (hts _ kF_Num_25) (fun _ h9 => h9) rfl d_Num_findPower_188 ?_
                    refine lv_iload_n hx hb d_Num_findPower_191 rfl (lv_at hl 2 rfl) ?_
                    refine lv_icmp_le (tgt := 199) hx hb d_Num_findPower_192 (by decide) (fun c192 => ?_) (fun c192 => ?_)
                    · have e192 : pX T e a ≤ pS T e a := (nI_leI (by omega) (by omega)).mp c192
                      refine lv_iconst (v := 0) hx hb d_Num_findPower_199 (by decide) ?_
                      rw [show nI (pX T e a) = nI (pAt hex T e a) by unfold pAt; rw [e34]; rfl, show zI (-((min (pE T e a) 1000000 : Nat) : Int)) = zI (pPw 1000000 hex T e a) by unfold pPw; rw [e34, e175]; rfl] at hP hD
                      exact rt_i hx hb hrt hlocks (rfl) (()) (by unfold pOk; rw [e34]; show 0 = bI (decide (pS T e a < pX T e a)); rw [decide_eq_false (by omega)]; rfl) (hP.sub [0, 1] rfl) (hK.sub [0] rfl) (hD.sub [0, 1] (by decide) rfl) hS d_Num_findPower_200
                    · have e192 : ¬ pX T e a ≤ pS T e a := fun z => c192 ((nI_leI (by omega) (by omega)).mpr z)
                      refine lv_iconst (v := 1) hx hb d_Num_findPower_195 (by decide) ?_
                      refine lv_goto (tgt := 200) hx hb d_Num_findPower_196 (by decide) ?_
                      rw [show nI (pX T e a) = nI (pAt hex T e a) by unfold pAt; rw [e34]; rfl, show zI (-((min (pE T e a) 1000000 : Nat) : Int)) = zI (pPw 1000000 hex T e a) by unfold pPw; rw [e34, e175]; rfl] at hP hD
                      exact rt_i hx hb hrt hlocks (rfl) (()) (by unfold pOk; rw [e34]; show 1 = bI (decide (pS T e a < pX T e a)); rw [decide_eq_true (by omega)]; rfl) (hP.sub [0, 1] rfl) (hK.sub [0] rfl) (hD.sub [0, 1] (by decide) rfl) hS d_Num_findPower_200
                · have e112 : k < e := Nat.lt_of_not_le (fun z => c112 ((nI_leI (by omega) (by omega)).mpr z))
                  refine lv_aload_n hx hb d_Num_findPower_115 rfl (lv_at hl 0 rfl) ?_
                  refine va_get (D := D) (ci := 3) (v := .ref x) (C := R_Num) (T := F_Num) (N := 8) hx hb hts w_Num hown hK hP 0 rfl rfl 0 (by decide) (hts _ kF_Num_7) (fun _ h9 => h9) rfl d_Num_findPower_116 ?_
                  refine lv_aload_n hx hb d_Num_findPower_119 rfl (lv_at hl 0 rfl) ?_
                  refine va_get (D := D) (ci := 3) (v := .int (nI k)) (C := R_Num) (T := F_Num) (N := 8) hx hb hts w_Num hown hK hP 0 rfl rfl 1 (by decide) (hts _ kF_Num_25) (fun _ h9 => h9) rfl d_Num_findPower_120 ?_
                  refine va_cald hx hb hK hP 1 0 rfl rfl (i := nI k) (vp_in_nI (show k < 2400 by omega) (by decide)) d_Num_findPower_123 ?_
                  refine tv_i (nI (T (k))) (by rw [nI_clamp (by omega)]; rfl) ?_
                  refine ca_i [(nm, .inr (3, [.ref x, .int (nI k), .int (nI e), .int mi, .int (nI (if hex then 4 else 3)), .int fr, .int to, .int (zI ((min (xv T (pS T e a) (k - pS T e a)) 1000000 : Nat) : Int))])), (x, .inl (cC, 2400, .inl (tx T)))] (va_runSN (As := [.int (nI (T (k)))]) (rest := []) ⟨hx, hb, hml, hown, hts⟩ (c_Rea_digitOf l D E (T (k)) (by have := hT k; omega) H.size) (xSN 1 hts kC_Rea_digitOf hE.1.1 kT_Rea_digitOf kN_Rea rfl rfl (by decide +kernel) ⟨Nat.le_of_ble_eq_true rfl, Nat.le_of_ble_eq_true rfl⟩) ⟨ct_blind hev, ct_pre hev hP hK hD hS hA hE [] rfl (by decide) [] rfl⟩ rfl rfl hl.1 rfl (lv_room (Nat.le_of_ble_eq_true rfl)) d_Num_findPower_124 ⟨Nat.le_of_ble_eq_true rfl, Nat.le_of_ble_eq_true rfl⟩) hP hD hS hA [] [0, 1] rfl rfl (by decide) (by decide) (fun r u H locs hw hP hD hS hK1 => ?_)
                  subst hw
                  have hP : va_P D vcl [(nm, .inr (3, [.ref x, .int (nI k), .int (nI e), .int mi, .int (nI (if hex then 4 else 3)), .int fr, .int to, .int (zI ((min (xv T (pS T e a) (k - pS T e a)) 1000000 : Nat) : Int))])), (x, .inl (cC, 2400, .inl (tx T)))] H := hP
                  have hD : va_D A [(nm, .inr (3, [.ref x, .int (nI k), .int (nI e), .int mi, .int (nI (if hex then 4 else 3)), .int fr, .int to, .int (zI ((min (xv T (pS T e a) (k - pS T e a)) 1000000 : Nat) : Int))])), (x, .inl (cC, 2400, .inl (tx T)))] := hD
                  refine lv_bipush (v := 10) hx hb d_Num_findPower_127 (by decide) ?_
                  refine lv_icmp_ge (tgt := 174) hx hb d_Num_findPower_129 (by decide) (fun c129 => ?_) (fun c129 => ?_)
                  · have e129 : 10 ≤ dg (T k) := (nI_leI (a := 10) (by decide) (by have := dg_le (T k); omega)).mp c129
                    have hkx : k = pX T e a := by unfold pX; rw [← hv]; exact (sk_f (fun z => absurd z.2 (by omega))).symm
                    rw [hkx] at hP hD
                    have hP : va_P D vcl [(nm, .inr (3, [.ref x, .int (nI (pX T e a)), .int (nI e), .int mi, .int (nI (if hex then 4 else 3)), .int fr, .int to, .int (zI ((min (pE T e a) 1000000 : Nat) : Int))])), (x, .inl (cC, 2400, .inl (tx T)))] H := hP
                    have hD : va_D A [(nm, .inr (3, [.ref x, .int (nI (pX T e a)), .int (nI e), .int mi, .int (nI (if hex then 4 else 3)), .int fr, .int to, .int (zI ((min (pE T e a) 1000000 : Nat) : Int))])), (x, .inl (cC, 2400, .inl (tx T)))] := hD
                    refine lv_iload_n hx hb d_Num_findPower_174 rfl (lv_at hl 1 rfl) ?_
                    refine lv_if_eq (tgt := 187) hx hb d_Num_findPower_175 (by decide) (fun c175 => ?_) (fun c175 => ?_)
                    · have e175 : ngB T e a = false := (bI_0 _).mp c175
                      refine lv_aload_n hx hb d_Num_findPower_187 rfl (lv_at hl 0 rfl) ?_
                      refine va_get (D := D) (ci := 3) (v := .int (nI (pX T e a))) (C := R_Num) (T := F_Num) (N := 8) hx hb hts w_Num hown hK hP 0 rfl rfl 1 (by decide) (hts _ kF_Num_25) (fun _ h9 => h9) rfl d_Num_findPower_188 ?_
                      refine lv_iload_n hx hb d_Num_findPower_191 rfl (lv_at hl 2 rfl) ?_
                      refine lv_icmp_le (tgt := 199) hx hb d_Num_findPower_192 (by decide) (fun c192 => ?_) (fun c192 => ?_)
                      · have e192 : pX T e a ≤ pS T e a := (nI_leI (by omega) (by omega)).mp c192
                        refine lv_iconst (v := 0) hx hb d_Num_findPower_199 (by decide) ?_
                        rw [show nI (pX T e a) = nI (pAt hex T e a) by unfold pAt; rw [e34]; rfl, show zI ((min (pE T e a) 1000000 : Nat) : Int) = zI (pPw 1000000 hex T e a) by unfold pPw; rw [e34, e175]; rfl] at hP hD
                        exact rt_i hx hb hrt hlocks (rfl) (()) (by unfold pOk; rw [e34]; show 0 = bI (decide (pS T e a < pX T e a)); rw [decide_eq_false (by omega)]; rfl) (hP.sub [0, 1] rfl) (hK.sub [0] rfl) (hD.sub [0, 1] (by decide) rfl) hS d_Num_findPower_200
                      · have e192 : ¬ pX T e a ≤ pS T e a := fun z => c192 ((nI_leI (by omega) (by omega)).mpr z)
                        refine lv_iconst (v := 1) hx hb d_Num_findPower_195 (by decide) ?_
                        refine lv_goto (tgt := 200) hx hb d_Num_findPower_196 (by decide) ?_
                        rw [show nI (pX T e a) = nI (pAt hex T e a) by unfold pAt; rw [e34]; rfl, show zI ((min (pE T e a) 1000000 : Nat) : Int) = zI (pPw 1000000 hex T e a) by unfold pPw; rw [e34, e175]; rfl] at hP hD
                        exact rt_i hx hb hrt hlocks (rfl) (()) (by unfold pOk; rw [e34]; show 1 = bI (decide (pS T e a < pX T e a)); rw [decide_eq_true (by omega)]; rfl) (hP.sub [0, 1] rfl) (hK.sub [0] rfl) (hD.sub [0, 1] (by decide) rfl) hS d_Num_findPower_200
                    · have e175 : ngB T e a = true := tt_of (fun z => c175 ((bI_0 _).mpr z))
                      refine lv_aload_n hx hb d_Num_findPower_178 rfl (lv_at hl 0 rfl) ?_
                      refine lv_aload_n hx hb d_Num_findPower_179 rfl (lv_at hl 0 rfl) ?_
                      refine va_get (D := D) (ci := 3) (v := .int (zI ((min (pE T e a) 1000000 : Nat) : Int))) (C := R_Num) (T := F_Num) (N := 8) hx hb hts w_Num hown hK hP 0 rfl rfl 7 (by decide) (hts _ kF_Num_93) (fun _ h9 => h9) rfl d_Num_findPower_180 ?_
                      refine lv_ineg hx hb d_Num_findPower_183 ?_
                      refine tv_i (zI (-((min (pE T e a) 1000000 : Nat) : Int))) (zI_neg _) ?_
                      refine va_put (D := D) (ci := 3) (v := .int (zI (-((min (pE T e a) 1000000 : Nat) : Int)))) (ty := .int) (C := R_Num) (T := F_Num) (N := 8) hx hb hts w_Num t_Num tk_Num n_Num hown hK hP hD hS 0 rfl rfl 7 (by decide) (hts _ kF_Num_93) (fun _ h9 => h9) rfl (by decide +kernel) (rfl) (rfl) (Nat.le_of_ble_eq_true rfl) d_Num_findPower_184 (fun H locs hP hD hS => ?_)
                      have hP : va_P D vcl [(nm, .inr (3, [.ref x, .int (nI (pX T e a)), .int (nI e), .int mi, .int (nI (if hex then 4 else 3)), .int fr, .int to, .int (zI (-((min (pE T e a) 1000000 : Nat) : Int)))])), (x, .inl (cC, 2400, .inl (tx T)))] H := hP
                      have hD : va_D A [(nm, .inr (3, [.ref x, .int (nI (pX T e a)), .int (nI e), .int mi, .int (nI (if hex then 4 else 3)), .int fr, .int to, .int (zI (-((min (pE T e a) 1000000 : Nat) : Int)))])), (x, .inl (cC, 2400, .inl (tx T)))] := hD
                      refine lv_aload_n hx hb d_Num_findPower_187 rfl (lv_at hl 0 rfl) ?_
                      refine va_get (D := D) (ci := 3) (v := .int (nI (pX T e a))) (C := R_Num) (T := F_Num) (N := 8) hx hb hts w_Num hown hK hP 0 rfl rfl 1 (by decide) (hts _ kF_Num_25) (fun _ h9 => h9) rfl d_Num_findPower_188 ?_
                      refine lv_iload_n hx hb d_Num_findPower_191 rfl (lv_at hl 2 rfl) ?_
                      refine lv_icmp_le (tgt := 199) hx hb d_Num_findPower_192 (by decide) (fun c192 => ?_) (fun c192 => ?_)
                      · have e192 : pX T e a ≤ pS T e a := (nI_leI (by omega) (by omega)).mp c192
                        refine lv_iconst (v := 0) hx hb d_Num_findPower_199 (by decide) ?_
                        rw [show nI (pX T e a) = nI (pAt hex T e a) by unfold pAt; rw [e34]; rfl, show zI (-((min (pE T e a) 1000000 : Nat) : Int)) = zI (pPw 1000000 hex T e a) by unfold pPw; rw [e34, e175]; rfl] at hP hD
                        exact rt_i hx hb hrt hlocks (rfl) (()) (by unfold pOk; rw [e34]; show 0 = bI (decide (pS T e a < pX T e a)); rw [decide_eq_false (by omega)]; rfl) (hP.sub [0, 1] rfl) (hK.sub [0] rfl) (hD.sub [0, 1] (by decide) rfl) hS d_Num_findPower_200
                      · have e192 : ¬ pX T e a ≤ pS T e a := fun z => c192 ((nI_leI (by omega) (by omega)).mpr z)
                        refine lv_iconst (v := 1) hx hb d_Num_findPower_195 (by decide) ?_
                        refine lv_goto (tgt := 200) hx hb d_Num_findPower_196 (by decide) ?_
                        rw [show nI (pX T e a) = nI (pAt hex T e a) by unfold pAt; rw [e34]; rfl, show zI (-((min (pE T e a) 1000000 : Nat) : Int)) = zI (pPw 1000000 hex T e a) by unfold pPw; rw [e34, e175]; rfl] at hP hD
                        exact rt_i hx hb hrt hlocks (rfl) (()) (by unfold pOk; rw [e34]; show 1 = bI (decide (pS T e a < pX T e a)); rw [decide_eq_true (by omega)]; rfl) (hP.sub [0, 1] rfl) (hK.sub [0] rfl) (hD.sub [0, 1] (by decide) rfl) hS d_Num_findPower_200
                  · have e129 : dg (T k) < 10 := Nat.lt_of_not_le (fun z => c129 ((nI_leI (a := 10) (by decide) (by have := dg_le (T k); omega)).mpr z))
                    refine lv_aload_n hx hb d_Num_findPower_132 rfl (lv_at hl 0 rfl) ?_
                    refine lv_aload_n hx hb d_Num_findPower_133 rfl (lv_at hl 0 rfl) ?_
                    refine va_get (D := D) (ci := 3) (v := .int (zI ((min (xv T (pS T e a) (k - pS T e a)) 1000000 : Nat) : Int))) (C := R_Num) (T := F_Num) (N := 8) hx hb hts w_Num hown hK hP 0 rfl rfl 7 (by decide) (hts _ kF_Num_93) (fun _ h9 => h9) rfl d_Num_findPower_134 ?_
                    refine lv_bipush (v := 10) hx hb d_Num_findPower_137 (by decide) ?_
                    refine lv_imul hx hb d_Num_findPower_139 ?_
                    refine lv_aload_n hx hb d_Num_findPower_140 rfl (lv_at hl 0 rfl) ?_
                    refine va_get (D := D) (ci := 3) (v := .ref x) (C := R_Num) (T := F_Num) (N := 8) hx hb hts w_Num hown hK hP 0 rfl rfl 0 (by decide) (hts _ kF_Num_7) (fun _ h9 => h9) rfl d_Num_findPower_141 ?_
                    refine lv_aload_n hx hb d_Num_findPower_144 rfl (lv_at hl 0 rfl) ?_
                    refine va_get (D := D) (ci := 3) (v := .int (nI k)) (C := R_Num) (T := F_Num) (N := 8) hx hb hts w_Num hown hK hP 0 rfl rfl 1 (by decide) (hts _ kF_Num_25) (fun _ h9 => h9) rfl d_Num_findPower_145 ?_
                    refine va_cald hx hb hK hP 1 0 rfl rfl (i := nI k) (vp_in_nI (show k < 2400 by omega) (by decide)) d_Num_findPower_148 ?_
                    refine tv_i (nI (T (k))) (by rw [nI_clamp (by omega)]; rfl) ?_
                    refine ca_i [(nm, .inr (3, [.ref x, .int (nI k), .int (nI e), .int mi, .int (nI (if hex then 4 else 3)), .int fr, .int to, .int (zI ((min (xv T (pS T e a) (k - pS T e a)) 1000000 : Nat) : Int))])), (x, .inl (cC, 2400, .inl (tx T)))] (va_runSN (As := [.int (nI (T (k)))]) (rest := [.int ((zI ((min (xv T (pS T e a) (k - pS T e a)) 1000000 : Nat) : Int)) * 10), .ref nm]) ⟨hx, hb, hml, hown, hts⟩ (c_Rea_digitOf l D E (T (k)) (by have := hT k; omega) H.size) (xSN 1 hts kC_Rea_digitOf hE.1.1 kT_Rea_digitOf kN_Rea rfl rfl (by decide +kernel) ⟨Nat.le_of_ble_eq_true rfl, Nat.le_of_ble_eq_true rfl⟩) ⟨ct_blind hev, ct_pre hev hP hK hD hS hA hE [] rfl (by decide) [] rfl⟩ rfl rfl hl.1 rfl (lv_room (Nat.le_of_ble_eq_true rfl)) d_Num_findPower_149 ⟨Nat.le_of_ble_eq_true rfl, Nat.le_of_ble_eq_true rfl⟩) hP hD hS hA [] [0, 1] rfl rfl (by decide) (by decide) (fun r u H locs hw hP hD hS hK1 => ?_)
                    subst hw
                    have hP : va_P D vcl [(nm, .inr (3, [.ref x, .int (nI k), .int (nI e), .int mi, .int (nI (if hex then 4 else 3)), .int fr, .int to, .int (zI ((min (xv T (pS T e a) (k - pS T e a)) 1000000 : Nat) : Int))])), (x, .inl (cC, 2400, .inl (tx T)))] H := hP
                    have hD : va_D A [(nm, .inr (3, [.ref x, .int (nI k), .int (nI e), .int mi, .int (nI (if hex then 4 else 3)), .int fr, .int to, .int (zI ((min (xv T (pS T e a) (k - pS T e a)) 1000000 : Nat) : Int))])), (x, .inl (cC, 2400, .inl (tx T)))] := hD
                    refine lv_iadd hx hb d_Num_findPower_152 ?_
                    refine tv_i (zI ((min (xv T (pS T e a) (k - pS T e a)) 1000000 * 10 + dg (T k) : Nat) : Int)) (by show zI _ * zI 10 + nI _ = _; rw [zI_mul, ← zI_nI, zI_add]; exact congrArg zI (by omega)) ?_
                    refine lv_ldc hx hb hown (hts _ kK_Num_96) d_Num_findPower_153 ?_
                    refine va_mmin hx hb (by rw [hml]; exact hl.1.symm) hown (hts _ kM_Num_44) (hts _ kT_mmin) (hts _ kN_Math) (hts _ kC_mmin) (Nat.le_of_ble_eq_true rfl) (Nat.le_of_ble_eq_true rfl) (Nat.le_of_ble_eq_true rfl) (Nat.le_of_ble_eq_true rfl) d_Num_findPower_155 ?_
                    refine tv_i (zI ((min (xv T (pS T e a) ((k + 1) - pS T e a)) 1000000 : Nat) : Int)) (pw_min hk1) ?_
                    refine va_put (D := D) (ci := 3) (v := .int (zI ((min (xv T (pS T e a) ((k + 1) - pS T e a)) 1000000 : Nat) : Int))) (ty := .int) (C := R_Num) (T := F_Num) (N := 8) hx hb hts w_Num t_Num tk_Num n_Num hown hK hP hD hS 0 rfl rfl 7 (by decide) (hts _ kF_Num_93) (fun _ h9 => h9) rfl (by decide +kernel) (rfl) (rfl) (Nat.le_of_ble_eq_true rfl) d_Num_findPower_158 (fun H locs hP hD hS => ?_)
                    have hP : va_P D vcl [(nm, .inr (3, [.ref x, .int (nI k), .int (nI e), .int mi, .int (nI (if hex then 4 else 3)), .int fr, .int to, .int (zI ((min (xv T (pS T e a) ((k + 1) - pS T e a)) 1000000 : Nat) : Int))])), (x, .inl (cC, 2400, .inl (tx T)))] H := hP
                    have hD : va_D A [(nm, .inr (3, [.ref x, .int (nI k), .int (nI e), .int mi, .int (nI (if hex then 4 else 3)), .int fr, .int to, .int (zI ((min (xv T (pS T e a) ((k + 1) - pS T e a)) 1000000 : Nat) : Int))])), (x, .inl (cC, 2400, .inl (tx T)))] := hD
                    refine lv_aload_n hx hb d_Num_findPower_161 rfl (lv_at hl 0 rfl) ?_
                    refine lv_dup hx hb d_Num_findPower_162 rfl ?_
                    refine va_get (D := D) (ci := 3) (v := .int (nI k)) (C := R_Num) (T := F_Num) (N := 8) hx hb hts w_Num hown hK hP 0 rfl rfl 1 (by decide) (hts _ kF_Num_25) (fun _ h9 => h9) rfl d_Num_findPower_163 ?_
                    refine lv_iconst (v := 1) hx hb d_Num_findPower_166 (by decide) ?_
                    refine lv_iadd hx hb d_Num_findPower_167 ?_
                    refine tv_i (nI (k + 1)) (nI_1 k) ?_
                    refine va_put (D := D) (ci := 3) (v := .int (nI (k + 1))) (ty := .int) (C := R_Num) (T := F_Num) (N := 8) hx hb hts w_Num t_Num tk_Num n_Num hown hK hP hD hS 0 rfl rfl 1 (by decide) (hts _ kF_Num_25) (fun _ h9 => h9) rfl (by decide +kernel) (rfl) (rfl) (Nat.le_of_ble_eq_true rfl) d_Num_findPower_168 (fun H locs hP hD hS => ?_)
                    have hP : va_P D vcl [(nm, .inr (3, [.ref x, .int (nI (k + 1)), .int (nI e), .int mi, .int (nI (if hex then 4 else 3)), .int fr, .int to, .int (zI ((min (xv T (pS T e a) ((k + 1) - pS T e a)) 1000000 : Nat) : Int))])), (x, .inl (cC, 2400, .inl (tx T)))] H := hP
                    have hD : va_D A [(nm, .inr (3, [.ref x, .int (nI (k + 1)), .int (nI e), .int mi, .int (nI (if hex then 4 else 3)), .int fr, .int to, .int (zI ((min (xv T (pS T e a) ((k + 1) - pS T e a)) 1000000 : Nat) : Int))])), (x, .inl (cC, 2400, .inl (tx T)))] := hD
                    refine lv_goto (tgt := 104) hx hb d_Num_findPower_171 (by decide) ?_
                    exact ih (k + 1) (by omega) (by omega) (by omega) (by rw [← sk_t e112 e129]; exact hv) _ _ _ (hP.sub [0, 1] rfl) (hD.sub [0, 1] (by decide) rfl) hS (lv_sub hl [0, 1, 2] rfl)
            exact L104 (e - pS T e a + 1) (pS T e a) (by omega) (Nat.le_refl _) (hps.1) (rfl) _ _ _ (hP.sub [0, 1] rfl) (hD.sub [0, 1] (by decide) rfl) hS (lv_sub hl [3, 1, 0] rfl)
      · have e67 : lk T e (a + 1) = 45 := (nI_eq (b := 45) (by omega) (by decide)).mp c67
        refine lv_iconst (v := 1) hx hb d_Num_findPower_70 (by decide) ?_
        refine tv_i (bI (ngB T e a)) (by rw [show ngB T e a = true from decide_eq_true e67]; rfl) ?_
        refine lv_goto (tgt := 75) hx hb d_Num_findPower_71 (by decide) ?_
        refine lv_istore_n (lv' := [(2, .int (bI (ngB T e a))), (1, .int (bI (mkB hex T e a))), (0, .ref nm)]) hx hb d_Num_findPower_75 rfl hl (by decide) rfl (fun ls hl => ?_)
        refine lv_iload_n hx hb d_Num_findPower_76 rfl (lv_at hl 0 rfl) ?_
        refine lv_if_ne (tgt := 89) hx hb d_Num_findPower_77 (by decide) (fun c77 => ?_) (fun c77 => ?_)
        · refine lv_aload_n hx hb d_Num_findPower_89 rfl (lv_at hl 2 rfl) ?_
          refine lv_dup hx hb d_Num_findPower_90 rfl ?_
          refine va_get (D := D) (ci := 3) (v := .int (nI (a + 1))) (C := R_Num) (T := F_Num) (N := 8) hx hb hts w_Num hown hK hP 0 rfl rfl 1 (by decide) (hts _ kF_Num_25) (fun _ h9 => h9) rfl d_Num_findPower_91 ?_
          refine lv_iconst (v := 1) hx hb d_Num_findPower_94 (by decide) ?_
          refine lv_iadd hx hb d_Num_findPower_95 ?_
          refine tv_i (nI (pS T e a)) (by rw [show pS T e a = a + 2 by unfold pS; rw [if_pos (Or.inl e67)]]; exact nI_1 (a + 1)) ?_
          refine va_put (D := D) (ci := 3) (v := .int (nI (pS T e a))) (ty := .int) (C := R_Num) (T := F_Num) (N := 8) hx hb hts w_Num t_Num tk_Num n_Num hown hK hP hD hS 0 rfl rfl 1 (by decide) (hts _ kF_Num_25) (fun _ h9 => h9) rfl (by decide +kernel) (rfl) (rfl) (Nat.le_of_ble_eq_true rfl) d_Num_findPower_96 (fun H locs hP hD hS => ?_)
          have hP : va_P D vcl [(nm, .inr (3, [.ref x, .int (nI (pS T e a)), .int (nI e), .int mi, .int (nI (if hex then 4 else 3)), .int fr, .int to, .int (zI 0)])), (x, .inl (cC, 2400, .inl (tx T)))] H := hP
          have hD : va_D A [(nm, .inr (3, [.ref x, .int (nI (pS T e a)), .int (nI e), .int mi, .int (nI (if hex then 4 else 3)), .int fr, .int to, .int (zI 0)])), (x, .inl (cC, 2400, .inl (tx T)))] := hD
          rw [show zI 0 = zI ((min (xv T (pS T e a) (pS T e a - pS T e a)) 1000000 : Nat) : Int) from by rw [Nat.sub_self]; rfl] at hP hD
          refine lv_aload_n hx hb d_Num_findPower_99 rfl (lv_at hl 2 rfl) ?_
          refine va_get (D := D) (ci := 3) (v := .int (nI (pS T e a))) (C := R_Num) (T := F_Num) (N := 8) hx hb hts w_Num hown hK hP 0 rfl rfl 1 (by decide) (hts _ kF_Num_25) (fun _ h9 => h9) rfl d_Num_findPower_100 ?_
          refine lv_istore_n (lv' := [(3, .int (nI (pS T e a))), (2, .int (bI (ngB T e a))), (1, .int (bI (mkB hex T e a))), (0, .ref nm)]) hx hb d_Num_findPower_103 rfl hl (by decide) rfl (fun ls hl => ?_)
          have L104 : ∀ (kk : Nat) (k : Nat), e - k < kk → (pS T e a ≤ k) → (k ≤ e) → (sk 10 T e k = sk 10 T e (pS T e a)) → ∀ (H : Heap) (locs : List Loc) (ls : Array Slot), va_P D vcl [(nm, .inr (3, [.ref x, .int (nI k), .int (nI e), .int mi, .int (nI (if hex then 4 else 3)), .int fr, .int to, .int (zI ((min (xv T (pS T e a) (k - pS T e a)) 1000000 : Nat) : Int))])), (x, .inl (cC, 2400, .inl (tx T)))] H → va_D A [(nm, .inr (3, [.ref x, .int (nI k), .int (nI e), .int mi, .int (nI (if hex then 4 else 3)), .int fr, .int to, .int (zI ((min (xv T (pS T e a) (k - pS T e a)) 1000000 : Nat) : Int))])), (x, .inl (cC, 2400, .inl (tx T)))] → va_S A s.heap H locs → lv_has ls 4 [(0, .ref nm), (2, .int (bI (ngB T e a))), (3, .int (nI (pS T e a)))] → W p l ee ({ frames := 2, cells := 0, slots := 0, locals := 42 }) s m ([.ref nm] : List Value).toArray below meth cde H locs 0 0 (MQ below (va_Qi (S := Unit) (fun (r : Int32) (_ : Unit) => r = bI (pOk hex T e a)) (fun u tS => ctB D vcl ((fun _ => [(cC, .char)]) u) ((fun _ : Unit => [(nm, .inr (3, [.ref x, .int (nI (pAt hex T e a)), .int (nI e), .int mi, .int (nI (if hex then 4 else 3)), .int fr, .int to, .int (zI (pPw 1000000 hex T e a))])), (x, .inl (cC, 2400, .inl (tx T)))]) u) A tS) A) ([.ref nm] : List Value).toArray s 0 0 A) (F0 m 104 ls []) := by
            intro kk
            induction kk with
            | zero => intro k hmz; exact absurd hmz (Nat.not_lt_zero _)
            | succ kk ih =>
              intro k hmz hk1 hke hv H locs ls hP hD hS hl
              refine lv_aload_n hx hb d_Num_findPower_104 rfl (lv_at hl 0 rfl) ?_
              refine va_get (D := D) (ci := 3) (v := .int (nI k)) (C := R_Num) (T := F_Num) (N := 8) hx hb hts w_Num hown hK hP 0 rfl rfl 1 (by decide) (hts _ kF_Num_25) (fun _ h9 => h9) rfl d_Num_findPower_105 ?_
              refine lv_aload_n hx hb d_Num_findPower_108 rfl (lv_at hl 0 rfl) ?_
              refine va_get (D := D) (ci := 3) (v := .int (nI e)) (C := R_Num) (T := F_Num) (N := 8) hx hb hts w_Num hown hK hP 0 rfl rfl 2 (by decide) (hts _ kF_Num_50) (fun _ h9 => h9) rfl d_Num_findPower_109 ?_
              refine lv_icmp_ge (tgt := 174) hx hb d_Num_findPower_112 (by decide) (fun c112 => ?_) (fun c112 => ?_)
              · have e112 : e ≤ k := (nI_leI (by omega) (by omega)).mp c112
                have hkx : k = pX T e a := by unfold pX; rw [← hv]; exact (sk_f (fun z => absurd z.1 (by omega))).symm
                rw [hkx] at hP hD
                have hP : va_P D vcl [(nm, .inr (3, [.ref x, .int (nI (pX T e a)), .int (nI e), .int mi, .int (nI (if hex then 4 else 3)), .int fr, .int to, .int (zI ((min (pE T e a) 1000000 : Nat) : Int))])), (x, .inl (cC, 2400, .inl (tx T)))] H := hP
                have hD : va_D A [(nm, .inr (3, [.ref x, .int (nI (pX T e a)), .int (nI e), .int mi, .int (nI (if hex then 4 else 3)), .int fr, .int to, .int (zI ((min (pE T e a) 1000000 : Nat) : Int))])), (x, .inl (cC, 2400, .inl (tx T)))] := hD
                refine lv_iload_n hx hb d_Num_findPower_174 rfl (lv_at hl 1 rfl) ?_
                refine lv_if_eq (tgt := 187) hx hb d_Num_findPower_175 (by decide) (fun c175 => ?_) (fun c175 => ?_)
                · have e175 : ngB T e a = false := (bI_0 _).mp c175
                  refine lv_aload_n hx hb d_Num_findPower_187 rfl (lv_at hl 0 rfl) ?_
                  refine va_get (D := D) (ci := 3) (v := .int (nI (pX T e a))) (C := R_Num) (T := F_Num) (N := 8) hx hb hts w_Num hown hK hP 0 rfl rfl 1 (by decide) (hts _ kF_Num_25) (fun _ h9 => h9) rfl d_Num_findPower_188 ?_
                  refine lv_iload_n hx hb d_Num_findPower_191 rfl (lv_at hl 2 rfl) ?_
                  refine lv_icmp_le (tgt := 199) hx hb d_Num_findPower_192 (by decide) (fun c192 => ?_) (fun c192 => ?_)
                  · have e192 : pX T e a ≤ pS T e a := (nI_leI (by omega) (by omega)).mp c192
                    refine lv_iconst (v := 0) hx hb d_Num_findPower_199 (by decide) ?_
                    rw [show nI (pX T e a) = nI (pAt hex T e a) by unfold pAt; rw [e34]; rfl, show zI ((min (pE T e a) 1000000 : Nat) : Int) = zI (pPw 1000000 hex T e a) by unfold pPw; rw [e34, e175]; rfl] at hP hD
                    exact rt_i hx hb hrt hlocks (rfl) (()) (by unfold pOk; rw [e34]; show 0 = bI (decide (pS T e a < pX T e a)); rw [decide_eq_false (by omega)]; rfl) (hP.sub [0, 1] rfl) (hK.sub [0] rfl) (hD.sub [0, 1] (by decide) rfl) hS d_Num_findPower_200
                  · have e192 : ¬ pX T e a ≤ pS T e a := fun z => c192 ((nI_leI (by omega) (by omega)).mpr z)
                    refine lv_iconst (v := 1) hx hb d_Num_findPower_195 (by decide) ?_
                    refine lv_goto (tgt := 200) hx hb d_Num_findPower_196 (by decide) ?_
                    rw [show nI (pX T e a) = nI (pAt hex T e a) by unfold pAt; rw [e34]; rfl, show zI ((min (pE T e a) 1000000 : Nat) : Int) = zI (pPw 1000000 hex T e a) by unfold pPw; rw [e34, e175]; rfl] at hP hD
                    exact rt_i hx hb hrt hlocks (rfl) (()) (by unfold pOk; rw [e34]; show 1 = bI (decide (pS T e a < pX T e a)); rw [decide_eq_true (by omega)]; rfl) (hP.sub [0, 1] rfl) (hK.sub [0] rfl) (hD.sub [0, 1] (by decide) rfl) hS d_Num_findPower_200
                · have e175 : ngB T e a = true := tt_of (fun z => c175 ((bI_0 _).mpr z))
                  refine lv_aload_n hx hb d_Num_findPower_178 rfl (lv_at hl 0 rfl) ?_
                  refine lv_aload_n hx hb d_Num_findPower_179 rfl (lv_at hl 0 rfl) ?_
                  refine va_get (D := D) (ci := 3) (v := .int (zI ((min (pE T e a) 1000000 : Nat) : Int))) (C := R_Num) (T := F_Num) (N := 8) hx hb hts w_Num hown hK hP 0 rfl rfl 7 (by decide) (hts _ kF_Num_93) (fun _ h9 => h9) rfl d_Num_findPower_180 ?_
                  refine lv_ineg hx hb d_Num_findPower_183 ?_
                  refine tv_i (zI (-((min (pE T e a) 1000000 : Nat) : Int))) (zI_neg _) ?_
                  refine va_put (D := D) (ci := 3) (v := .int (zI (-((min (pE T e a) 1000000 : Nat) : Int)))) (ty := .int) (C := R_Num) (T := F_Num) (N := 8) hx hb hts w_Num t_Num tk_Num n_Num hown hK hP hD hS 0 rfl rfl 7 (by decide) (hts _ kF_Num_93) (fun _ h9 => h9) rfl (by decide +kernel) (rfl) (rfl) (Nat.le_of_ble_eq_true rfl) d_Num_findPower_184 (fun H locs hP hD hS => ?_)
                  have hP : va_P D vcl [(nm, .inr (3, [.ref x, .int (nI (pX T e a)), .int (nI e), .int mi, .int (nI (if hex then 4 else 3)), .int fr, .int to, .int (zI (-((min (pE T e a) 1000000 : Nat) : Int)))])), (x, .inl (cC, 2400, .inl (tx T)))] H := hP
                  have hD : va_D A [(nm, .inr (3, [.ref x, .int (nI (pX T e a)), .int (nI e), .int mi, .int (nI (if hex then 4 else 3)), .int fr, .int to, .int (zI (-((min (pE T e a) 1000000 : Nat) : Int)))])), (x, .inl (cC, 2400, .inl (tx T)))] := hD
                  refine lv_aload_n hx hb d_Num_findPower_187 rfl (lv_at hl 0 rfl) ?_
                  refine va_get (D := D) (ci := 3) (v := .int (nI (pX T e a))) (C := R_Num) (T := F_Num) (N := 8) hx hb hts w_Num hown hK hP 0 rfl rfl 1 (by decide) (hts _ kF_Num_25) (fun _ h9 => h9) rfl d_Num_findPower_188 ?_
                  refine lv_iload_n hx hb d_Num_findPower_191 rfl (lv_at hl 2 rfl) ?_
                  refine lv_icmp_le (tgt := 199) hx hb d_Num_findPower_192 (by decide) (fun c192 => ?_) (fun c192 => ?_)
                  · have e192 : pX T e a ≤ pS T e a := (nI_leI (by omega) (by omega)).mp c192
                    refine lv_iconst (v := 0) hx hb d_Num_findPower_199 (by decide) ?_
                    rw [show nI (pX T e a) = nI (pAt hex T e a) by unfold pAt; rw [e34]; rfl, show zI (-((min (pE T e a) 1000000 : Nat) : Int)) = zI (pPw 1000000 hex T e a) by unfold pPw; rw [e34, e175]; rfl] at hP hD
                    exact rt_i hx hb hrt hlocks (rfl) (()) (by unfold pOk; rw [e34]; show 0 = bI (decide (pS T e a < pX T e a)); rw [decide_eq_false (by omega)]; rfl) (hP.sub [0, 1] rfl) (hK.sub [0] rfl) (hD.sub [0, 1] (by decide) rfl) hS d_Num_findPower_200
                  · have e192 : ¬ pX T e a ≤ pS T e a := fun z => c192 ((nI_leI (by omega) (by omega)).mpr z)
                    refine lv_iconst (v := 1) hx hb d_Num_findPower_195 (by decide) ?_
                    refine lv_goto (tgt := 200) hx hb d_Num_findPower_196 (by decide) ?_
                    rw [show nI (pX T e a) = nI (pAt hex T e a) by unfold pAt; rw [e34]; rfl, show zI (-((min (pE T e a) 1000000 : Nat) : Int)) = zI (pPw 1000000 hex T e a) by unfold pPw; rw [e34, e175]; rfl] at hP hD
                    exact rt_i hx hb hrt hlocks (rfl) (()) (by unfold pOk; rw [e34]; show 1 = bI (decide (pS T e a < pX T e a)); rw [decide_eq_true (by omega)]; rfl) (hP.sub [0, 1] rfl) (hK.sub [0] rfl) (hD.sub [0, 1] (by decide) rfl) hS d_Num_findPower_200
              · have e112 : k < e := Nat.lt_of_not_le (fun z => c112 ((nI_leI (by omega) (by omega)).mpr z))
                refine lv_aload_n hx hb d_Num_findPower_115 rfl (lv_at hl 0 rfl) ?_
                refine va_get (D := D) (ci := 3) (v := .ref x) (C := R_Num) (T := F_Num) (N := 8) hx hb hts w_Num hown hK hP 0 rfl rfl 0 (by decide) (hts _ kF_Num_7) (fun _ h9 => h9) rfl d_Num_findPower_116 ?_
                refine lv_aload_n hx hb d_Num_findPower_119 rfl (lv_at hl 0 rfl) ?_
                refine va_get (D := D) (ci := 3) (v := .int (nI k)) (C := R_Num) (T := F_Num) (N := 8) hx hb hts w_Num hown hK hP 0 rfl rfl 1 (by decide) (hts _ kF_Num_25) (fun _ h9 => h9) rfl d_Num_findPower_120 ?_
                refine va_cald hx hb hK hP 1 0 rfl rfl (i := nI k) (vp_in_nI (show k < 2400 by omega) (by decide)) d_Num_findPower_123 ?_
                refine tv_i (nI (T (k))) (by rw [nI_clamp (by omega)]; rfl) ?_
                refine ca_i [(nm, .inr (3, [.ref x, .int (nI k), .int (nI e), .int mi, .int (nI (if hex then 4 else 3)), .int fr, .int to, .int (zI ((min (xv T (pS T e a) (k - pS T e a)) 1000000 : Nat) : Int))])), (x, .inl (cC, 2400, .inl (tx T)))] (va_runSN (As := [.int (nI (T (k)))]) (rest := []) ⟨hx, hb, hml, hown, hts⟩ (c_Rea_digitOf l D E (T (k)) (by have := hT k; omega) H.size) (xSN 1 hts kC_Rea_digitOf hE.1.1 kT_Rea_digitOf kN_Rea rfl rfl (by decide +kernel) ⟨Nat.le_of_ble_eq_true rfl, Nat.le_of_ble_eq_true rfl⟩) ⟨ct_blind hev, ct_pre hev hP hK hD hS hA hE [] rfl (by decide) [] rfl⟩ rfl rfl hl.1 rfl (lv_room (Nat.le_of_ble_eq_true rfl)) d_Num_findPower_124 ⟨Nat.le_of_ble_eq_true rfl, Nat.le_of_ble_eq_true rfl⟩) hP hD hS hA [] [0, 1] rfl rfl (by decide) (by decide) (fun r u H locs hw hP hD hS hK1 => ?_)
                subst hw
                have hP : va_P D vcl [(nm, .inr (3, [.ref x, .int (nI k), .int (nI e), .int mi, .int (nI (if hex then 4 else 3)), .int fr, .int to, .int (zI ((min (xv T (pS T e a) (k - pS T e a)) 1000000 : Nat) : Int))])), (x, .inl (cC, 2400, .inl (tx T)))] H := hP
                have hD : va_D A [(nm, .inr (3, [.ref x, .int (nI k), .int (nI e), .int mi, .int (nI (if hex then 4 else 3)), .int fr, .int to, .int (zI ((min (xv T (pS T e a) (k - pS T e a)) 1000000 : Nat) : Int))])), (x, .inl (cC, 2400, .inl (tx T)))] := hD
                refine lv_bipush (v := 10) hx hb d_Num_findPower_127 (by decide) ?_
                refine lv_icmp_ge (tgt := 174) hx hb d_Num_findPower_129 (by decide) (fun c129 => ?_) (fun c129 => ?_)
                · have e129 : 10 ≤ dg (T k) := (nI_leI (a := 10) (by decide) (by have := dg_le (T k); omega)).mp c129
                  have hkx : k = pX T e a := by unfold pX; rw [← hv]; exact (sk_f (fun z => absurd z.2 (by omega))).symm
                  rw [hkx] at hP hD
                  have hP : va_P D vcl [(nm, .inr (3, [.ref x, .int (nI (pX T e a)), .int (nI e), .int mi, .int (nI (if hex then 4 else 3)), .int fr, .int to, .int (zI ((min (pE T e a) 1000000 : Nat) : Int))])), (x, .inl (cC, 2400, .inl (tx T)))] H := hP
                  have hD : va_D A [(nm, .inr (3, [.ref x, .int (nI (pX T e a)), .int (nI e), .int mi, .int (nI (if hex then 4 else 3)), .int fr, .int to, .int (zI ((min (pE T e a) 1000000 : Nat) : Int))])), (x, .inl (cC, 2400, .inl (tx T)))] := hD
                  refine lv_iload_n hx hb d_Num_findPower_174 rfl (lv_at hl 1 rfl) ?_
                  refine lv_if_eq (tgt := 187) hx hb d_Num_findPower_175 (by decide) (fun c175 => ?_) (fun c175 => ?_)
                  · have e175 : ngB T e a = false := (bI_0 _).mp c175
                    refine lv_aload_n hx hb d_Num_findPower_187 rfl (lv_at hl 0 rfl) ?_
                    refine va_get (D := D) (ci := 3) (v := .int (nI (pX T e a))) (C := R_Num) (T := F_Num) (N := 8) hx hb hts w_Num hown hK hP 0 rfl rfl 1 (by decide) (hts _ kF_Num_25) (fun _ h9 => h9) rfl d_Num_findPower_188 ?_
                    refine lv_iload_n hx hb d_Num_findPower_191 rfl (lv_at hl 2 rfl) ?_
                    refine lv_icmp_le (tgt := 199) hx hb d_Num_findPower_192 (by decide) (fun c192 => ?_) (fun c192 => ?_)
                    · have e192 : pX T e a ≤ pS T e a := (nI_leI (by omega) (by omega)).mp c192
                      refine lv_iconst (v := 0) hx hb d_Num_findPower_199 (by decide) ?_
                      rw [show nI (pX T e a) = nI (pAt hex T e a) by unfold pAt; rw [e34]; rfl, show zI ((min (pE T e a) 1000000 : Nat) : Int) = zI (pPw 1000000 hex T e a) by unfold pPw; rw [e34, e175]; rfl] at hP hD
                      exact rt_i hx hb hrt hlocks (rfl) (()) (by unfold pOk; rw [e34]; show 0 = bI (decide (pS T e a < pX T e a)); rw [decide_eq_false (by omega)]; rfl) (hP.sub [0, 1] rfl) (hK.sub [0] rfl) (hD.sub [0, 1] (by decide) rfl) hS d_Num_findPower_200
                    · have e192 : ¬ pX T e a ≤ pS T e a := fun z => c192 ((nI_leI (by omega) (by omega)).mpr z)
                      refine lv_iconst (v := 1) hx hb d_Num_findPower_195 (by decide) ?_
                      refine lv_goto (tgt := 200) hx hb d_Num_findPower_196 (by decide) ?_
                      rw [show nI (pX T e a) = nI (pAt hex T e a) by unfold pAt; rw [e34]; rfl, show zI ((min (pE T e a) 1000000 : Nat) : Int) = zI (pPw 1000000 hex T e a) by unfold pPw; rw [e34, e175]; rfl] at hP hD
                      exact rt_i hx hb hrt hlocks (rfl) (()) (by unfold pOk; rw [e34]; show 1 = bI (decide (pS T e a < pX T e a)); rw [decide_eq_true (by omega)]; rfl) (hP.sub [0, 1] rfl) (hK.sub [0] rfl) (hD.sub [0, 1] (by decide) rfl) hS d_Num_findPower_200
                  · have e175 : ngB T e a = true := tt_of (fun z => c175 ((bI_0 _).mpr z))
                    refine lv_aload_n hx hb d_Num_findPower_178 rfl (lv_at hl 0 rfl) ?_
                    refine lv_aload_n hx hb d_Num_findPower_179 rfl (lv_at hl 0 rfl) ?_
                    refine va_get (D := D) (ci := 3) (v := .int (zI ((min (pE T e a) 1000000 : Nat) : Int))) (C := R_Num) (T := F_Num) (N := 8) hx hb hts w_Num hown hK hP 0 rfl rfl 7 (by decide) (hts _ kF_Num_93) (fun _ h9 => h9) rfl d_Num_findPower_180 ?_
                    refine lv_ineg hx hb d_Num_findPower_183 ?_
                    refine tv_i (zI (-((min (pE T e a) 1000000 : Nat) : Int))) (zI_neg _) ?_
                    refine va_put (D := D) (ci := 3) (v := .int (zI (-((min (pE T e a) 1000000 : Nat) : Int)))) (ty := .int) (C := R_Num) (T := F_Num) (N := 8) hx hb hts w_Num t_Num tk_Num n_Num hown hK hP hD hS 0 rfl rfl 7 (by decide) (hts _ kF_Num_93) (fun _ h9 => h9) rfl (by decide +kernel) (rfl) (rfl) (Nat.le_of_ble_eq_true rfl) d_Num_findPower_184 (fun H locs hP hD hS => ?_)
                    have hP : va_P D vcl [(nm, .inr (3, [.ref x, .int (nI (pX T e a)), .int (nI e), .int mi, .int (nI (if hex then 4 else 3)), .int fr, .int to, .int (zI (-((min (pE T e a) 1000000 : Nat) : Int)))])), (x, .inl (cC, 2400, .inl (tx T)))] H := hP
                    have hD : va_D A [(nm, .inr (3, [.ref x, .int (nI (pX T e a)), .int (nI e), .int mi, .int (nI (if hex then 4 else 3)), .int fr, .int to, .int (zI (-((min (pE T e a) 1000000 : Nat) : Int)))])), (x, .inl (cC, 2400, .inl (tx T)))] := hD
                    refine lv_aload_n hx hb d_Num_findPower_187 rfl (lv_at hl 0 rfl) ?_
                    refine va_get (D := D) (ci := 3) (v := .int (nI (pX T e a))) (C := R_Num) (T := F_Num) (N := 8) hx hb hts w_Num hown hK hP 0 rfl rfl 1 (by decide) (hts _ kF_Num_25) (fun _ h9 => h9) rfl d_Num_findPower_188 ?_
                    refine lv_iload_n hx hb d_Num_findPower_191 rfl (lv_at hl 2 rfl) ?_
                    refine lv_icmp_le (tgt := 199) hx hb d_Num_findPower_192 (by decide) (fun c192 => ?_) (fun c192 => ?_)
                    · have e192 : pX T e a ≤ pS T e a := (nI_leI (by omega) (by omega)).mp c192
                      refine lv_iconst (v := 0) hx hb d_Num_findPower_199 (by decide) ?_
                      rw [show nI (pX T e a) = nI (pAt hex T e a) by unfold pAt; rw [e34]; rfl, show zI (-((min (pE T e a) 1000000 : Nat) : Int)) = zI (pPw 1000000 hex T e a) by unfold pPw; rw [e34, e175]; rfl] at hP hD
                      exact rt_i hx hb hrt hlocks (rfl) (()) (by unfold pOk; rw [e34]; show 0 = bI (decide (pS T e a < pX T e a)); rw [decide_eq_false (by omega)]; rfl) (hP.sub [0, 1] rfl) (hK.sub [0] rfl) (hD.sub [0, 1] (by decide) rfl) hS d_Num_findPower_200
                    · have e192 : ¬ pX T e a ≤ pS T e a := fun z => c192 ((nI_leI (by omega) (by omega)).mpr z)
                      refine lv_iconst (v := 1) hx hb d_Num_findPower_195 (by decide) ?_
                      refine lv_goto (tgt := 200) hx hb d_Num_findPower_196 (by decide) ?_
                      rw [show nI (pX T e a) = nI (pAt hex T e a) by unfold pAt; rw [e34]; rfl, show zI (-((min (pE T e a) 1000000 : Nat) : Int)) = zI (pPw 1000000 hex T e a) by unfold pPw; rw [e34, e175]; rfl] at hP hD
                      exact rt_i hx hb hrt hlocks (rfl) (()) (by unfold pOk; rw [e34]; show 1 = bI (decide (pS T e a < pX T e a)); rw [decide_eq_true (by omega)]; rfl) (hP.sub [0, 1] rfl) (hK.sub [0] rfl) (hD.sub [0, 1] (by decide) rfl) hS d_Num_findPower_200
                · have e129 : dg (T k) < 10 := Nat.lt_of_not_le (fun z => c129 ((nI_leI (a := 10) (by decide) (by have := dg_le (T k); omega)).mpr z))
                  refine lv_aload_n hx hb d_Num_findPower_132 rfl (lv_at hl 0 rfl) ?_
                  refine lv_aload_n hx hb d_Num_findPower_133 rfl (lv_at hl 0 rfl) ?_
                  refine va_get (D := D) (ci := 3) (v := .int (zI ((min (xv T (pS T e a) (k - pS T e a)) 1000000 : Nat) : Int))) (C := R_Num) (T := F_Num) (N := 8) hx hb hts w_Num hown hK hP 0 rfl rfl 7 (by decide) (hts _ kF_Num_93) (fun _ h9 => h9) rfl d_Num_findPower_134 ?_
                  refine lv_bipush (v := 10) hx hb d_Num_findPower_137 (by decide) ?_
                  refine lv_imul hx hb d_Num_findPower_139 ?_
                  refine lv_aload_n hx hb d_Num_findPower_140 rfl (lv_at hl 0 rfl) ?_
                  refine va_get (D := D) (ci := 3) (v := .ref x) (C := R_Num) (T := F_Num) (N := 8) hx hb hts w_Num hown hK hP 0 rfl rfl 0 (by decide) (hts _ kF_Num_7) (fun _ h9 => h9) rfl d_Num_findPower_141 ?_
                  refine lv_aload_n hx hb d_Num_findPower_144 rfl (lv_at hl 0 rfl) ?_
                  refine va_get (D := D) (ci := 3) (v := .int (nI k)) (C := R_Num) (T := F_Num) (N := 8) hx hb hts w_Num hown hK hP 0 rfl rfl 1 (by decide) (hts _ kF_Num_25) (fun _ h9 => h9) rfl d_Num_findPower_145 ?_
                  refine va_cald hx hb hK hP 1 0 rfl rfl (i := nI k) (vp_in_nI (show k < 2400 by omega) (by decide)) d_Num_findPower_148 ?_
                  refine tv_i (nI (T (k))) (by rw [nI_clamp (by omega)]; rfl) ?_
                  refine ca_i [(nm, .inr (3, [.ref x, .int (nI k), .int (nI e), .int mi, .int (nI (if hex then 4 else 3)), .int fr, .int to, .int (zI ((min (xv T (pS T e a) (k - pS T e a)) 1000000 : Nat) : Int))])), (x, .inl (cC, 2400, .inl (tx T)))] (va_runSN (As := [.int (nI (T (k)))]) (rest := [.int ((zI ((min (xv T (pS T e a) (k - pS T e a)) 1000000 : Nat) : Int)) * 10), .ref nm]) ⟨hx, hb, hml, hown, hts⟩ (c_Rea_digitOf l D E (T (k)) (by have := hT k; omega) H.size) (xSN 1 hts kC_Rea_digitOf hE.1.1 kT_Rea_digitOf kN_Rea rfl rfl (by decide +kernel) ⟨Nat.le_of_ble_eq_true rfl, Nat.le_of_ble_eq_true rfl⟩) ⟨ct_blind hev, ct_pre hev hP hK hD hS hA hE [] rfl (by decide) [] rfl⟩ rfl rfl hl.1 rfl (lv_room (Nat.le_of_ble_eq_true rfl)) d_Num_findPower_149 ⟨Nat.le_of_ble_eq_true rfl, Nat.le_of_ble_eq_true rfl⟩) hP hD hS hA [] [0, 1] rfl rfl (by decide) (by decide) (fun r u H locs hw hP hD hS hK1 => ?_)
                  subst hw
                  have hP : va_P D vcl [(nm, .inr (3, [.ref x, .int (nI k), .int (nI e), .int mi, .int (nI (if hex then 4 else 3)), .int fr, .int to, .int (zI ((min (xv T (pS T e a) (k - pS T e a)) 1000000 : Nat) : Int))])), (x, .inl (cC, 2400, .inl (tx T)))] H := hP
                  have hD : va_D A [(nm, .inr (3, [.ref x, .int (nI k), .int (nI e), .int mi, .int (nI (if hex then 4 else 3)), .int fr, .int to, .int (zI ((min (xv T (pS T e a) (k - pS T e a)) 1000000 : Nat) : Int))])), (x, .inl (cC, 2400, .inl (tx T)))] := hD
                  refine lv_iadd hx hb d_Num_findPower_152 ?_
                  refine tv_i (zI ((min (xv T (pS T e a) (k - pS T e a)) 1000000 * 10 + dg (T k) : Nat) : Int)) (by show zI _ * zI 10 + nI _ = _; rw [zI_mul, ← zI_nI, zI_add]; exact congrArg zI (by omega)) ?_
                  refine lv_ldc hx hb hown (hts _ kK_Num_96) d_Num_findPower_153 ?_
                  refine va_mmin hx hb (by rw [hml]; exact hl.1.symm) hown (hts _ kM_Num_44) (hts _ kT_mmin) (hts _ kN_Math) (hts _ kC_mmin) (Nat.le_of_ble_eq_true rfl) (Nat.le_of_ble_eq_true rfl) (Nat.le_of_ble_eq_true rfl) (Nat.le_of_ble_eq_true rfl) d_Num_findPower_155 ?_
                  refine tv_i (zI ((min (xv T (pS T e a) ((k + 1) - pS T e a)) 1000000 : Nat) : Int)) (pw_min hk1) ?_
                  refine va_put (D := D) (ci := 3) (v := .int (zI ((min (xv T (pS T e a) ((k + 1) - pS T e a)) 1000000 : Nat) : Int))) (ty := .int) (C := R_Num) (T := F_Num) (N := 8) hx hb hts w_Num t_Num tk_Num n_Num hown hK hP hD hS 0 rfl rfl 7 (by decide) (hts _ kF_Num_93) (fun _ h9 => h9) rfl (by decide +kernel) (rfl) (rfl) (Nat.le_of_ble_eq_true rfl) d_Num_findPower_158 (fun H locs hP hD hS => ?_)
                  have hP : va_P D vcl [(nm, .inr (3, [.ref x, .int (nI k), .int (nI e), .int mi, .int (nI (if hex then 4 else 3)), .int fr, .int to, .int (zI ((min (xv T (pS T e a) ((k + 1) - pS T e a)) 1000000 : Nat) : Int))])), (x, .inl (cC, 2400, .inl (tx T)))] H := hP
                  have hD : va_D A [(nm, .inr (3, [.ref x, .int (nI k), .int (nI e), .int mi, .int (nI (if hex then 4 else 3)), .int fr, .int to, .int (zI ((min (xv T (pS T e a) ((k + 1) - pS T e a)) 1000000 : Nat) : Int))])), (x, .inl (cC, 2400, .inl (tx T)))] := hD
                  refine lv_aload_n hx hb d_Num_findPower_161 rfl (lv_at hl 0 rfl) ?_
                  refine lv_dup hx hb d_Num_findPower_162 rfl ?_
                  refine va_get (D := D) (ci := 3) (v := .int (nI k)) (C := R_Num) (T := F_Num) (N := 8) hx hb hts w_Num hown hK hP 0 rfl rfl 1 (by decide) (hts _ kF_Num_25) (fun _ h9 => h9) rfl d_Num_findPower_163 ?_
                  refine lv_iconst (v := 1) hx hb d_Num_findPower_166 (by decide) ?_
                  refine lv_iadd hx hb d_Num_findPower_167 ?_
                  refine tv_i (nI (k + 1)) (nI_1 k) ?_
                  refine va_put (D := D) (ci := 3) (v := .int (nI (k + 1))) (ty := .int) (C := R_Num) (T := F_Num) (N := 8) hx hb hts w_Num t_Num tk_Num n_Num hown hK hP hD hS 0 rfl rfl 1 (by decide) (hts _ kF_Num_25) (fun _ h9 => h9) rfl (by decide +kernel) (rfl) (rfl) (Nat.le_of_ble_eq_true rfl) d_Num_findPower_168 (fun H locs hP hD hS => ?_)
                  have hP : va_P D vcl [(nm, .inr (3, [.ref x, .int (nI (k + 1)), .int (nI e), .int mi, .int (nI (if hex then 4 else 3)), .int fr, .int to, .int (zI ((min (xv T (pS T e a) ((k + 1) - pS T e a)) 1000000 : Nat) : Int))])), (x, .inl (cC, 2400, .inl (tx T)))] H := hP
                  have hD : va_D A [(nm, .inr (3, [.ref x, .int (nI (k + 1)), .int (nI e), .int mi, .int (nI (if hex then 4 else 3)), .int fr, .int to, .int (zI ((min (xv T (pS T e a) ((k + 1) - pS T e a)) 1000000 : Nat) : Int))])), (x, .inl (cC, 2400, .inl (tx T)))] := hD
                  refine lv_goto (tgt := 104) hx hb d_Num_findPower_171 (by decide) ?_
                  exact ih (k + 1) (by omega) (by omega) (by omega) (by rw [← sk_t e112 e129]; exact hv) _ _ _ (hP.sub [0, 1] rfl) (hD.sub [0, 1] (by decide) rfl) hS (lv_sub hl [0, 1, 2] rfl)
          exact L104 (e - pS T e a + 1) (pS T e a) (by omega) (Nat.le_refl _) (hps.1) (rfl) _ _ _ (hP.sub [0, 1] rfl) (hD.sub [0, 1] (by decide) rfl) hS (lv_sub hl [3, 1, 0] rfl)
        · exact absurd ((bI_0 _).mp c77) (by rw [show ngB T e a = true from decide_eq_true e67]; decide)
    · have e34 : mkB hex T e a = false := (bI_0 _).mp c34
      refine lv_aload_n hx hb d_Num_findPower_37 rfl (lv_at hl 1 rfl) ?_
      refine va_get (D := D) (ci := 3) (v := .int (nI (if hex then 4 else 3))) (C := R_Num) (T := F_Num) (N := 8) hx hb hts w_Num hown hK hP 0 rfl rfl 4 (by decide) (hts _ kF_Num_35) (fun _ h9 => h9) rfl d_Num_findPower_38 ?_
      refine lv_iconst (v := 3) hx hb d_Num_findPower_41 (by decide) ?_
      refine lv_icmp_ne (tgt := 49) hx hb d_Num_findPower_42 (by decide) (fun c42 => ?_) (fun c42 => ?_)
      · refine lv_iconst (v := 0) hx hb d_Num_findPower_49 (by decide) ?_
        rw [show nI a = nI (pAt hex T e a) by unfold pAt; rw [e34]; rfl, show zI 0 = zI (pPw 1000000 hex T e a) by unfold pPw; rw [e34]; rfl] at hP hD
        exact rt_i hx hb hrt hlocks (rfl) (()) (by unfold pOk; rw [e34]; cases hex; (· exact absurd rfl c42); rfl) (hP.sub [0, 1] rfl) (hK.sub [0] rfl) (hD.sub [0, 1] (by decide) rfl) hS d_Num_findPower_50
      · refine lv_iconst (v := 1) hx hb d_Num_findPower_45 (by decide) ?_
        refine lv_goto (tgt := 50) hx hb d_Num_findPower_46 (by decide) ?_
        rw [show nI a = nI (pAt hex T e a) by unfold pAt; rw [e34]; rfl, show zI 0 = zI (pPw 1000000 hex T e a) by unfold pPw; rw [e34]; rfl] at hP hD
        exact rt_i hx hb hrt hlocks (rfl) (()) (by unfold pOk; rw [e34]; cases hex; (· rfl); exact absurd c42 (by decide)) (hP.sub [0, 1] rfl) (hK.sub [0] rfl) (hD.sub [0, 1] (by decide) rfl) hS d_Num_findPower_50
  · have e10 : hex = true := by cases hex; (· exact absurd c10 (by decide)); rfl
    refine lv_aload_n hx hb d_Num_findPower_13 rfl (lv_at hl 0 rfl) ?_
    refine lv_bipush (v := 112) hx hb d_Num_findPower_14 (by decide) ?_
    refine lv_bipush (v := 80) hx hb d_Num_findPower_16 (by decide) ?_
    refine ca_i [] (va_runV (As := [.int 112, .int 80]) (rest := []) ⟨hx, hb, hml, hown, hts⟩ (c_Num_isHere l D E nm x cC T hT mi (nI (if hex then 4 else 3)) fr to (zI 0) a e (hae) (he) 112 80 (by decide) (by decide) H.size) (xV 2 hts kC_Num_isHere kM_Num_73 kI_Num_isHere kS_Num_isHere kN_Num rfl rfl (by decide +kernel) ⟨Nat.le_of_ble_eq_true rfl, Nat.le_of_ble_eq_true rfl⟩) ⟨ct_blind hev, va_recv hK hP (ci := 3) (q0 := 0) rfl rfl, ct_pre hev hP hK hD hS hA hE [0, 1] rfl (by decide) [0] rfl⟩ rfl rfl hl.1 rfl (lv_room (Nat.le_of_ble_eq_true rfl)) d_Num_findPower_18 ⟨Nat.le_of_ble_eq_true rfl, Nat.le_of_ble_eq_true rfl⟩) hP hD hS hA [0, 1] [] rfl rfl (by decide) (by decide) (fun r u H locs hw hP hD hS hK1 => ?_)
    subst hw
    have hP : va_P D vcl [(nm, .inr (3, [.ref x, .int (nI a), .int (nI e), .int mi, .int (nI (if hex then 4 else 3)), .int fr, .int to, .int (zI 0)])), (x, .inl (cC, 2400, .inl (tx T)))] H := hP
    have hD : va_D A [(nm, .inr (3, [.ref x, .int (nI a), .int (nI e), .int mi, .int (nI (if hex then 4 else 3)), .int fr, .int to, .int (zI 0)])), (x, .inl (cC, 2400, .inl (tx T)))] := hD
    refine tv_i (bI (mkB hex T e a)) (by unfold mkB; rw [e10]; rfl) ?_
    refine lv_goto (tgt := 32) hx hb d_Num_findPower_21 (by decide) ?_
    refine lv_istore_n (lv' := [(1, .int (bI (mkB hex T e a))), (0, .ref nm)]) hx hb d_Num_findPower_32 rfl hl (by decide) rfl (fun ls hl => ?_)
    refine lv_iload_n hx hb d_Num_findPower_33 rfl (lv_at hl 0 rfl) ?_
    refine lv_if_ne (tgt := 51) hx hb d_Num_findPower_34 (by decide) (fun c34 => ?_) (fun c34 => ?_)
    · have e34 : mkB hex T e a = true := tt_of (fun z => c34 ((bI_0 _).mpr z))
      have hmk := mk_lt e34
      have hps := pS_le (T := T) hmk
      refine lv_aload_n hx hb d_Num_findPower_51 rfl (lv_at hl 1 rfl) ?_
      refine lv_dup hx hb d_Num_findPower_52 rfl ?_
      refine va_get (D := D) (ci := 3) (v := .int (nI a)) (C := R_Num) (T := F_Num) (N := 8) hx hb hts w_Num hown hK hP 0 rfl rfl 1 (by decide) (hts _ kF_Num_25) (fun _ h9 => h9) rfl d_Num_findPower_53 ?_
      refine lv_iconst (v := 1) hx hb d_Num_findPower_56 (by decide) ?_
      refine lv_iadd hx hb d_Num_findPower_57 ?_
      refine tv_i (nI (a + 1)) (nI_1 a) ?_
      refine va_put (D := D) (ci := 3) (v := .int (nI (a + 1))) (ty := .int) (C := R_Num) (T := F_Num) (N := 8) hx hb hts w_Num t_Num tk_Num n_Num hown hK hP hD hS 0 rfl rfl 1 (by decide) (hts _ kF_Num_25) (fun _ h9 => h9) rfl (by decide +kernel) (rfl) (rfl) (Nat.le_of_ble_eq_true rfl) d_Num_findPower_58 (fun H locs hP hD hS => ?_)
      have hP : va_P D vcl [(nm, .inr (3, [.ref x, .int (nI (a + 1)), .int (nI e), .int mi, .int (nI (if hex then 4 else 3)), .int fr, .int to, .int (zI 0)])), (x, .inl (cC, 2400, .inl (tx T)))] H := hP
      have hD : va_D A [(nm, .inr (3, [.ref x, .int (nI (a + 1)), .int (nI e), .int mi, .int (nI (if hex then 4 else 3)), .int fr, .int to, .int (zI 0)])), (x, .inl (cC, 2400, .inl (tx T)))] := hD
      refine lv_aload_n hx hb d_Num_findPower_61 rfl (lv_at hl 1 rfl) ?_
      refine ca_i [] (va_runV (As := []) (rest := []) ⟨hx, hb, hml, hown, hts⟩ (c_Num_here l D E nm x cC T hT mi (nI (if hex then 4 else 3)) fr to (zI 0) (a + 1) e (by omega) (he) H.size) (xV 0 hts kC_Num_here kM_Num_17 kI_Num_here kS_Num_here kN_Num rfl rfl (by decide +kernel) ⟨Nat.le_of_ble_eq_true rfl, Nat.le_of_ble_eq_true rfl⟩) ⟨ct_blind hev, va_recv hK hP (ci := 3) (q0 := 0) rfl rfl, ct_pre hev hP hK hD hS hA hE [0, 1] rfl (by decide) [0] rfl⟩ rfl rfl hl.1 rfl (lv_room (Nat.le_of_ble_eq_true rfl)) d_Num_findPower_62 ⟨Nat.le_of_ble_eq_true rfl, Nat.le_of_ble_eq_true rfl⟩) hP hD hS hA [0, 1] [] rfl rfl (by decide) (by decide) (fun r u H locs hw hP hD hS hK1 => ?_)
      subst hw
      have hP : va_P D vcl [(nm, .inr (3, [.ref x, .int (nI (a + 1)), .int (nI e), .int mi, .int (nI (if hex then 4 else 3)), .int fr, .int to, .int (zI 0)])), (x, .inl (cC, 2400, .inl (tx T)))] H := hP
      have hD : va_D A [(nm, .inr (3, [.ref x, .int (nI (a + 1)), .int (nI e), .int mi, .int (nI (if hex then 4 else 3)), .int fr, .int to, .int (zI 0)])), (x, .inl (cC, 2400, .inl (tx T)))] := hD
      refine lv_bipush (v := 45) hx hb d_Num_findPower_65 (by decide) ?_
      refine lv_icmp_ne (tgt := 74) hx hb d_Num_findPower_67 (by decide) (fun c67 => ?_) (fun c67 => ?_)
      · have e67 : ¬ lk T e (a + 1) = 45 := fun z => c67 (by rw [z]; rfl)
        refine lv_iconst (v := 0) hx hb d_Num_findPower_74 (by decide) ?_
        refine tv_i (bI (ngB T e a)) (by rw [show ngB T e a = false from decide_eq_false e67]; rfl) ?_
        refine lv_istore_n (lv' := [(2, .int (bI (ngB T e a))), (1, .int (bI (mkB hex T e a))), (0, .ref nm)]) hx hb d_Num_findPower_75 rfl hl (by decide) rfl (fun ls hl => ?_)
        refine lv_iload_n hx hb d_Num_findPower_76 rfl (lv_at hl 0 rfl) ?_
        refine lv_if_ne (tgt := 89) hx hb d_Num_findPower_77 (by decide) (fun c77 => ?_) (fun c77 => ?_)
        · exact absurd ((bI_0 _).mpr (decide_eq_false e67)) c77
        · refine lv_aload_n hx hb d_Num_findPower_80 rfl (lv_at hl 2 rfl) ?_
          refine ca_i [] (va_runV (As := []) (rest := []) ⟨hx, hb, hml, hown, hts⟩ (c_Num_here l D E nm x cC T hT mi (nI (if hex then 4 else 3)) fr to (zI 0) (a + 1) e (by omega) (he) H.size) (xV 0 hts kC_Num_here kM_Num_17 kI_Num_here kS_Num_here kN_Num rfl rfl (by decide +kernel) ⟨Nat.le_of_ble_eq_true rfl, Nat.le_of_ble_eq_true rfl⟩) ⟨ct_blind hev, va_recv hK hP (ci := 3) (q0 := 0) rfl rfl, ct_pre hev hP hK hD hS hA hE [0, 1] rfl (by decide) [0] rfl⟩ rfl rfl hl.1 rfl (lv_room (Nat.le_of_ble_eq_true rfl)) d_Num_findPower_81 ⟨Nat.le_of_ble_eq_true rfl, Nat.le_of_ble_eq_true rfl⟩) hP hD hS hA [0, 1] [] rfl rfl (by decide) (by decide) (fun r u H locs hw hP hD hS hK1 => ?_)
          subst hw
          have hP : va_P D vcl [(nm, .inr (3, [.ref x, .int (nI (a + 1)), .int (nI e), .int mi, .int (nI (if hex then 4 else 3)), .int fr, .int to, .int (zI 0)])), (x, .inl (cC, 2400, .inl (tx T)))] H := hP
          have hD : va_D A [(nm, .inr (3, [.ref x, .int (nI (a + 1)), .int (nI e), .int mi, .int (nI (if hex then 4 else 3)), .int fr, .int to, .int (zI 0)])), (x, .inl (cC, 2400, .inl (tx T)))] := hD
          refine lv_bipush (v := 43) hx hb d_Num_findPower_84 (by decide) ?_
          refine lv_icmp_ne (tgt := 99) hx hb d_Num_findPower_86 (by decide) (fun c86 => ?_) (fun c86 => ?_)
          · have e86 : ¬ lk T e (a + 1) = 43 := fun z => c86 (by rw [z]; rfl)
            have hps2 : pS T e a = a + 1 := by unfold pS; rw [if_neg (fun z => z.elim e67 e86)]
            rw [← hps2] at hP hD
            rw [show zI 0 = zI ((min (xv T (pS T e a) (pS T e a - pS T e a)) 1000000 : Nat) : Int) from by rw [Nat.sub_self]; rfl] at hP hD
            refine lv_aload_n hx hb d_Num_findPower_99 rfl (lv_at hl 2 rfl) ?_
            refine va_get (D := D) (ci := 3) (v := .int (nI (pS T e a))) (C := R_Num) (T := F_Num) (N := 8) hx hb hts w_Num hown hK hP 0 rfl rfl 1 (by decide) (hts _ kF_Num_25) (fun _ h9 => h9) rfl d_Num_findPower_100 ?_
            refine lv_istore_n (lv' := [(3, .int (nI (pS T e a))), (2, .int (bI (ngB T e a))), (1, .int (bI (mkB hex T e a))), (0, .ref nm)]) hx hb d_Num_findPower_103 rfl hl (by decide) rfl (fun ls hl => ?_)
            have L104 : ∀ (kk : Nat) (k : Nat), e - k < kk → (pS T e a ≤ k) → (k ≤ e) → (sk 10 T e k = sk 10 T e (pS T e a)) → ∀ (H : Heap) (locs : List Loc) (ls : Array Slot), va_P D vcl [(nm, .inr (3, [.ref x, .int (nI k), .int (nI e), .int mi, .int (nI (if hex then 4 else 3)), .int fr, .int to, .int (zI ((min (xv T (pS T e a) (k - pS T e a)) 1000000 : Nat) : Int))])), (x, .inl (cC, 2400, .inl (tx T)))] H → va_D A [(nm, .inr (3, [.ref x, .int (nI k), .int (nI e), .int mi, .int (nI (if hex then 4 else 3)), .int fr, .int to, .int (zI ((min (xv T (pS T e a) (k - pS T e a)) 1000000 : Nat) : Int))])), (x, .inl (cC, 2400, .inl (tx T)))] → va_S A s.heap H locs → lv_has ls 4 [(0, .ref nm), (2, .int (bI (ngB T e a))), (3, .int (nI (pS T e a)))] → W p l ee ({ frames := 2, cells := 0, slots := 0, locals := 42 }) s m ([.ref nm] : List Value).toArray below meth cde H locs 0 0 (MQ below (va_Qi (S := Unit) (fun (r : Int32) (_ : Unit) => r = bI (pOk hex T e a)) (fun u tS => ctB D vcl ((fun _ => [(cC, .char)]) u) ((fun _ : Unit => [(nm, .inr (3, [.ref x, .int (nI (pAt hex T e a)), .int (nI e), .int mi, .int (nI (if hex then 4 else 3)), .int fr, .int to, .int (zI (pPw 1000000 hex T e a))])), (x, .inl (cC, 2400, .inl (tx T)))]) u) A tS) A) ([.ref nm] : List Value).toArray s 0 0 A) (F0 m 104 ls []) := by
              intro kk
              induction kk with
              | zero => intro k hmz; exact absurd hmz (Nat.not_lt_zero _)
              | succ kk ih =>
                intro k hmz hk1 hke hv H locs ls hP hD hS hl
                refine lv_aload_n hx hb d_Num_findPower_104 rfl (lv_at hl 0 rfl) ?_
                refine va_get (D := D) (ci := 3) (v := .int (nI k)) (C := R_Num) (T := F_Num) (N := 8) hx hb hts w_Num hown hK hP 0 rfl rfl 1 (by decide) (hts _ kF_Num_25) (fun _ h9 => h9) rfl d_Num_findPower_105 ?_
                refine lv_aload_n hx hb d_Num_findPower_108 rfl (lv_at hl 0 rfl) ?_
                refine va_get (D := D) (ci := 3) (v := .int (nI e)) (C := R_Num) (T := F_Num) (N := 8) hx hb hts w_Num hown hK hP 0 rfl rfl 2 (by decide) (hts _ kF_Num_50) (fun _ h9 => h9) rfl d_Num_findPower_109 ?_
                refine lv_icmp_ge (tgt := 174) hx hb d_Num_findPower_112 (by decide) (fun c112 => ?_) (fun c112 => ?_)
                · have e112 : e ≤ k := (nI_leI (by omega) (by omega)).mp c112
                  have hkx : k = pX T e a := by unfold pX; rw [← hv]; exact (sk_f (fun z => absurd z.1 (by omega))).symm
                  rw [hkx] at hP hD
                  have hP : va_P D vcl [(nm, .inr (3, [.ref x, .int (nI (pX T e a)), .int (nI e), .int mi, .int (nI (if hex then 4 else 3)), .int fr, .int to, .int (zI ((min (pE T e a) 1000000 : Nat) : Int))])), (x, .inl (cC, 2400, .inl (tx T)))] H := hP
                  have hD : va_D A [(nm, .inr (3, [.ref x, .int (nI (pX T e a)), .int (nI e), .int mi, .int (nI (if hex then 4 else 3)), .int fr, .int to, .int (zI ((min (pE T e a) 1000000 : Nat) : Int))])), (x, .inl (cC, 2400, .inl (tx T)))] := hD
                  refine lv_iload_n hx hb d_Num_findPower_174 rfl (lv_at hl 1 rfl) ?_
                  refine lv_if_eq (tgt := 187) hx hb d_Num_findPower_175 (by decide) (fun c175 => ?_) (fun c175 => ?_)
                  · have e175 : ngB T e a = false := (bI_0 _).mp c175
                    refine lv_aload_n hx hb d_Num_findPower_187 rfl (lv_at hl 0 rfl) ?_
                    refine va_get (D := D) (ci := 3) (v := .int (nI (pX T e a))) (C := R_Num) (T := F_Num) (N := 8) hx hb hts w_Num hown hK hP 0 rfl rfl 1 (by decide) (hts _ kF_Num_25) (fun _ h9 => h9) rfl d_Num_findPower_188 ?_
                    refine lv_iload_n hx hb d_Num_findPower_191 rfl (lv_at hl 2 rfl) ?_
                    refine lv_icmp_le (tgt := 199) hx hb d_Num_findPower_192 (by decide) (fun c192 => ?_) (fun c192 => ?_)
                    · have e192 : pX T e a ≤ pS T e a := (nI_leI (by omega) (by omega)).mp c192
                      refine lv_iconst (v := 0) hx hb d_Num_findPower_199 (by decide) ?_
                      rw [show nI (pX T e a) = nI (pAt hex T e a) by unfold pAt; rw [e34]; rfl, show zI ((min (pE T e a) 1000000 : Nat) : Int) = zI (pPw 1000000 hex T e a) by unfold pPw; rw [e34, e175]; rfl] at hP hD
                      exact rt_i hx hb hrt hlocks (rfl) (()) (by unfold pOk; rw [e34]; show 0 = bI (decide (pS T e a < pX T e a)); rw [decide_eq_false (by omega)]; rfl) (hP.sub [0, 1] rfl) (hK.sub [0] rfl) (hD.sub [0, 1] (by decide) rfl) hS d_Num_findPower_200
                    · have e192 : ¬ pX T e a ≤ pS T e a := fun z => c192 ((nI_leI (by omega) (by omega)).mpr z)
                      refine lv_iconst (v := 1) hx hb d_Num_findPower_195 (by decide) ?_
                      refine lv_goto (tgt := 200) hx hb d_Num_findPower_196 (by decide) ?_
                      rw [show nI (pX T e a) = nI (pAt hex T e a) by unfold pAt; rw [e34]; rfl, show zI ((min (pE T e a) 1000000 : Nat) : Int) = zI (pPw 1000000 hex T e a) by unfold pPw; rw [e34, e175]; rfl] at hP hD
                      exact rt_i hx hb hrt hlocks (rfl) (()) (by unfold pOk; rw [e34]; show 1 = bI (decide (pS T e a < pX T e a)); rw [decide_eq_true (by omega)]; rfl) (hP.sub [0, 1] rfl) (hK.sub [0] rfl) (hD.sub [0, 1] (by decide) rfl) hS d_Num_findPower_200
                  · have e175 : ngB T e a = true := tt_of (fun z => c175 ((bI_0 _).mpr z))
                    refine lv_aload_n hx hb d_Num_findPower_178 rfl (lv_at hl 0 rfl) ?_
                    refine lv_aload_n hx hb d_Num_findPower_179 rfl (lv_at hl 0 rfl) ?_
                    refine va_get (D := D) (ci := 3) (v := .int (zI ((min (pE T e a) 1000000 : Nat) : Int))) (C := R_Num) (T := F_Num) (N := 8) hx hb hts w_Num hown hK hP 0 rfl rfl 7 (by decide) (hts _ kF_Num_93) (fun _ h9 => h9) rfl d_Num_findPower_180 ?_
                    refine lv_ineg hx hb d_Num_findPower_183 ?_
                    refine tv_i (zI (-((min (pE T e a) 1000000 : Nat) : Int))) (zI_neg _) ?_
                    refine va_put (D := D) (ci := 3) (v := .int (zI (-((min (pE T e a) 1000000 : Nat) : Int)))) (ty := .int) (C := R_Num) (T := F_Num) (N := 8) hx hb hts w_Num t_Num tk_Num n_Num hown hK hP hD hS 0 rfl rfl 7 (by decide) (hts _ kF_Num_93) (fun _ h9 => h9) rfl (by decide +kernel) (rfl) (rfl) (Nat.le_of_ble_eq_true rfl) d_Num_findPower_184 (fun H locs hP hD hS => ?_)
                    have hP : va_P D vcl [(nm, .inr (3, [.ref x, .int (nI (pX T e a)), .int (nI e), .int mi, .int (nI (if hex then 4 else 3)), .int fr, .int to, .int (zI (-((min (pE T e a) 1000000 : Nat) : Int)))])), (x, .inl (cC, 2400, .inl (tx T)))] H := hP
                    have hD : va_D A [(nm, .inr (3, [.ref x, .int (nI (pX T e a)), .int (nI e), .int mi, .int (nI (if hex then 4 else 3)), .int fr, .int to, .int (zI (-((min (pE T e a) 1000000 : Nat) : Int)))])), (x, .inl (cC, 2400, .inl (tx T)))] := hD
                    refine lv_aload_n hx hb d_Num_findPower_187 rfl (lv_at hl 0 rfl) ?_
                    refine va_get (D := D) (ci := 3) (v := .int (nI (pX T e a))) (C := R_Num) (T := F_Num) (N := 8) hx hb hts w_Num hown hK hP 0 rfl rfl 1 (by decide) (hts _ kF_Num_25) (fun _ h9 => h9) rfl d_Num_findPower_188 ?_
                    refine lv_iload_n hx hb d_Num_findPower_191 rfl (lv_at hl 2 rfl) ?_
                    refine lv_icmp_le (tgt := 199) hx hb d_Num_findPower_192 (by decide) (fun c192 => ?_) (fun c192 => ?_)
                    · have e192 : pX T e a ≤ pS T e a := (nI_leI (by omega) (by omega)).mp c192
                      refine lv_iconst (v := 0) hx hb d_Num_findPower_199 (by decide) ?_
                      rw [show nI (pX T e a) = nI (pAt hex T e a) by unfold pAt; rw [e34]; rfl, show zI (-((min (pE T e a) 1000000 : Nat) : Int)) = zI (pPw 1000000 hex T e a) by unfold pPw; rw [e34, e175]; rfl] at hP hD
                      exact rt_i hx hb hrt hlocks (rfl) (()) (by unfold pOk; rw [e34]; show 0 = bI (decide (pS T e a < pX T e a)); rw [decide_eq_false (by omega)]; rfl) (hP.sub [0, 1] rfl) (hK.sub [0] rfl) (hD.sub [0, 1] (by decide) rfl) hS d_Num_findPower_200
                    · have e192 : ¬ pX T e a ≤ pS T e a := fun z => c192 ((nI_leI (by omega) (by omega)).mpr z)
                      refine lv_iconst (v := 1) hx hb d_Num_findPower_195 (by decide) ?_
                      refine lv_goto (tgt := 200) hx hb d_Num_findPower_196 (by decide) ?_
                      rw [show nI (pX T e a) = nI (pAt hex T e a) by unfold pAt; rw [e34]; rfl, show zI (-((min (pE T e a) 1000000 : Nat) : Int)) = zI (pPw 1000000 hex T e a) by unfold pPw; rw [e34, e175]; rfl] at hP hD
                      exact rt_i hx hb hrt hlocks (rfl) (()) (by unfold pOk; rw [e34]; show 1 = bI (decide (pS T e a < pX T e a)); rw [decide_eq_true (by omega)]; rfl) (hP.sub [0, 1] rfl) (hK.sub [0] rfl) (hD.sub [0, 1] (by decide) rfl) hS d_Num_findPower_200
                · have e112 : k < e := Nat.lt_of_not_le (fun z => c112 ((nI_leI (by omega) (by omega)).mpr z))
                  refine lv_aload_n hx hb d_Num_findPower_115 rfl (lv_at hl 0 rfl) ?_
                  refine va_get (D := D) (ci := 3) (v := .ref x) (C := R_Num) (T := F_Num) (N := 8) hx hb hts w_Num hown hK hP 0 rfl rfl 0 (by decide) (hts _ kF_Num_7) (fun _ h9 => h9) rfl d_Num_findPower_116 ?_
                  refine lv_aload_n hx hb d_Num_findPower_119 rfl (lv_at hl 0 rfl) ?_
                  refine va_get (D := D) (ci := 3) (v := .int (nI k)) (C := R_Num) (T := F_Num) (N := 8) hx hb hts w_Num hown hK hP 0 rfl rfl 1 (by decide) (hts _ kF_Num_25) (fun _ h9 => h9) rfl d_Num_findPower_120 ?_
                  refine va_cald hx hb hK hP 1 0 rfl rfl (i := nI k) (vp_in_nI (show k < 2400 by omega) (by decide)) d_Num_findPower_123 ?_
                  refine tv_i (nI (T (k))) (by rw [nI_clamp (by omega)]; rfl) ?_
                  refine ca_i [(nm, .inr (3, [.ref x, .int (nI k), .int (nI e), .int mi, .int (nI (if hex then 4 else 3)), .int fr, .int to, .int (zI ((min (xv T (pS T e a) (k - pS T e a)) 1000000 : Nat) : Int))])), (x, .inl (cC, 2400, .inl (tx T)))] (va_runSN (As := [.int (nI (T (k)))]) (rest := []) ⟨hx, hb, hml, hown, hts⟩ (c_Rea_digitOf l D E (T (k)) (by have := hT k; omega) H.size) (xSN 1 hts kC_Rea_digitOf hE.1.1 kT_Rea_digitOf kN_Rea rfl rfl (by decide +kernel) ⟨Nat.le_of_ble_eq_true rfl, Nat.le_of_ble_eq_true rfl⟩) ⟨ct_blind hev, ct_pre hev hP hK hD hS hA hE [] rfl (by decide) [] rfl⟩ rfl rfl hl.1 rfl (lv_room (Nat.le_of_ble_eq_true rfl)) d_Num_findPower_124 ⟨Nat.le_of_ble_eq_true rfl, Nat.le_of_ble_eq_true rfl⟩) hP hD hS hA [] [0, 1] rfl rfl (by decide) (by decide) (fun r u H locs hw hP hD hS hK1 => ?_)
                  subst hw
                  have hP : va_P D vcl [(nm, .inr (3, [.ref x, .int (nI k), .int (nI e), .int mi, .int (nI (if hex then 4 else 3)), .int fr, .int to, .int (zI ((min (xv T (pS T e a) (k - pS T e a)) 1000000 : Nat) : Int))])), (x, .inl (cC, 2400, .inl (tx T)))] H := hP
                  have hD : va_D A [(nm, .inr (3, [.ref x, .int (nI k), .int (nI e), .int mi, .int (nI (if hex then 4 else 3)), .int fr, .int to, .int (zI ((min (xv T (pS T e a) (k - pS T e a)) 1000000 : Nat) : Int))])), (x, .inl (cC, 2400, .inl (tx T)))] := hD
                  refine lv_bipush (v := 10) hx hb d_Num_findPower_127 (by decide) ?_
                  refine lv_icmp_ge (tgt := 174) hx hb d_Num_findPower_129 (by decide) (fun c129 => ?_) (fun c129 => ?_)
                  · have e129 : 10 ≤ dg (T k) := (nI_leI (a := 10) (by decide) (by have := dg_le (T k); omega)).mp c129
                    have hkx : k = pX T e a := by unfold pX; rw [← hv]; exact (sk_f (fun z => absurd z.2 (by omega))).symm
                    rw [hkx] at hP hD
                    have hP : va_P D vcl [(nm, .inr (3, [.ref x, .int (nI (pX T e a)), .int (nI e), .int mi, .int (nI (if hex then 4 else 3)), .int fr, .int to, .int (zI ((min (pE T e a) 1000000 : Nat) : Int))])), (x, .inl (cC, 2400, .inl (tx T)))] H := hP
                    have hD : va_D A [(nm, .inr (3, [.ref x, .int (nI (pX T e a)), .int (nI e), .int mi, .int (nI (if hex then 4 else 3)), .int fr, .int to, .int (zI ((min (pE T e a) 1000000 : Nat) : Int))])), (x, .inl (cC, 2400, .inl (tx T)))] := hD
                    refine lv_iload_n hx hb d_Num_findPower_174 rfl (lv_at hl 1 rfl) ?_
                    refine lv_if_eq (tgt := 187) hx hb d_Num_findPower_175 (by decide) (fun c175 => ?_) (fun c175 => ?_)
                    · have e175 : ngB T e a = false := (bI_0 _).mp c175
                      refine lv_aload_n hx hb d_Num_findPower_187 rfl (lv_at hl 0 rfl) ?_
                      refine va_get (D := D) (ci := 3) (v := .int (nI (pX T e a))) (C := R_Num) (T := F_Num) (N := 8) hx hb hts w_Num hown hK hP 0 rfl rfl 1 (by decide) (hts _ kF_Num_25) (fun _ h9 => h9) rfl d_Num_findPower_188 ?_
                      refine lv_iload_n hx hb d_Num_findPower_191 rfl (lv_at hl 2 rfl) ?_
                      refine lv_icmp_le (tgt := 199) hx hb d_Num_findPower_192 (by decide) (fun c192 => ?_) (fun c192 => ?_)
                      · have e192 : pX T e a ≤ pS T e a := (nI_leI (by omega) (by omega)).mp c192
                        refine lv_iconst (v := 0) hx hb d_Num_findPower_199 (by decide) ?_
                        rw [show nI (pX T e a) = nI (pAt hex T e a) by unfold pAt; rw [e34]; rfl, show zI ((min (pE T e a) 1000000 : Nat) : Int) = zI (pPw 1000000 hex T e a) by unfold pPw; rw [e34, e175]; rfl] at hP hD
                        exact rt_i hx hb hrt hlocks (rfl) (()) (by unfold pOk; rw [e34]; show 0 = bI (decide (pS T e a < pX T e a)); rw [decide_eq_false (by omega)]; rfl) (hP.sub [0, 1] rfl) (hK.sub [0] rfl) (hD.sub [0, 1] (by decide) rfl) hS d_Num_findPower_200
                      · have e192 : ¬ pX T e a ≤ pS T e a := fun z => c192 ((nI_leI (by omega) (by omega)).mpr z)
                        refine lv_iconst (v := 1) hx hb d_Num_findPower_195 (by decide) ?_
                        refine lv_goto (tgt := 200) hx hb d_Num_findPower_196 (by decide) ?_
                        rw [show nI (pX T e a) = nI (pAt hex T e a) by unfold pAt; rw [e34]; rfl, show zI ((min (pE T e a) 1000000 : Nat) : Int) = zI (pPw 1000000 hex T e a) by unfold pPw; rw [e34, e175]; rfl] at hP hD
                        exact rt_i hx hb hrt hlocks (rfl) (()) (by unfold pOk; rw [e34]; show 1 = bI (decide (pS T e a < pX T e a)); rw [decide_eq_true (by omega)]; rfl) (hP.sub [0, 1] rfl) (hK.sub [0] rfl) (hD.sub [0, 1] (by decide) rfl) hS d_Num_findPower_200
                    · have e175 : ngB T e a = true := tt_of (fun z => c175 ((bI_0 _).mpr z))
                      refine lv_aload_n hx hb d_Num_findPower_178 rfl (lv_at hl 0 rfl) ?_
                      refine lv_aload_n hx hb d_Num_findPower_179 rfl (lv_at hl 0 rfl) ?_
                      refine va_get (D := D) (ci := 3) (v := .int (zI ((min (pE T e a) 1000000 : Nat) : Int))) (C := R_Num) (T := F_Num) (N := 8) hx hb hts w_Num hown hK hP 0 rfl rfl 7 (by decide) (hts _ kF_Num_93) (fun _ h9 => h9) rfl d_Num_findPower_180 ?_
                      refine lv_ineg hx hb d_Num_findPower_183 ?_
                      refine tv_i (zI (-((min (pE T e a) 1000000 : Nat) : Int))) (zI_neg _) ?_
                      refine va_put (D := D) (ci := 3) (v := .int (zI (-((min (pE T e a) 1000000 : Nat) : Int)))) (ty := .int) (C := R_Num) (T := F_Num) (N := 8) hx hb hts w_Num t_Num tk_Num n_Num hown hK hP hD hS 0 rfl rfl 7 (by decide) (hts _ kF_Num_93) (fun _ h9 => h9) rfl (by decide +kernel) (rfl) (rfl) (Nat.le_of_ble_eq_true rfl) d_Num_findPower_184 (fun H locs hP hD hS => ?_)
                      have hP : va_P D vcl [(nm, .inr (3, [.ref x, .int (nI (pX T e a)), .int (nI e), .int mi, .int (nI (if hex then 4 else 3)), .int fr, .int to, .int (zI (-((min (pE T e a) 1000000 : Nat) : Int)))])), (x, .inl (cC, 2400, .inl (tx T)))] H := hP
                      have hD : va_D A [(nm, .inr (3, [.ref x, .int (nI (pX T e a)), .int (nI e), .int mi, .int (nI (if hex then 4 else 3)), .int fr, .int to, .int (zI (-((min (pE T e a) 1000000 : Nat) : Int)))])), (x, .inl (cC, 2400, .inl (tx T)))] := hD
                      refine lv_aload_n hx hb d_Num_findPower_187 rfl (lv_at hl 0 rfl) ?_
                      refine va_get (D := D) (ci := 3) (v := .int (nI (pX T e a))) (C := R_Num) (T := F_Num) (N := 8) hx hb hts w_Num hown hK hP 0 rfl rfl 1 (by decide) (hts _ kF_Num_25) (fun _ h9 => h9) rfl d_Num_findPower_188 ?_
                      refine lv_iload_n hx hb d_Num_findPower_191 rfl (lv_at hl 2 rfl) ?_
                      refine lv_icmp_le (tgt := 199) hx hb d_Num_findPower_192 (by decide) (fun c192 => ?_) (fun c192 => ?_)
                      · have e192 : pX T e a ≤ pS T e a := (nI_leI (by omega) (by omega)).mp c192
                        refine lv_iconst (v := 0) hx hb d_Num_findPower_199 (by decide) ?_
                        rw [show nI (pX T e a) = nI (pAt hex T e a) by unfold pAt; rw [e34]; rfl, show zI (-((min (pE T e a) 1000000 : Nat) : Int)) = zI (pPw 1000000 hex T e a) by unfold pPw; rw [e34, e175]; rfl] at hP hD
                        exact rt_i hx hb hrt hlocks (rfl) (()) (by unfold pOk; rw [e34]; show 0 = bI (decide (pS T e a < pX T e a)); rw [decide_eq_false (by omega)]; rfl) (hP.sub [0, 1] rfl) (hK.sub [0] rfl) (hD.sub [0, 1] (by decide) rfl) hS d_Num_findPower_200
                      · have e192 : ¬ pX T e a ≤ pS T e a := fun z => c192 ((nI_leI (by omega) (by omega)).mpr z)
                        refine lv_iconst (v := 1) hx hb d_Num_findPower_195 (by decide) ?_
                        refine lv_goto (tgt := 200) hx hb d_Num_findPower_196 (by decide) ?_
                        rw [show nI (pX T e a) = nI (pAt hex T e a) by unfold pAt; rw [e34]; rfl, show zI (-((min (pE T e a) 1000000 : Nat) : Int)) = zI (pPw 1000000 hex T e a) by unfold pPw; rw [e34, e175]; rfl] at hP hD
                        exact rt_i hx hb hrt hlocks (rfl) (()) (by unfold pOk; rw [e34]; show 1 = bI (decide (pS T e a < pX T e a)); rw [decide_eq_true (by omega)]; rfl) (hP.sub [0, 1] rfl) (hK.sub [0] rfl) (hD.sub [0, 1] (by decide) rfl) hS d_Num_findPower_200
                  · have e129 : dg (T k) < 10 := Nat.lt_of_not_le (fun z => c129 ((nI_leI (a := 10) (by decide) (by have := dg_le (T k); omega)).mpr z))
                    refine lv_aload_n hx hb d_Num_findPower_132 rfl (lv_at hl 0 rfl) ?_
                    refine lv_aload_n hx hb d_Num_findPower_133 rfl (lv_at hl 0 rfl) ?_
                    refine va_get (D := D) (ci := 3) (v := .int (zI ((min (xv T (pS T e a) (k - pS T e a)) 1000000 : Nat) : Int))) (C := R_Num) (T := F_Num) (N := 8) hx hb hts w_Num hown hK hP 0 rfl rfl 7 (by decide) (hts _ kF_Num_93) (fun _ h9 => h9) rfl d_Num_findPower_134 ?_
                    refine lv_bipush (v := 10) hx hb d_Num_findPower_137 (by decide) ?_
                    refine lv_imul hx hb d_Num_findPower_139 ?_
                    refine lv_aload_n hx hb d_Num_findPower_140 rfl (lv_at hl 0 rfl) ?_
                    refine va_get (D := D) (ci := 3) (v := .ref x) (C := R_Num) (T := F_Num) (N := 8) hx hb hts w_Num hown hK hP 0 rfl rfl 0 (by decide) (hts _ kF_Num_7) (fun _ h9 => h9) rfl d_Num_findPower_141 ?_
                    refine lv_aload_n hx hb d_Num_findPower_144 rfl (lv_at hl 0 rfl) ?_
                    refine va_get (D := D) (ci := 3) (v := .int (nI k)) (C := R_Num) (T := F_Num) (N := 8) hx hb hts w_Num hown hK hP 0 rfl rfl 1 (by decide) (hts _ kF_Num_25) (fun _ h9 => h9) rfl d_Num_findPower_145 ?_
                    refine va_cald hx hb hK hP 1 0 rfl rfl (i := nI k) (vp_in_nI (show k < 2400 by omega) (by decide)) d_Num_findPower_148 ?_
                    refine tv_i (nI (T (k))) (by rw [nI_clamp (by omega)]; rfl) ?_
                    refine ca_i [(nm, .inr (3, [.ref x, .int (nI k), .int (nI e), .int mi, .int (nI (if hex then 4 else 3)), .int fr, .int to, .int (zI ((min (xv T (pS T e a) (k - pS T e a)) 1000000 : Nat) : Int))])), (x, .inl (cC, 2400, .inl (tx T)))] (va_runSN (As := [.int (nI (T (k)))]) (rest := [.int ((zI ((min (xv T (pS T e a) (k - pS T e a)) 1000000 : Nat) : Int)) * 10), .ref nm]) ⟨hx, hb, hml, hown, hts⟩ (c_Rea_digitOf l D E (T (k)) (by have := hT k; omega) H.size) (xSN 1 hts kC_Rea_digitOf hE.1.1 kT_Rea_digitOf kN_Rea rfl rfl (by decide +kernel) ⟨Nat.le_of_ble_eq_true rfl, Nat.le_of_ble_eq_true rfl⟩) ⟨ct_blind hev, ct_pre hev hP hK hD hS hA hE [] rfl (by decide) [] rfl⟩ rfl rfl hl.1 rfl (lv_room (Nat.le_of_ble_eq_true rfl)) d_Num_findPower_149 ⟨Nat.le_of_ble_eq_true rfl, Nat.le_of_ble_eq_true rfl⟩) hP hD hS hA [] [0, 1] rfl rfl (by decide) (by decide) (fun r u H locs hw hP hD hS hK1 => ?_)
                    subst hw
                    have hP : va_P D vcl [(nm, .inr (3, [.ref x, .int (nI k), .int (nI e), .int mi, .int (nI (if hex then 4 else 3)), .int fr, .int to, .int (zI ((min (xv T (pS T e a) (k - pS T e a)) 1000000 : Nat) : Int))])), (x, .inl (cC, 2400, .inl (tx T)))] H := hP
                    have hD : va_D A [(nm, .inr (3, [.ref x, .int (nI k), .int (nI e), .int mi, .int (nI (if hex then 4 else 3)), .int fr, .int to, .int (zI ((min (xv T (pS T e a) (k - pS T e a)) 1000000 : Nat) : Int))])), (x, .inl (cC, 2400, .inl (tx T)))] := hD
                    refine lv_iadd hx hb d_Num_findPower_152 ?_
                    refine tv_i (zI ((min (xv T (pS T e a) (k - pS T e a)) 1000000 * 10 + dg (T k) : Nat) : Int)) (by show zI _ * zI 10 + nI _ = _; rw [zI_mul, ← zI_nI, zI_add]; exact congrArg zI (by omega)) ?_
                    refine lv_ldc hx hb hown (hts _ kK_Num_96) d_Num_findPower_153 ?_
                    refine va_mmin hx hb (by rw [hml]; exact hl.1.symm) hown (hts _ kM_Num_44) (hts _ kT_mmin) (hts _ kN_Math) (hts _ kC_mmin) (Nat.le_of_ble_eq_true rfl) (Nat.le_of_ble_eq_true rfl) (Nat.le_of_ble_eq_true rfl) (Nat.le_of_ble_eq_true rfl) d_Num_findPower_155 ?_
                    refine tv_i (zI ((min (xv T (pS T e a) ((k + 1) - pS T e a)) 1000000 : Nat) : Int)) (pw_min hk1) ?_
                    refine va_put (D := D) (ci := 3) (v := .int (zI ((min (xv T (pS T e a) ((k + 1) - pS T e a)) 1000000 : Nat) : Int))) (ty := .int) (C := R_Num) (T := F_Num) (N := 8) hx hb hts w_Num t_Num tk_Num n_Num hown hK hP hD hS 0 rfl rfl 7 (by decide) (hts _ kF_Num_93) (fun _ h9 => h9) rfl (by decide +kernel) (rfl) (rfl) (Nat.le_of_ble_eq_true rfl) d_Num_findPower_158 (fun H locs hP hD hS => ?_)
                    have hP : va_P D vcl [(nm, .inr (3, [.ref x, .int (nI k), .int (nI e), .int mi, .int (nI (if hex then 4 else 3)), .int fr, .int to, .int (zI ((min (xv T (pS T e a) ((k + 1) - pS T e a)) 1000000 : Nat) : Int))])), (x, .inl (cC, 2400, .inl (tx T)))] H := hP
                    have hD : va_D A [(nm, .inr (3, [.ref x, .int (nI k), .int (nI e), .int mi, .int (nI (if hex then 4 else 3)), .int fr, .int to, .int (zI ((min (xv T (pS T e a) ((k + 1) - pS T e a)) 1000000 : Nat) : Int))])), (x, .inl (cC, 2400, .inl (tx T)))] := hD
                    refine lv_aload_n hx hb d_Num_findPower_161 rfl (lv_at hl 0 rfl) ?_
                    refine lv_dup hx hb d_Num_findPower_162 rfl ?_
                    refine va_get (D := D) (ci := 3) (v := .int (nI k)) (C := R_Num) (T := F_Num) (N := 8) hx hb hts w_Num hown hK hP 0 rfl rfl 1 (by decide) (hts _ kF_Num_25) (fun _ h9 => h9) rfl d_Num_findPower_163 ?_
                    refine lv_iconst (v := 1) hx hb d_Num_findPower_166 (by decide) ?_
                    refine lv_iadd hx hb d_Num_findPower_167 ?_
                    refine tv_i (nI (k + 1)) (nI_1 k) ?_
                    refine va_put (D := D) (ci := 3) (v := .int (nI (k + 1))) (ty := .int) (C := R_Num) (T := F_Num) (N := 8) hx hb hts w_Num t_Num tk_Num n_Num hown hK hP hD hS 0 rfl rfl 1 (by decide) (hts _ kF_Num_25) (fun _ h9 => h9) rfl (by decide +kernel) (rfl) (rfl) (Nat.le_of_ble_eq_true rfl) d_Num_findPower_168 (fun H locs hP hD hS => ?_)
                    have hP : va_P D vcl [(nm, .inr (3, [.ref x, .int (nI (k + 1)), .int (nI e), .int mi, .int (nI (if hex then 4 else 3)), .int fr, .int to, .int (zI ((min (xv T (pS T e a) ((k + 1) - pS T e a)) 1000000 : Nat) : Int))])), (x, .inl (cC, 2400, .inl (tx T)))] H := hP
                    have hD : va_D A [(nm, .inr (3, [.ref x, .int (nI (k + 1)), .int (nI e), .int mi, .int (nI (if hex then 4 else 3)), .int fr, .int to, .int (zI ((min (xv T (pS T e a) ((k + 1) - pS T e a)) 1000000 : Nat) : Int))])), (x, .inl (cC, 2400, .inl (tx T)))] := hD
                    refine lv_goto (tgt := 104) hx hb d_Num_findPower_171 (by decide) ?_
                    exact ih (k + 1) (by omega) (by omega) (by omega) (by rw [← sk_t e112 e129]; exact hv) _ _ _ (hP.sub [0, 1] rfl) (hD.sub [0, 1] (by decide) rfl) hS (lv_sub hl [0, 1, 2] rfl)
            exact L104 (e - pS T e a + 1) (pS T e a) (by omega) (Nat.le_refl _) (hps.1) (rfl) _ _ _ (hP.sub [0, 1] rfl) (hD.sub [0, 1] (by decide) rfl) hS (lv_sub hl [3, 1, 0] rfl)
          · have e86 : lk T e (a + 1) = 43 := (nI_eq (b := 43) (by omega) (by decide)).mp c86
            refine lv_aload_n hx hb d_Num_findPower_89 rfl (lv_at hl 2 rfl) ?_
            refine lv_dup hx hb d_Num_findPower_90 rfl ?_
            refine va_get (D := D) (ci := 3) (v := .int (nI (a + 1))) (C := R_Num) (T := F_Num) (N := 8) hx hb hts w_Num hown hK hP 0 rfl rfl 1 (by decide) (hts _ kF_Num_25) (fun _ h9 => h9) rfl d_Num_findPower_91 ?_
            refine lv_iconst (v := 1) hx hb d_Num_findPower_94 (by decide) ?_
            refine lv_iadd hx hb d_Num_findPower_95 ?_
            refine tv_i (nI (pS T e a)) (by rw [show pS T e a = a + 2 by unfold pS; rw [if_pos (Or.inr e86)]]; exact nI_1 (a + 1)) ?_
            refine va_put (D := D) (ci := 3) (v := .int (nI (pS T e a))) (ty := .int) (C := R_Num) (T := F_Num) (N := 8) hx hb hts w_Num t_Num tk_Num n_Num hown hK hP hD hS 0 rfl rfl 1 (by decide) (hts _ kF_Num_25) (fun _ h9 => h9) rfl (by decide +kernel) (rfl) (rfl) (Nat.le_of_ble_eq_true rfl) d_Num_findPower_96 (fun H locs hP hD hS => ?_)
            have hP : va_P D vcl [(nm, .inr (3, [.ref x, .int (nI (pS T e a)), .int (nI e), .int mi, .int (nI (if hex then 4 else 3)), .int fr, .int to, .int (zI 0)])), (x, .inl (cC, 2400, .inl (tx T)))] H := hP
            have hD : va_D A [(nm, .inr (3, [.ref x, .int (nI (pS T e a)), .int (nI e), .int mi, .int (nI (if hex then 4 else 3)), .int fr, .int to, .int (zI 0)])), (x, .inl (cC, 2400, .inl (tx T)))] := hD
            rw [show zI 0 = zI ((min (xv T (pS T e a) (pS T e a - pS T e a)) 1000000 : Nat) : Int) from by rw [Nat.sub_self]; rfl] at hP hD
            refine lv_aload_n hx hb d_Num_findPower_99 rfl (lv_at hl 2 rfl) ?_
            refine va_get (D := D) (ci := 3) (v := .int (nI (pS T e a))) (C := R_Num) (T := F_Num) (N := 8) hx hb hts w_Num hown hK hP 0 rfl rfl 1 (by decide) (hts _ kF_Num_25) (fun _ h9 => h9) rfl d_Num_findPower_100 ?_
            refine lv_istore_n (lv' := [(3, .int (nI (pS T e a))), (2, .int (bI (ngB T e a))), (1, .int (bI (mkB hex T e a))), (0, .ref nm)]) hx hb d_Num_findPower_103 rfl hl (by decide) rfl (fun ls hl => ?_)
            have L104 : ∀ (kk : Nat) (k : Nat), e - k < kk → (pS T e a ≤ k) → (k ≤ e) → (sk 10 T e k = sk 10 T e (pS T e a)) → ∀ (H : Heap) (locs : List Loc) (ls : Array Slot), va_P D vcl [(nm, .inr (3, [.ref x, .int (nI k), .int (nI e), .int mi, .int (nI (if hex then 4 else 3)), .int fr, .int to, .int (zI ((min (xv T (pS T e a) (k - pS T e a)) 1000000 : Nat) : Int))])), (x, .inl (cC, 2400, .inl (tx T)))] H → va_D A [(nm, .inr (3, [.ref x, .int (nI k), .int (nI e), .int mi, .int (nI (if hex then 4 else 3)), .int fr, .int to, .int (zI ((min (xv T (pS T e a) (k - pS T e a)) 1000000 : Nat) : Int))])), (x, .inl (cC, 2400, .inl (tx T)))] → va_S A s.heap H locs → lv_has ls 4 [(0, .ref nm), (2, .int (bI (ngB T e a))), (3, .int (nI (pS T e a)))] → W p l ee ({ frames := 2, cells := 0, slots := 0, locals := 42 }) s m ([.ref nm] : List Value).toArray below meth cde H locs 0 0 (MQ below (va_Qi (S := Unit) (fun (r : Int32) (_ : Unit) => r = bI (pOk hex T e a)) (fun u tS => ctB D vcl ((fun _ => [(cC, .char)]) u) ((fun _ : Unit => [(nm, .inr (3, [.ref x, .int (nI (pAt hex T e a)), .int (nI e), .int mi, .int (nI (if hex then 4 else 3)), .int fr, .int to, .int (zI (pPw 1000000 hex T e a))])), (x, .inl (cC, 2400, .inl (tx T)))]) u) A tS) A) ([.ref nm] : List Value).toArray s 0 0 A) (F0 m 104 ls []) := by
              intro kk
              induction kk with
              | zero => intro k hmz; exact absurd hmz (Nat.not_lt_zero _)
              | succ kk ih =>
                intro k hmz hk1 hke hv H locs ls hP hD hS hl
                refine lv_aload_n hx hb d_Num_findPower_104 rfl (lv_at hl 0 rfl) ?_
                refine va_get (D := D) (ci := 3) (v := .int (nI k)) (C := R_Num) (T := F_Num) (N := 8) hx hb hts w_Num hown hK hP 0 rfl rfl 1 (by decide) (hts _ kF_Num_25) (fun _ h9 => h9) rfl d_Num_findPower_105 ?_
                refine lv_aload_n hx hb d_Num_findPower_108 rfl (lv_at hl 0 rfl) ?_
                refine va_get (D := D) (ci := 3) (v := .int (nI e)) (C := R_Num) (T := F_Num) (N := 8) hx hb hts w_Num hown hK hP 0 rfl rfl 2 (by decide) (hts _ kF_Num_50) (fun _ h9 => h9) rfl d_Num_findPower_109 ?_
                refine lv_icmp_ge (tgt := 174) hx hb d_Num_findPower_112 (by decide) (fun c112 => ?_) (fun c112 => ?_)
                · have e112 : e ≤ k := (nI_leI (by omega) (by omega)).mp c112
                  have hkx : k = pX T e a := by unfold pX; rw [← hv]; exact (sk_f (fun z => absurd z.1 (by omega))).symm
                  rw [hkx] at hP hD
                  have hP : va_P D vcl [(nm, .inr (3, [.ref x, .int (nI (pX T e a)), .int (nI e), .int mi, .int (nI (if hex then 4 else 3)), .int fr, .int to, .int (zI ((min (pE T e a) 1000000 : Nat) : Int))])), (x, .inl (cC, 2400, .inl (tx T)))] H := hP
                  have hD : va_D A [(nm, .inr (3, [.ref x, .int (nI (pX T e a)), .int (nI e), .int mi, .int (nI (if hex then 4 else 3)), .int fr, .int to, .int (zI ((min (pE T e a) 1000000 : Nat) : Int))])), (x, .inl (cC, 2400, .inl (tx T)))] := hD
                  refine lv_iload_n hx hb d_Num_findPower_174 rfl (lv_at hl 1 rfl) ?_
                  refine lv_if_eq (tgt := 187) hx hb d_Num_findPower_175 (by decide) (fun c175 => ?_) (fun c175 => ?_)
                  · have e175 : ngB T e a = false := (bI_0 _).mp c175
                    refine lv_aload_n hx hb d_Num_findPower_187 rfl (lv_at hl 0 rfl) ?_
                    refine va_get (D := D) (ci := 3) (v := .int (nI (pX T e a))) (C := R_Num) (T := F_Num) (N := 8) hx hb hts w_Num hown hK hP 0 rfl rfl 1 (by decide) (hts _ kF_Num_25) (fun _ h9 => h9) rfl d_Num_findPower_188 ?_
                    refine lv_iload_n hx hb d_Num_findPower_191 rfl (lv_at hl 2 rfl) ?_
                    refine lv_icmp_le (tgt := 199) hx hb d_Num_findPower_192 (by decide) (fun c192 => ?_) (fun c192 => ?_)
                    · have e192 : pX T e a ≤ pS T e a := (nI_leI (by omega) (by omega)).mp c192
                      refine lv_iconst (v := 0) hx hb d_Num_findPower_199 (by decide) ?_
                      rw [show nI (pX T e a) = nI (pAt hex T e a) by unfold pAt; rw [e34]; rfl, show zI ((min (pE T e a) 1000000 : Nat) : Int) = zI (pPw 1000000 hex T e a) by unfold pPw; rw [e34, e175]; rfl] at hP hD
                      exact rt_i hx hb hrt hlocks (rfl) (()) (by unfold pOk; rw [e34]; show 0 = bI (decide (pS T e a < pX T e a)); rw [decide_eq_false (by omega)]; rfl) (hP.sub [0, 1] rfl) (hK.sub [0] rfl) (hD.sub [0, 1] (by decide) rfl) hS d_Num_findPower_200
                    · have e192 : ¬ pX T e a ≤ pS T e a := fun z => c192 ((nI_leI (by omega) (by omega)).mpr z)
                      refine lv_iconst (v := 1) hx hb d_Num_findPower_195 (by decide) ?_
                      refine lv_goto (tgt := 200) hx hb d_Num_findPower_196 (by decide) ?_
                      rw [show nI (pX T e a) = nI (pAt hex T e a) by unfold pAt; rw [e34]; rfl, show zI ((min (pE T e a) 1000000 : Nat) : Int) = zI (pPw 1000000 hex T e a) by unfold pPw; rw [e34, e175]; rfl] at hP hD
                      exact rt_i hx hb hrt hlocks (rfl) (()) (by unfold pOk; rw [e34]; show 1 = bI (decide (pS T e a < pX T e a)); rw [decide_eq_true (by omega)]; rfl) (hP.sub [0, 1] rfl) (hK.sub [0] rfl) (hD.sub [0, 1] (by decide) rfl) hS d_Num_findPower_200
                  · have e175 : ngB T e a = true := tt_of (fun z => c175 ((bI_0 _).mpr z))
                    refine lv_aload_n hx hb d_Num_findPower_178 rfl (lv_at hl 0 rfl) ?_
                    refine lv_aload_n hx hb d_Num_findPower_179 rfl (lv_at hl 0 rfl) ?_
                    refine va_get (D := D) (ci := 3) (v := .int (zI ((min (pE T e a) 1000000 : Nat) : Int))) (C := R_Num) (T := F_Num) (N := 8) hx hb hts w_Num hown hK hP 0 rfl rfl 7 (by decide) (hts _ kF_Num_93) (fun _ h9 => h9) rfl d_Num_findPower_180 ?_
                    refine lv_ineg hx hb d_Num_findPower_183 ?_
                    refine tv_i (zI (-((min (pE T e a) 1000000 : Nat) : Int))) (zI_neg _) ?_
                    refine va_put (D := D) (ci := 3) (v := .int (zI (-((min (pE T e a) 1000000 : Nat) : Int)))) (ty := .int) (C := R_Num) (T := F_Num) (N := 8) hx hb hts w_Num t_Num tk_Num n_Num hown hK hP hD hS 0 rfl rfl 7 (by decide) (hts _ kF_Num_93) (fun _ h9 => h9) rfl (by decide +kernel) (rfl) (rfl) (Nat.le_of_ble_eq_true rfl) d_Num_findPower_184 (fun H locs hP hD hS => ?_)
                    have hP : va_P D vcl [(nm, .inr (3, [.ref x, .int (nI (pX T e a)), .int (nI e), .int mi, .int (nI (if hex then 4 else 3)), .int fr, .int to, .int (zI (-((min (pE T e a) 1000000 : Nat) : Int)))])), (x, .inl (cC, 2400, .inl (tx T)))] H := hP
                    have hD : va_D A [(nm, .inr (3, [.ref x, .int (nI (pX T e a)), .int (nI e), .int mi, .int (nI (if hex then 4 else 3)), .int fr, .int to, .int (zI (-((min (pE T e a) 1000000 : Nat) : Int)))])), (x, .inl (cC, 2400, .inl (tx T)))] := hD
                    refine lv_aload_n hx hb d_Num_findPower_187 rfl (lv_at hl 0 rfl) ?_
                    refine va_get (D := D) (ci := 3) (v := .int (nI (pX T e a))) (C := R_Num) (T := F_Num) (N := 8) hx hb hts w_Num hown hK hP 0 rfl rfl 1 (by decide) (hts _ kF_Num_25) (fun _ h9 => h9) rfl d_Num_findPower_188 ?_
                    refine lv_iload_n hx hb d_Num_findPower_191 rfl (lv_at hl 2 rfl) ?_
                    refine lv_icmp_le (tgt := 199) hx hb d_Num_findPower_192 (by decide) (fun c192 => ?_) (fun c192 => ?_)
                    · have e192 : pX T e a ≤ pS T e a := (nI_leI (by omega) (by omega)).mp c192
                      refine lv_iconst (v := 0) hx hb d_Num_findPower_199 (by decide) ?_
                      rw [show nI (pX T e a) = nI (pAt hex T e a) by unfold pAt; rw [e34]; rfl, show zI (-((min (pE T e a) 1000000 : Nat) : Int)) = zI (pPw 1000000 hex T e a) by unfold pPw; rw [e34, e175]; rfl] at hP hD
                      exact rt_i hx hb hrt hlocks (rfl) (()) (by unfold pOk; rw [e34]; show 0 = bI (decide (pS T e a < pX T e a)); rw [decide_eq_false (by omega)]; rfl) (hP.sub [0, 1] rfl) (hK.sub [0] rfl) (hD.sub [0, 1] (by decide) rfl) hS d_Num_findPower_200
                    · have e192 : ¬ pX T e a ≤ pS T e a := fun z => c192 ((nI_leI (by omega) (by omega)).mpr z)
                      refine lv_iconst (v := 1) hx hb d_Num_findPower_195 (by decide) ?_
                      refine lv_goto (tgt := 200) hx hb d_Num_findPower_196 (by decide) ?_
                      rw [show nI (pX T e a) = nI (pAt hex T e a) by unfold pAt; rw [e34]; rfl, show zI (-((min (pE T e a) 1000000 : Nat) : Int)) = zI (pPw 1000000 hex T e a) by unfold pPw; rw [e34, e175]; rfl] at hP hD
                      exact rt_i hx hb hrt hlocks (rfl) (()) (by unfold pOk; rw [e34]; show 1 = bI (decide (pS T e a < pX T e a)); rw [decide_eq_true (by omega)]; rfl) (hP.sub [0, 1] rfl) (hK.sub [0] rfl) (hD.sub [0, 1] (by decide) rfl) hS d_Num_findPower_200
                · have e112 : k < e := Nat.lt_of_not_le (fun z => c112 ((nI_leI (by omega) (by omega)).mpr z))
                  refine lv_aload_n hx hb d_Num_findPower_115 rfl (lv_at hl 0 rfl) ?_
                  refine va_get (D := D) (ci := 3) (v := .ref x) (C := R_Num) (T := F_Num) (N := 8) hx hb hts w_Num hown hK hP 0 rfl rfl 0 (by decide) (hts _ kF_Num_7) (fun _ h9 => h9) rfl d_Num_findPower_116 ?_
                  refine lv_aload_n hx hb d_Num_findPower_119 rfl (lv_at hl 0 rfl) ?_
                  refine va_get (D := D) (ci := 3) (v := .int (nI k)) (C := R_Num) (T := F_Num) (N := 8) hx hb hts w_Num hown hK hP 0 rfl rfl 1 (by decide) (hts _ kF_Num_25) (fun _ h9 => h9) rfl d_Num_findPower_120 ?_
                  refine va_cald hx hb hK hP 1 0 rfl rfl (i := nI k) (vp_in_nI (show k < 2400 by omega) (by decide)) d_Num_findPower_123 ?_
                  refine tv_i (nI (T (k))) (by rw [nI_clamp (by omega)]; rfl) ?_
                  refine ca_i [(nm, .inr (3, [.ref x, .int (nI k), .int (nI e), .int mi, .int (nI (if hex then 4 else 3)), .int fr, .int to, .int (zI ((min (xv T (pS T e a) (k - pS T e a)) 1000000 : Nat) : Int))])), (x, .inl (cC, 2400, .inl (tx T)))] (va_runSN (As := [.int (nI (T (k)))]) (rest := []) ⟨hx, hb, hml, hown, hts⟩ (c_Rea_digitOf l D E (T (k)) (by have := hT k; omega) H.size) (xSN 1 hts kC_Rea_digitOf hE.1.1 kT_Rea_digitOf kN_Rea rfl rfl (by decide +kernel) ⟨Nat.le_of_ble_eq_true rfl, Nat.le_of_ble_eq_true rfl⟩) ⟨ct_blind hev, ct_pre hev hP hK hD hS hA hE [] rfl (by decide) [] rfl⟩ rfl rfl hl.1 rfl (lv_room (Nat.le_of_ble_eq_true rfl)) d_Num_findPower_124 ⟨Nat.le_of_ble_eq_true rfl, Nat.le_of_ble_eq_true rfl⟩) hP hD hS hA [] [0, 1] rfl rfl (by decide) (by decide) (fun r u H locs hw hP hD hS hK1 => ?_)
                  subst hw
                  have hP : va_P D vcl [(nm, .inr (3, [.ref x, .int (nI k), .int (nI e), .int mi, .int (nI (if hex then 4 else 3)), .int fr, .int to, .int (zI ((min (xv T (pS T e a) (k - pS T e a)) 1000000 : Nat) : Int))])), (x, .inl (cC, 2400, .inl (tx T)))] H := hP
                  have hD : va_D A [(nm, .inr (3, [.ref x, .int (nI k), .int (nI e), .int mi, .int (nI (if hex then 4 else 3)), .int fr, .int to, .int (zI ((min (xv T (pS T e a) (k - pS T e a)) 1000000 : Nat) : Int))])), (x, .inl (cC, 2400, .inl (tx T)))] := hD
                  refine lv_bipush (v := 10) hx hb d_Num_findPower_127 (by decide) ?_
                  refine lv_icmp_ge (tgt := 174) hx hb d_Num_findPower_129 (by decide) (fun c129 => ?_) (fun c129 => ?_)
                  · have e129 : 10 ≤ dg (T k) := (nI_leI (a := 10) (by decide) (by have := dg_le (T k); omega)).mp c129
                    have hkx : k = pX T e a := by unfold pX; rw [← hv]; exact (sk_f (fun z => absurd z.2 (by omega))).symm
                    rw [hkx] at hP hD
                    have hP : va_P D vcl [(nm, .inr (3, [.ref x, .int (nI (pX T e a)), .int (nI e), .int mi, .int (nI (if hex then 4 else 3)), .int fr, .int to, .int (zI ((min (pE T e a) 1000000 : Nat) : Int))])), (x, .inl (cC, 2400, .inl (tx T)))] H := hP
                    have hD : va_D A [(nm, .inr (3, [.ref x, .int (nI (pX T e a)), .int (nI e), .int mi, .int (nI (if hex then 4 else 3)), .int fr, .int to, .int (zI ((min (pE T e a) 1000000 : Nat) : Int))])), (x, .inl (cC, 2400, .inl (tx T)))] := hD
                    refine lv_iload_n hx hb d_Num_findPower_174 rfl (lv_at hl 1 rfl) ?_
                    refine lv_if_eq (tgt := 187) hx hb d_Num_findPower_175 (by decide) (fun c175 => ?_) (fun c175 => ?_)
                    · have e175 : ngB T e a = false := (bI_0 _).mp c175
                      refine lv_aload_n hx hb d_Num_findPower_187 rfl (lv_at hl 0 rfl) ?_
                      refine va_get (D := D) (ci := 3) (v := .int (nI (pX T e a))) (C := R_Num) (T := F_Num) (N := 8) hx hb hts w_Num hown hK hP 0 rfl rfl 1 (by decide) (hts _ kF_Num_25) (fun _ h9 => h9) rfl d_Num_findPower_188 ?_
                      refine lv_iload_n hx hb d_Num_findPower_191 rfl (lv_at hl 2 rfl) ?_
                      refine lv_icmp_le (tgt := 199) hx hb d_Num_findPower_192 (by decide) (fun c192 => ?_) (fun c192 => ?_)
                      · have e192 : pX T e a ≤ pS T e a := (nI_leI (by omega) (by omega)).mp c192
                        refine lv_iconst (v := 0) hx hb d_Num_findPower_199 (by decide) ?_
                        rw [show nI (pX T e a) = nI (pAt hex T e a) by unfold pAt; rw [e34]; rfl, show zI ((min (pE T e a) 1000000 : Nat) : Int) = zI (pPw 1000000 hex T e a) by unfold pPw; rw [e34, e175]; rfl] at hP hD
                        exact rt_i hx hb hrt hlocks (rfl) (()) (by unfold pOk; rw [e34]; show 0 = bI (decide (pS T e a < pX T e a)); rw [decide_eq_false (by omega)]; rfl) (hP.sub [0, 1] rfl) (hK.sub [0] rfl) (hD.sub [0, 1] (by decide) rfl) hS d_Num_findPower_200
                      · have e192 : ¬ pX T e a ≤ pS T e a := fun z => c192 ((nI_leI (by omega) (by omega)).mpr z)
                        refine lv_iconst (v := 1) hx hb d_Num_findPower_195 (by decide) ?_
                        refine lv_goto (tgt := 200) hx hb d_Num_findPower_196 (by decide) ?_
                        rw [show nI (pX T e a) = nI (pAt hex T e a) by unfold pAt; rw [e34]; rfl, show zI ((min (pE T e a) 1000000 : Nat) : Int) = zI (pPw 1000000 hex T e a) by unfold pPw; rw [e34, e175]; rfl] at hP hD
                        exact rt_i hx hb hrt hlocks (rfl) (()) (by unfold pOk; rw [e34]; show 1 = bI (decide (pS T e a < pX T e a)); rw [decide_eq_true (by omega)]; rfl) (hP.sub [0, 1] rfl) (hK.sub [0] rfl) (hD.sub [0, 1] (by decide) rfl) hS d_Num_findPower_200
                    · have e175 : ngB T e a = true := tt_of (fun z => c175 ((bI_0 _).mpr z))
                      refine lv_aload_n hx hb d_Num_findPower_178 rfl (lv_at hl 0 rfl) ?_
                      refine lv_aload_n hx hb d_Num_findPower_179 rfl (lv_at hl 0 rfl) ?_
                      refine va_get (D := D) (ci := 3) (v := .int (zI ((min (pE T e a) 1000000 : Nat) : Int))) (C := R_Num) (T := F_Num) (N := 8) hx hb hts w_Num hown hK hP 0 rfl rfl 7 (by decide) (hts _ kF_Num_93) (fun _ h9 => h9) rfl d_Num_findPower_180 ?_
                      refine lv_ineg hx hb d_Num_findPower_183 ?_
                      refine tv_i (zI (-((min (pE T e a) 1000000 : Nat) : Int))) (zI_neg _) ?_
                      refine va_put (D := D) (ci := 3) (v := .int (zI (-((min (pE T e a) 1000000 : Nat) : Int)))) (ty := .int) (C := R_Num) (T := F_Num) (N := 8) hx hb hts w_Num t_Num tk_Num n_Num hown hK hP hD hS 0 rfl rfl 7 (by decide) (hts _ kF_Num_93) (fun _ h9 => h9) rfl (by decide +kernel) (rfl) (rfl) (Nat.le_of_ble_eq_true rfl) d_Num_findPower_184 (fun H locs hP hD hS => ?_)
                      have hP : va_P D vcl [(nm, .inr (3, [.ref x, .int (nI (pX T e a)), .int (nI e), .int mi, .int (nI (if hex then 4 else 3)), .int fr, .int to, .int (zI (-((min (pE T e a) 1000000 : Nat) : Int)))])), (x, .inl (cC, 2400, .inl (tx T)))] H := hP
                      have hD : va_D A [(nm, .inr (3, [.ref x, .int (nI (pX T e a)), .int (nI e), .int mi, .int (nI (if hex then 4 else 3)), .int fr, .int to, .int (zI (-((min (pE T e a) 1000000 : Nat) : Int)))])), (x, .inl (cC, 2400, .inl (tx T)))] := hD
                      refine lv_aload_n hx hb d_Num_findPower_187 rfl (lv_at hl 0 rfl) ?_
                      refine va_get (D := D) (ci := 3) (v := .int (nI (pX T e a))) (C := R_Num) (T := F_Num) (N := 8) hx hb hts w_Num hown hK hP 0 rfl rfl 1 (by decide) (hts _ kF_Num_25) (fun _ h9 => h9) rfl d_Num_findPower_188 ?_
                      refine lv_iload_n hx hb d_Num_findPower_191 rfl (lv_at hl 2 rfl) ?_
                      refine lv_icmp_le (tgt := 199) hx hb d_Num_findPower_192 (by decide) (fun c192 => ?_) (fun c192 => ?_)
                      · have e192 : pX T e a ≤ pS T e a := (nI_leI (by omega) (by omega)).mp c192
                        refine lv_iconst (v := 0) hx hb d_Num_findPower_199 (by decide) ?_
                        rw [show nI (pX T e a) = nI (pAt hex T e a) by unfold pAt; rw [e34]; rfl, show zI (-((min (pE T e a) 1000000 : Nat) : Int)) = zI (pPw 1000000 hex T e a) by unfold pPw; rw [e34, e175]; rfl] at hP hD
                        exact rt_i hx hb hrt hlocks (rfl) (()) (by unfold pOk; rw [e34]; show 0 = bI (decide (pS T e a < pX T e a)); rw [decide_eq_false (by omega)]; rfl) (hP.sub [0, 1] rfl) (hK.sub [0] rfl) (hD.sub [0, 1] (by decide) rfl) hS d_Num_findPower_200
                      · have e192 : ¬ pX T e a ≤ pS T e a := fun z => c192 ((nI_leI (by omega) (by omega)).mpr z)
                        refine lv_iconst (v := 1) hx hb d_Num_findPower_195 (by decide) ?_
                        refine lv_goto (tgt := 200) hx hb d_Num_findPower_196 (by decide) ?_
                        rw [show nI (pX T e a) = nI (pAt hex T e a) by unfold pAt; rw [e34]; rfl, show zI (-((min (pE T e a) 1000000 : Nat) : Int)) = zI (pPw 1000000 hex T e a) by unfold pPw; rw [e34, e175]; rfl] at hP hD
                        exact rt_i hx hb hrt hlocks (rfl) (()) (by unfold pOk; rw [e34]; show 1 = bI (decide (pS T e a < pX T e a)); rw [decide_eq_true (by omega)]; rfl) (hP.sub [0, 1] rfl) (hK.sub [0] rfl) (hD.sub [0, 1] (by decide) rfl) hS d_Num_findPower_200
                  · have e129 : dg (T k) < 10 := Nat.lt_of_not_le (fun z => c129 ((nI_leI (a := 10) (by decide) (by have := dg_le (T k); omega)).mpr z))
                    refine lv_aload_n hx hb d_Num_findPower_132 rfl (lv_at hl 0 rfl) ?_
                    refine lv_aload_n hx hb d_Num_findPower_133 rfl (lv_at hl 0 rfl) ?_
                    refine va_get (D := D) (ci := 3) (v := .int (zI ((min (xv T (pS T e a) (k - pS T e a)) 1000000 : Nat) : Int))) (C := R_Num) (T := F_Num) (N := 8) hx hb hts w_Num hown hK hP 0 rfl rfl 7 (by decide) (hts _ kF_Num_93) (fun _ h9 => h9) rfl d_Num_findPower_134 ?_
                    refine lv_bipush (v := 10) hx hb d_Num_findPower_137 (by decide) ?_
                    refine lv_imul hx hb d_Num_findPower_139 ?_
                    refine lv_aload_n hx hb d_Num_findPower_140 rfl (lv_at hl 0 rfl) ?_
                    refine va_get (D := D) (ci := 3) (v := .ref x) (C := R_Num) (T := F_Num) (N := 8) hx hb hts w_Num hown hK hP 0 rfl rfl 0 (by decide) (hts _ kF_Num_7) (fun _ h9 => h9) rfl d_Num_findPower_141 ?_
                    refine lv_aload_n hx hb d_Num_findPower_144 rfl (lv_at hl 0 rfl) ?_
                    refine va_get (D := D) (ci := 3) (v := .int (nI k)) (C := R_Num) (T := F_Num) (N := 8) hx hb hts w_Num hown hK hP 0 rfl rfl 1 (by decide) (hts _ kF_Num_25) (fun _ h9 => h9) rfl d_Num_findPower_145 ?_
                    refine va_cald hx hb hK hP 1 0 rfl rfl (i := nI k) (vp_in_nI (show k < 2400 by omega) (by decide)) d_Num_findPower_148 ?_
                    refine tv_i (nI (T (k))) (by rw [nI_clamp (by omega)]; rfl) ?_
                    refine ca_i [(nm, .inr (3, [.ref x, .int (nI k), .int (nI e), .int mi, .int (nI (if hex then 4 else 3)), .int fr, .int to, .int (zI ((min (xv T (pS T e a) (k - pS T e a)) 1000000 : Nat) : Int))])), (x, .inl (cC, 2400, .inl (tx T)))] (va_runSN (As := [.int (nI (T (k)))]) (rest := [.int ((zI ((min (xv T (pS T e a) (k - pS T e a)) 1000000 : Nat) : Int)) * 10), .ref nm]) ⟨hx, hb, hml, hown, hts⟩ (c_Rea_digitOf l D E (T (k)) (by have := hT k; omega) H.size) (xSN 1 hts kC_Rea_digitOf hE.1.1 kT_Rea_digitOf kN_Rea rfl rfl (by decide +kernel) ⟨Nat.le_of_ble_eq_true rfl, Nat.le_of_ble_eq_true rfl⟩) ⟨ct_blind hev, ct_pre hev hP hK hD hS hA hE [] rfl (by decide) [] rfl⟩ rfl rfl hl.1 rfl (lv_room (Nat.le_of_ble_eq_true rfl)) d_Num_findPower_149 ⟨Nat.le_of_ble_eq_true rfl, Nat.le_of_ble_eq_true rfl⟩) hP hD hS hA [] [0, 1] rfl rfl (by decide) (by decide) (fun r u H locs hw hP hD hS hK1 => ?_)
                    subst hw
                    have hP : va_P D vcl [(nm, .inr (3, [.ref x, .int (nI k), .int (nI e), .int mi, .int (nI (if hex then 4 else 3)), .int fr, .int to, .int (zI ((min (xv T (pS T e a) (k - pS T e a)) 1000000 : Nat) : Int))])), (x, .inl (cC, 2400, .inl (tx T)))] H := hP
                    have hD : va_D A [(nm, .inr (3, [.ref x, .int (nI k), .int (nI e), .int mi, .int (nI (if hex then 4 else 3)), .int fr, .int to, .int (zI ((min (xv T (pS T e a) (k - pS T e a)) 1000000 : Nat) : Int))])), (x, .inl (cC, 2400, .inl (tx T)))] := hD
                    refine lv_iadd hx hb d_Num_findPower_152 ?_
                    refine tv_i (zI ((min (xv T (pS T e a) (k - pS T e a)) 1000000 * 10 + dg (T k) : Nat) : Int)) (by show zI _ * zI 10 + nI _ = _; rw [zI_mul, ← zI_nI, zI_add]; exact congrArg zI (by omega)) ?_
                    refine lv_ldc hx hb hown (hts _ kK_Num_96) d_Num_findPower_153 ?_
                    refine va_mmin hx hb (by rw [hml]; exact hl.1.symm) hown (hts _ kM_Num_44) (hts _ kT_mmin) (hts _ kN_Math) (hts _ kC_mmin) (Nat.le_of_ble_eq_true rfl) (Nat.le_of_ble_eq_true rfl) (Nat.le_of_ble_eq_true rfl) (Nat.le_of_ble_eq_true rfl) d_Num_findPower_155 ?_
                    refine tv_i (zI ((min (xv T (pS T e a) ((k + 1) - pS T e a)) 1000000 : Nat) : Int)) (pw_min hk1) ?_
                    refine va_put (D := D) (ci := 3) (v := .int (zI ((min (xv T (pS T e a) ((k + 1) - pS T e a)) 1000000 : Nat) : Int))) (ty := .int) (C := R_Num) (T := F_Num) (N := 8) hx hb hts w_Num t_Num tk_Num n_Num hown hK hP hD hS 0 rfl rfl 7 (by decide) (hts _ kF_Num_93) (fun _ h9 => h9) rfl (by decide +kernel) (rfl) (rfl) (Nat.le_of_ble_eq_true rfl) d_Num_findPower_158 (fun H locs hP hD hS => ?_)
                    have hP : va_P D vcl [(nm, .inr (3, [.ref x, .int (nI k), .int (nI e), .int mi, .int (nI (if hex then 4 else 3)), .int fr, .int to, .int (zI ((min (xv T (pS T e a) ((k + 1) - pS T e a)) 1000000 : Nat) : Int))])), (x, .inl (cC, 2400, .inl (tx T)))] H := hP
                    have hD : va_D A [(nm, .inr (3, [.ref x, .int (nI k), .int (nI e), .int mi, .int (nI (if hex then 4 else 3)), .int fr, .int to, .int (zI ((min (xv T (pS T e a) ((k + 1) - pS T e a)) 1000000 : Nat) : Int))])), (x, .inl (cC, 2400, .inl (tx T)))] := hD
                    refine lv_aload_n hx hb d_Num_findPower_161 rfl (lv_at hl 0 rfl) ?_
                    refine lv_dup hx hb d_Num_findPower_162 rfl ?_
                    refine va_get (D := D) (ci := 3) (v := .int (nI k)) (C := R_Num) (T := F_Num) (N := 8) hx hb hts w_Num hown hK hP 0 rfl rfl 1 (by decide) (hts _ kF_Num_25) (fun _ h9 => h9) rfl d_Num_findPower_163 ?_
                    refine lv_iconst (v := 1) hx hb d_Num_findPower_166 (by decide) ?_
                    refine lv_iadd hx hb d_Num_findPower_167 ?_
                    refine tv_i (nI (k + 1)) (nI_1 k) ?_
                    refine va_put (D := D) (ci := 3) (v := .int (nI (k + 1))) (ty := .int) (C := R_Num) (T := F_Num) (N := 8) hx hb hts w_Num t_Num tk_Num n_Num hown hK hP hD hS 0 rfl rfl 1 (by decide) (hts _ kF_Num_25) (fun _ h9 => h9) rfl (by decide +kernel) (rfl) (rfl) (Nat.le_of_ble_eq_true rfl) d_Num_findPower_168 (fun H locs hP hD hS => ?_)
                    have hP : va_P D vcl [(nm, .inr (3, [.ref x, .int (nI (k + 1)), .int (nI e), .int mi, .int (nI (if hex then 4 else 3)), .int fr, .int to, .int (zI ((min (xv T (pS T e a) ((k + 1) - pS T e a)) 1000000 : Nat) : Int))])), (x, .inl (cC, 2400, .inl (tx T)))] H := hP
                    have hD : va_D A [(nm, .inr (3, [.ref x, .int (nI (k + 1)), .int (nI e), .int mi, .int (nI (if hex then 4 else 3)), .int fr, .int to, .int (zI ((min (xv T (pS T e a) ((k + 1) - pS T e a)) 1000000 : Nat) : Int))])), (x, .inl (cC, 2400, .inl (tx T)))] := hD
                    refine lv_goto (tgt := 104) hx hb d_Num_findPower_171 (by decide) ?_
                    exact ih (k + 1) (by omega) (by omega) (by omega) (by rw [← sk_t e112 e129]; exact hv) _ _ _ (hP.sub [0, 1] rfl) (hD.sub [0, 1] (by decide) rfl) hS (lv_sub hl [0, 1, 2] rfl)
            exact L104 (e - pS T e a + 1) (pS T e a) (by omega) (Nat.le_refl _) (hps.1) (rfl) _ _ _ (hP.sub [0, 1] rfl) (hD.sub [0, 1] (by decide) rfl) hS (lv_sub hl [3, 1, 0] rfl)
      · have e67 : lk T e (a + 1) = 45 := (nI_eq (b := 45) (by omega) (by decide)).mp c67
        refine lv_iconst (v := 1) hx hb d_Num_findPower_70 (by decide) ?_
        refine tv_i (bI (ngB T e a)) (by rw [show ngB T e a = true from decide_eq_true e67]; rfl) ?_
        refine lv_goto (tgt := 75) hx hb d_Num_findPower_71 (by decide) ?_
        refine lv_istore_n (lv' := [(2, .int (bI (ngB T e a))), (1, .int (bI (mkB hex T e a))), (0, .ref nm)]) hx hb d_Num_findPower_75 rfl hl (by decide) rfl (fun ls hl => ?_)
        refine lv_iload_n hx hb d_Num_findPower_76 rfl (lv_at hl 0 rfl) ?_
        refine lv_if_ne (tgt := 89) hx hb d_Num_findPower_77 (by decide) (fun c77 => ?_) (fun c77 => ?_)
        · refine lv_aload_n hx hb d_Num_findPower_89 rfl (lv_at hl 2 rfl) ?_
          refine lv_dup hx hb d_Num_findPower_90 rfl ?_
          refine va_get (D := D) (ci := 3) (v := .int (nI (a + 1))) (C := R_Num) (T := F_Num) (N := 8) hx hb hts w_Num hown hK hP 0 rfl rfl 1 (by decide) (hts _ kF_Num_25) (fun _ h9 => h9) rfl d_Num_findPower_91 ?_
          refine lv_iconst (v := 1) hx hb d_Num_findPower_94 (by decide) ?_
          refine lv_iadd hx hb d_Num_findPower_95 ?_
          refine tv_i (nI (pS T e a)) (by rw [show pS T e a = a + 2 by unfold pS; rw [if_pos (Or.inl e67)]]; exact nI_1 (a + 1)) ?_
          refine va_put (D := D) (ci := 3) (v := .int (nI (pS T e a))) (ty := .int) (C := R_Num) (T := F_Num) (N := 8) hx hb hts w_Num t_Num tk_Num n_Num hown hK hP hD hS 0 rfl rfl 1 (by decide) (hts _ kF_Num_25) (fun _ h9 => h9) rfl (by decide +kernel) (rfl) (rfl) (Nat.le_of_ble_eq_true rfl) d_Num_findPower_96 (fun H locs hP hD hS => ?_)
          have hP : va_P D vcl [(nm, .inr (3, [.ref x, .int (nI (pS T e a)), .int (nI e), .int mi, .int (nI (if hex then 4 else 3)), .int fr, .int to, .int (zI 0)])), (x, .inl (cC, 2400, .inl (tx T)))] H := hP
          have hD : va_D A [(nm, .inr (3, [.ref x, .int (nI (pS T e a)), .int (nI e), .int mi, .int (nI (if hex then 4 else 3)), .int fr, .int to, .int (zI 0)])), (x, .inl (cC, 2400, .inl (tx T)))] := hD
          rw [show zI 0 = zI ((min (xv T (pS T e a) (pS T e a - pS T e a)) 1000000 : Nat) : Int) from by rw [Nat.sub_self]; rfl] at hP hD
          refine lv_aload_n hx hb d_Num_findPower_99 rfl (lv_at hl 2 rfl) ?_
          refine va_get (D := D) (ci := 3) (v := .int (nI (pS T e a))) (C := R_Num) (T := F_Num) (N := 8) hx hb hts w_Num hown hK hP 0 rfl rfl 1 (by decide) (hts _ kF_Num_25) (fun _ h9 => h9) rfl d_Num_findPower_100 ?_
          refine lv_istore_n (lv' := [(3, .int (nI (pS T e a))), (2, .int (bI (ngB T e a))), (1, .int (bI (mkB hex T e a))), (0, .ref nm)]) hx hb d_Num_findPower_103 rfl hl (by decide) rfl (fun ls hl => ?_)
          have L104 : ∀ (kk : Nat) (k : Nat), e - k < kk → (pS T e a ≤ k) → (k ≤ e) → (sk 10 T e k = sk 10 T e (pS T e a)) → ∀ (H : Heap) (locs : List Loc) (ls : Array Slot), va_P D vcl [(nm, .inr (3, [.ref x, .int (nI k), .int (nI e), .int mi, .int (nI (if hex then 4 else 3)), .int fr, .int to, .int (zI ((min (xv T (pS T e a) (k - pS T e a)) 1000000 : Nat) : Int))])), (x, .inl (cC, 2400, .inl (tx T)))] H → va_D A [(nm, .inr (3, [.ref x, .int (nI k), .int (nI e), .int mi, .int (nI (if hex then 4 else 3)), .int fr, .int to, .int (zI ((min (xv T (pS T e a) (k - pS T e a)) 1000000 : Nat) : Int))])), (x, .inl (cC, 2400, .inl (tx T)))] → va_S A s.heap H locs → lv_has ls 4 [(0, .ref nm), (2, .int (bI (ngB T e a))), (3, .int (nI (pS T e a)))] → W p l ee ({ frames := 2, cells := 0, slots := 0, locals := 42 }) s m ([.ref nm] : List Value).toArray below meth cde H locs 0 0 (MQ below (va_Qi (S := Unit) (fun (r : Int32) (_ : Unit) => r = bI (pOk hex T e a)) (fun u tS => ctB D vcl ((fun _ => [(cC, .char)]) u) ((fun _ : Unit => [(nm, .inr (3, [.ref x, .int (nI (pAt hex T e a)), .int (nI e), .int mi, .int (nI (if hex then 4 else 3)), .int fr, .int to, .int (zI (pPw 1000000 hex T e a))])), (x, .inl (cC, 2400, .inl (tx T)))]) u) A tS) A) ([.ref nm] : List Value).toArray s 0 0 A) (F0 m 104 ls []) := by
            intro kk
            induction kk with
            | zero => intro k hmz; exact absurd hmz (Nat.not_lt_zero _)
            | succ kk ih =>
              intro k hmz hk1 hke hv H locs ls hP hD hS hl
              refine lv_aload_n hx hb d_Num_findPower_104 rfl (lv_at hl 0 rfl) ?_
              refine va_get (D := D) (ci := 3) (v := .int (nI k)) (C := R_Num) (T := F_Num) (N := 8) hx hb hts w_Num hown hK hP 0 rfl rfl 1 (by decide) (hts _ kF_Num_25) (fun _ h9 => h9) rfl d_Num_findPower_105 ?_
              refine lv_aload_n hx hb d_Num_findPower_108 rfl (lv_at hl 0 rfl) ?_
              refine va_get (D := D) (ci := 3) (v := .int (nI e)) (C := R_Num) (T := F_Num) (N := 8) hx hb hts w_Num hown hK hP 0 rfl rfl 2 (by decide) (hts _ kF_Num_50) (fun _ h9 => h9) rfl d_Num_findPower_109 ?_
              refine lv_icmp_ge (tgt := 174) hx hb d_Num_findPower_112 (by decide) (fun c112 => ?_) (fun c112 => ?_)
              · have e112 : e ≤ k := (nI_leI (by omega) (by omega)).mp c112
                have hkx : k = pX T e a := by unfold pX; rw [← hv]; exact (sk_f (fun z => absurd z.1 (by omega))).symm
                rw [hkx] at hP hD
                have hP : va_P D vcl [(nm, .inr (3, [.ref x, .int (nI (pX T e a)), .int (nI e), .int mi, .int (nI (if hex then 4 else 3)), .int fr, .int to, .int (zI ((min (pE T e a) 1000000 : Nat) : Int))])), (x, .inl (cC, 2400, .inl (tx T)))] H := hP
                have hD : va_D A [(nm, .inr (3, [.ref x, .int (nI (pX T e a)), .int (nI e), .int mi, .int (nI (if hex then 4 else 3)), .int fr, .int to, .int (zI ((min (pE T e a) 1000000 : Nat) : Int))])), (x, .inl (cC, 2400, .inl (tx T)))] := hD
                refine lv_iload_n hx hb d_Num_findPower_174 rfl (lv_at hl 1 rfl) ?_
                refine lv_if_eq (tgt := 187) hx hb d_Num_findPower_175 (by decide) (fun c175 => ?_) (fun c175 => ?_)
                · have e175 : ngB T e a = false := (bI_0 _).mp c175
                  refine lv_aload_n hx hb d_Num_findPower_187 rfl (lv_at hl 0 rfl) ?_
                  refine va_get (D := D) (ci := 3) (v := .int (nI (pX T e a))) (C := R_Num) (T := F_Num) (N := 8) hx hb hts w_Num hown hK hP 0 rfl rfl 1 (by decide) (hts _ kF_Num_25) (fun _ h9 => h9) rfl d_Num_findPower_188 ?_
                  refine lv_iload_n hx hb d_Num_findPower_191 rfl (lv_at hl 2 rfl) ?_
                  refine lv_icmp_le (tgt := 199) hx hb d_Num_findPower_192 (by decide) (fun c192 => ?_) (fun c192 => ?_)
                  · have e192 : pX T e a ≤ pS T e a := (nI_leI (by omega) (by omega)).mp c192
                    refine lv_iconst (v := 0) hx hb d_Num_findPower_199 (by decide) ?_
                    rw [show nI (pX T e a) = nI (pAt hex T e a) by unfold pAt; rw [e34]; rfl, show zI ((min (pE T e a) 1000000 : Nat) : Int) = zI (pPw 1000000 hex T e a) by unfold pPw; rw [e34, e175]; rfl] at hP hD
                    exact rt_i hx hb hrt hlocks (rfl) (()) (by unfold pOk; rw [e34]; show 0 = bI (decide (pS T e a < pX T e a)); rw [decide_eq_false (by omega)]; rfl) (hP.sub [0, 1] rfl) (hK.sub [0] rfl) (hD.sub [0, 1] (by decide) rfl) hS d_Num_findPower_200
                  · have e192 : ¬ pX T e a ≤ pS T e a := fun z => c192 ((nI_leI (by omega) (by omega)).mpr z)
                    refine lv_iconst (v := 1) hx hb d_Num_findPower_195 (by decide) ?_
                    refine lv_goto (tgt := 200) hx hb d_Num_findPower_196 (by decide) ?_
                    rw [show nI (pX T e a) = nI (pAt hex T e a) by unfold pAt; rw [e34]; rfl, show zI ((min (pE T e a) 1000000 : Nat) : Int) = zI (pPw 1000000 hex T e a) by unfold pPw; rw [e34, e175]; rfl] at hP hD
                    exact rt_i hx hb hrt hlocks (rfl) (()) (by unfold pOk; rw [e34]; show 1 = bI (decide (pS T e a < pX T e a)); rw [decide_eq_true (by omega)]; rfl) (hP.sub [0, 1] rfl) (hK.sub [0] rfl) (hD.sub [0, 1] (by decide) rfl) hS d_Num_findPower_200
                · have e175 : ngB T e a = true := tt_of (fun z => c175 ((bI_0 _).mpr z))
                  refine lv_aload_n hx hb d_Num_findPower_178 rfl (lv_at hl 0 rfl) ?_
                  refine lv_aload_n hx hb d_Num_findPower_179 rfl (lv_at hl 0 rfl) ?_
                  refine va_get (D := D) (ci := 3) (v := .int (zI ((min (pE T e a) 1000000 : Nat) : Int))) (C := R_Num) (T := F_Num) (N := 8) hx hb hts w_Num hown hK hP 0 rfl rfl 7 (by decide) (hts _ kF_Num_93) (fun _ h9 => h9) rfl d_Num_findPower_180 ?_
                  refine lv_ineg hx hb d_Num_findPower_183 ?_
                  refine tv_i (zI (-((min (pE T e a) 1000000 : Nat) : Int))) (zI_neg _) ?_
                  refine va_put (D := D) (ci := 3) (v := .int (zI (-((min (pE T e a) 1000000 : Nat) : Int)))) (ty := .int) (C := R_Num) (T := F_Num) (N := 8) hx hb hts w_Num t_Num tk_Num n_Num hown hK hP hD hS 0 rfl rfl 7 (by decide) (hts _ kF_Num_93) (fun _ h9 => h9) rfl (by decide +kernel) (rfl) (rfl) (Nat.le_of_ble_eq_true rfl) d_Num_findPower_184 (fun H locs hP hD hS => ?_)
                  have hP : va_P D vcl [(nm, .inr (3, [.ref x, .int (nI (pX T e a)), .int (nI e), .int mi, .int (nI (if hex then 4 else 3)), .int fr, .int to, .int (zI (-((min (pE T e a) 1000000 : Nat) : Int)))])), (x, .inl (cC, 2400, .inl (tx T)))] H := hP
                  have hD : va_D A [(nm, .inr (3, [.ref x, .int (nI (pX T e a)), .int (nI e), .int mi, .int (nI (if hex then 4 else 3)), .int fr, .int to, .int (zI (-((min (pE T e a) 1000000 : Nat) : Int)))])), (x, .inl (cC, 2400, .inl (tx T)))] := hD
                  refine lv_aload_n hx hb d_Num_findPower_187 rfl (lv_at hl 0 rfl) ?_
                  refine va_get (D := D) (ci := 3) (v := .int (nI (pX T e a))) (C := R_Num) (T := F_Num) (N := 8) hx hb hts w_Num hown hK hP 0 rfl rfl 1 (by decide) (hts _ kF_Num_25) (fun _ h9 => h9) rfl d_Num_findPower_188 ?_
                  refine lv_iload_n hx hb d_Num_findPower_191 rfl (lv_at hl 2 rfl) ?_
                  refine lv_icmp_le (tgt := 199) hx hb d_Num_findPower_192 (by decide) (fun c192 => ?_) (fun c192 => ?_)
                  · have e192 : pX T e a ≤ pS T e a := (nI_leI (by omega) (by omega)).mp c192
                    refine lv_iconst (v := 0) hx hb d_Num_findPower_199 (by decide) ?_
                    rw [show nI (pX T e a) = nI (pAt hex T e a) by unfold pAt; rw [e34]; rfl, show zI (-((min (pE T e a) 1000000 : Nat) : Int)) = zI (pPw 1000000 hex T e a) by unfold pPw; rw [e34, e175]; rfl] at hP hD
                    exact rt_i hx hb hrt hlocks (rfl) (()) (by unfold pOk; rw [e34]; show 0 = bI (decide (pS T e a < pX T e a)); rw [decide_eq_false (by omega)]; rfl) (hP.sub [0, 1] rfl) (hK.sub [0] rfl) (hD.sub [0, 1] (by decide) rfl) hS d_Num_findPower_200
                  · have e192 : ¬ pX T e a ≤ pS T e a := fun z => c192 ((nI_leI (by omega) (by omega)).mpr z)
                    refine lv_iconst (v := 1) hx hb d_Num_findPower_195 (by decide) ?_
                    refine lv_goto (tgt := 200) hx hb d_Num_findPower_196 (by decide) ?_
                    rw [show nI (pX T e a) = nI (pAt hex T e a) by unfold pAt; rw [e34]; rfl, show zI (-((min (pE T e a) 1000000 : Nat) : Int)) = zI (pPw 1000000 hex T e a) by unfold pPw; rw [e34, e175]; rfl] at hP hD
                    exact rt_i hx hb hrt hlocks (rfl) (()) (by unfold pOk; rw [e34]; show 1 = bI (decide (pS T e a < pX T e a)); rw [decide_eq_true (by omega)]; rfl) (hP.sub [0, 1] rfl) (hK.sub [0] rfl) (hD.sub [0, 1] (by decide) rfl) hS d_Num_findPower_200
              · have e112 : k < e := Nat.lt_of_not_le (fun z => c112 ((nI_leI (by omega) (by omega)).mpr z))
                refine lv_aload_n hx hb d_Num_findPower_115 rfl (lv_at hl 0 rfl) ?_
                refine va_get (D := D) (ci := 3) (v := .ref x) (C := R_Num) (T := F_Num) (N := 8) hx hb hts w_Num hown hK hP 0 rfl rfl 0 (by decide) (hts _ kF_Num_7) (fun _ h9 => h9) rfl d_Num_findPower_116 ?_
                refine lv_aload_n hx hb d_Num_findPower_119 rfl (lv_at hl 0 rfl) ?_
                refine va_get (D := D) (ci := 3) (v := .int (nI k)) (C := R_Num) (T := F_Num) (N := 8) hx hb hts w_Num hown hK hP 0 rfl rfl 1 (by decide) (hts _ kF_Num_25) (fun _ h9 => h9) rfl d_Num_findPower_120 ?_
                refine va_cald hx hb hK hP 1 0 rfl rfl (i := nI k) (vp_in_nI (show k < 2400 by omega) (by decide)) d_Num_findPower_123 ?_
                refine tv_i (nI (T (k))) (by rw [nI_clamp (by omega)]; rfl) ?_
                refine ca_i [(nm, .inr (3, [.ref x, .int (nI k), .int (nI e), .int mi, .int (nI (if hex then 4 else 3)), .int fr, .int to, .int (zI ((min (xv T (pS T e a) (k - pS T e a)) 1000000 : Nat) : Int))])), (x, .inl (cC, 2400, .inl (tx T)))] (va_runSN (As := [.int (nI (T (k)))]) (rest := []) ⟨hx, hb, hml, hown, hts⟩ (c_Rea_digitOf l D E (T (k)) (by have := hT k; omega) H.size) (xSN 1 hts kC_Rea_digitOf hE.1.1 kT_Rea_digitOf kN_Rea rfl rfl (by decide +kernel) ⟨Nat.le_of_ble_eq_true rfl, Nat.le_of_ble_eq_true rfl⟩) ⟨ct_blind hev, ct_pre hev hP hK hD hS hA hE [] rfl (by decide) [] rfl⟩ rfl rfl hl.1 rfl (lv_room (Nat.le_of_ble_eq_true rfl)) d_Num_findPower_124 ⟨Nat.le_of_ble_eq_true rfl, Nat.le_of_ble_eq_true rfl⟩) hP hD hS hA [] [0, 1] rfl rfl (by decide) (by decide) (fun r u H locs hw hP hD hS hK1 => ?_)
                subst hw
                have hP : va_P D vcl [(nm, .inr (3, [.ref x, .int (nI k), .int (nI e), .int mi, .int (nI (if hex then 4 else 3)), .int fr, .int to, .int (zI ((min (xv T (pS T e a) (k - pS T e a)) 1000000 : Nat) : Int))])), (x, .inl (cC, 2400, .inl (tx T)))] H := hP
                have hD : va_D A [(nm, .inr (3, [.ref x, .int (nI k), .int (nI e), .int mi, .int (nI (if hex then 4 else 3)), .int fr, .int to, .int (zI ((min (xv T (pS T e a) (k - pS T e a)) 1000000 : Nat) : Int))])), (x, .inl (cC, 2400, .inl (tx T)))] := hD
                refine lv_bipush (v := 10) hx hb d_Num_findPower_127 (by decide) ?_
                refine lv_icmp_ge (tgt := 174) hx hb d_Num_findPower_129 (by decide) (fun c129 => ?_) (fun c129 => ?_)
                · have e129 : 10 ≤ dg (T k) := (nI_leI (a := 10) (by decide) (by have := dg_le (T k); omega)).mp c129
                  have hkx : k = pX T e a := by unfold pX; rw [← hv]; exact (sk_f (fun z => absurd z.2 (by omega))).symm
                  rw [hkx] at hP hD
                  have hP : va_P D vcl [(nm, .inr (3, [.ref x, .int (nI (pX T e a)), .int (nI e), .int mi, .int (nI (if hex then 4 else 3)), .int fr, .int to, .int (zI ((min (pE T e a) 1000000 : Nat) : Int))])), (x, .inl (cC, 2400, .inl (tx T)))] H := hP
                  have hD : va_D A [(nm, .inr (3, [.ref x, .int (nI (pX T e a)), .int (nI e), .int mi, .int (nI (if hex then 4 else 3)), .int fr, .int to, .int (zI ((min (pE T e a) 1000000 : Nat) : Int))])), (x, .inl (cC, 2400, .inl (tx T)))] := hD
                  refine lv_iload_n hx hb d_Num_findPower_174 rfl (lv_at hl 1 rfl) ?_
                  refine lv_if_eq (tgt := 187) hx hb d_Num_findPower_175 (by decide) (fun c175 => ?_) (fun c175 => ?_)
                  · have e175 : ngB T e a = false := (bI_0 _).mp c175
                    refine lv_aload_n hx hb d_Num_findPower_187 rfl (lv_at hl 0 rfl) ?_
                    refine va_get (D := D) (ci := 3) (v := .int (nI (pX T e a))) (C := R_Num) (T := F_Num) (N := 8) hx hb hts w_Num hown hK hP 0 rfl rfl 1 (by decide) (hts _ kF_Num_25) (fun _ h9 => h9) rfl d_Num_findPower_188 ?_
                    refine lv_iload_n hx hb d_Num_findPower_191 rfl (lv_at hl 2 rfl) ?_
                    refine lv_icmp_le (tgt := 199) hx hb d_Num_findPower_192 (by decide) (fun c192 => ?_) (fun c192 => ?_)
                    · have e192 : pX T e a ≤ pS T e a := (nI_leI (by omega) (by omega)).mp c192
                      refine lv_iconst (v := 0) hx hb d_Num_findPower_199 (by decide) ?_
                      rw [show nI (pX T e a) = nI (pAt hex T e a) by unfold pAt; rw [e34]; rfl, show zI ((min (pE T e a) 1000000 : Nat) : Int) = zI (pPw 1000000 hex T e a) by unfold pPw; rw [e34, e175]; rfl] at hP hD
                      exact rt_i hx hb hrt hlocks (rfl) (()) (by unfold pOk; rw [e34]; show 0 = bI (decide (pS T e a < pX T e a)); rw [decide_eq_false (by omega)]; rfl) (hP.sub [0, 1] rfl) (hK.sub [0] rfl) (hD.sub [0, 1] (by decide) rfl) hS d_Num_findPower_200
                    · have e192 : ¬ pX T e a ≤ pS T e a := fun z => c192 ((nI_leI (by omega) (by omega)).mpr z)
                      refine lv_iconst (v := 1) hx hb d_Num_findPower_195 (by decide) ?_
                      refine lv_goto (tgt := 200) hx hb d_Num_findPower_196 (by decide) ?_
                      rw [show nI (pX T e a) = nI (pAt hex T e a) by unfold pAt; rw [e34]; rfl, show zI ((min (pE T e a) 1000000 : Nat) : Int) = zI (pPw 1000000 hex T e a) by unfold pPw; rw [e34, e175]; rfl] at hP hD
                      exact rt_i hx hb hrt hlocks (rfl) (()) (by unfold pOk; rw [e34]; show 1 = bI (decide (pS T e a < pX T e a)); rw [decide_eq_true (by omega)]; rfl) (hP.sub [0, 1] rfl) (hK.sub [0] rfl) (hD.sub [0, 1] (by decide) rfl) hS d_Num_findPower_200
                  · have e175 : ngB T e a = true := tt_of (fun z => c175 ((bI_0 _).mpr z))
                    refine lv_aload_n hx hb d_Num_findPower_178 rfl (lv_at hl 0 rfl) ?_
                    refine lv_aload_n hx hb d_Num_findPower_179 rfl (lv_at hl 0 rfl) ?_
                    refine va_get (D := D) (ci := 3) (v := .int (zI ((min (pE T e a) 1000000 : Nat) : Int))) (C := R_Num) (T := F_Num) (N := 8) hx hb hts w_Num hown hK hP 0 rfl rfl 7 (by decide) (hts _ kF_Num_93) (fun _ h9 => h9) rfl d_Num_findPower_180 ?_
                    refine lv_ineg hx hb d_Num_findPower_183 ?_
                    refine tv_i (zI (-((min (pE T e a) 1000000 : Nat) : Int))) (zI_neg _) ?_
                    refine va_put (D := D) (ci := 3) (v := .int (zI (-((min (pE T e a) 1000000 : Nat) : Int)))) (ty := .int) (C := R_Num) (T := F_Num) (N := 8) hx hb hts w_Num t_Num tk_Num n_Num hown hK hP hD hS 0 rfl rfl 7 (by decide) (hts _ kF_Num_93) (fun _ h9 => h9) rfl (by decide +kernel) (rfl) (rfl) (Nat.le_of_ble_eq_true rfl) d_Num_findPower_184 (fun H locs hP hD hS => ?_)
                    have hP : va_P D vcl [(nm, .inr (3, [.ref x, .int (nI (pX T e a)), .int (nI e), .int mi, .int (nI (if hex then 4 else 3)), .int fr, .int to, .int (zI (-((min (pE T e a) 1000000 : Nat) : Int)))])), (x, .inl (cC, 2400, .inl (tx T)))] H := hP
                    have hD : va_D A [(nm, .inr (3, [.ref x, .int (nI (pX T e a)), .int (nI e), .int mi, .int (nI (if hex then 4 else 3)), .int fr, .int to, .int (zI (-((min (pE T e a) 1000000 : Nat) : Int)))])), (x, .inl (cC, 2400, .inl (tx T)))] := hD
                    refine lv_aload_n hx hb d_Num_findPower_187 rfl (lv_at hl 0 rfl) ?_
                    refine va_get (D := D) (ci := 3) (v := .int (nI (pX T e a))) (C := R_Num) (T := F_Num) (N := 8) hx hb hts w_Num hown hK hP 0 rfl rfl 1 (by decide) (hts _ kF_Num_25) (fun _ h9 => h9) rfl d_Num_findPower_188 ?_
                    refine lv_iload_n hx hb d_Num_findPower_191 rfl (lv_at hl 2 rfl) ?_
                    refine lv_icmp_le (tgt := 199) hx hb d_Num_findPower_192 (by decide) (fun c192 => ?_) (fun c192 => ?_)
                    · have e192 : pX T e a ≤ pS T e a := (nI_leI (by omega) (by omega)).mp c192
                      refine lv_iconst (v := 0) hx hb d_Num_findPower_199 (by decide) ?_
                      rw [show nI (pX T e a) = nI (pAt hex T e a) by unfold pAt; rw [e34]; rfl, show zI (-((min (pE T e a) 1000000 : Nat) : Int)) = zI (pPw 1000000 hex T e a) by unfold pPw; rw [e34, e175]; rfl] at hP hD
                      exact rt_i hx hb hrt hlocks (rfl) (()) (by unfold pOk; rw [e34]; show 0 = bI (decide (pS T e a < pX T e a)); rw [decide_eq_false (by omega)]; rfl) (hP.sub [0, 1] rfl) (hK.sub [0] rfl) (hD.sub [0, 1] (by decide) rfl) hS d_Num_findPower_200
                    · have e192 : ¬ pX T e a ≤ pS T e a := fun z => c192 ((nI_leI (by omega) (by omega)).mpr z)
                      refine lv_iconst (v := 1) hx hb d_Num_findPower_195 (by decide) ?_
                      refine lv_goto (tgt := 200) hx hb d_Num_findPower_196 (by decide) ?_
                      rw [show nI (pX T e a) = nI (pAt hex T e a) by unfold pAt; rw [e34]; rfl, show zI (-((min (pE T e a) 1000000 : Nat) : Int)) = zI (pPw 1000000 hex T e a) by unfold pPw; rw [e34, e175]; rfl] at hP hD
                      exact rt_i hx hb hrt hlocks (rfl) (()) (by unfold pOk; rw [e34]; show 1 = bI (decide (pS T e a < pX T e a)); rw [decide_eq_true (by omega)]; rfl) (hP.sub [0, 1] rfl) (hK.sub [0] rfl) (hD.sub [0, 1] (by decide) rfl) hS d_Num_findPower_200
                · have e129 : dg (T k) < 10 := Nat.lt_of_not_le (fun z => c129 ((nI_leI (a := 10) (by decide) (by have := dg_le (T k); omega)).mpr z))
                  refine lv_aload_n hx hb d_Num_findPower_132 rfl (lv_at hl 0 rfl) ?_
                  refine lv_aload_n hx hb d_Num_findPower_133 rfl (lv_at hl 0 rfl) ?_
                  refine va_get (D := D) (ci := 3) (v := .int (zI ((min (xv T (pS T e a) (k - pS T e a)) 1000000 : Nat) : Int))) (C := R_Num) (T := F_Num) (N := 8) hx hb hts w_Num hown hK hP 0 rfl rfl 7 (by decide) (hts _ kF_Num_93) (fun _ h9 => h9) rfl d_Num_findPower_134 ?_
                  refine lv_bipush (v := 10) hx hb d_Num_findPower_137 (by decide) ?_
                  refine lv_imul hx hb d_Num_findPower_139 ?_
                  refine lv_aload_n hx hb d_Num_findPower_140 rfl (lv_at hl 0 rfl) ?_
                  refine va_get (D := D) (ci := 3) (v := .ref x) (C := R_Num) (T := F_Num) (N := 8) hx hb hts w_Num hown hK hP 0 rfl rfl 0 (by decide) (hts _ kF_Num_7) (fun _ h9 => h9) rfl d_Num_findPower_141 ?_
                  refine lv_aload_n hx hb d_Num_findPower_144 rfl (lv_at hl 0 rfl) ?_
                  refine va_get (D := D) (ci := 3) (v := .int (nI k)) (C := R_Num) (T := F_Num) (N := 8) hx hb hts w_Num hown hK hP 0 rfl rfl 1 (by decide) (hts _ kF_Num_25) (fun _ h9 => h9) rfl d_Num_findPower_145 ?_
                  refine va_cald hx hb hK hP 1 0 rfl rfl (i := nI k) (vp_in_nI (show k < 2400 by omega) (by decide)) d_Num_findPower_148 ?_
                  refine tv_i (nI (T (k))) (by rw [nI_clamp (by omega)]; rfl) ?_
                  refine ca_i [(nm, .inr (3, [.ref x, .int (nI k), .int (nI e), .int mi, .int (nI (if hex then 4 else 3)), .int fr, .int to, .int (zI ((min (xv T (pS T e a) (k - pS T e a)) 1000000 : Nat) : Int))])), (x, .inl (cC, 2400, .inl (tx T)))] (va_runSN (As := [.int (nI (T (k)))]) (rest := [.int ((zI ((min (xv T (pS T e a) (k - pS T e a)) 1000000 : Nat) : Int)) * 10), .ref nm]) ⟨hx, hb, hml, hown, hts⟩ (c_Rea_digitOf l D E (T (k)) (by have := hT k; omega) H.size) (xSN 1 hts kC_Rea_digitOf hE.1.1 kT_Rea_digitOf kN_Rea rfl rfl (by decide +kernel) ⟨Nat.le_of_ble_eq_true rfl, Nat.le_of_ble_eq_true rfl⟩) ⟨ct_blind hev, ct_pre hev hP hK hD hS hA hE [] rfl (by decide) [] rfl⟩ rfl rfl hl.1 rfl (lv_room (Nat.le_of_ble_eq_true rfl)) d_Num_findPower_149 ⟨Nat.le_of_ble_eq_true rfl, Nat.le_of_ble_eq_true rfl⟩) hP hD hS hA [] [0, 1] rfl rfl (by decide) (by decide) (fun r u H locs hw hP hD hS hK1 => ?_)
                  subst hw
                  have hP : va_P D vcl [(nm, .inr (3, [.ref x, .int (nI k), .int (nI e), .int mi, .int (nI (if hex then 4 else 3)), .int fr, .int to, .int (zI ((min (xv T (pS T e a) (k - pS T e a)) 1000000 : Nat) : Int))])), (x, .inl (cC, 2400, .inl (tx T)))] H := hP
                  have hD : va_D A [(nm, .inr (3, [.ref x, .int (nI k), .int (nI e), .int mi, .int (nI (if hex then 4 else 3)), .int fr, .int to, .int (zI ((min (xv T (pS T e a) (k - pS T e a)) 1000000 : Nat) : Int))])), (x, .inl (cC, 2400, .inl (tx T)))] := hD
                  refine lv_iadd hx hb d_Num_findPower_152 ?_
                  refine tv_i (zI ((min (xv T (pS T e a) (k - pS T e a)) 1000000 * 10 + dg (T k) : Nat) : Int)) (by show zI _ * zI 10 + nI _ = _; rw [zI_mul, ← zI_nI, zI_add]; exact congrArg zI (by omega)) ?_
                  refine lv_ldc hx hb hown (hts _ kK_Num_96) d_Num_findPower_153 ?_
                  refine va_mmin hx hb (by rw [hml]; exact hl.1.symm) hown (hts _ kM_Num_44) (hts _ kT_mmin) (hts _ kN_Math) (hts _ kC_mmin) (Nat.le_of_ble_eq_true rfl) (Nat.le_of_ble_eq_true rfl) (Nat.le_of_ble_eq_true rfl) (Nat.le_of_ble_eq_true rfl) d_Num_findPower_155 ?_
                  refine tv_i (zI ((min (xv T (pS T e a) ((k + 1) - pS T e a)) 1000000 : Nat) : Int)) (pw_min hk1) ?_
                  refine va_put (D := D) (ci := 3) (v := .int (zI ((min (xv T (pS T e a) ((k + 1) - pS T e a)) 1000000 : Nat) : Int))) (ty := .int) (C := R_Num) (T := F_Num) (N := 8) hx hb hts w_Num t_Num tk_Num n_Num hown hK hP hD hS 0 rfl rfl 7 (by decide) (hts _ kF_Num_93) (fun _ h9 => h9) rfl (by decide +kernel) (rfl) (rfl) (Nat.le_of_ble_eq_true rfl) d_Num_findPower_158 (fun H locs hP hD hS => ?_)
                  have hP : va_P D vcl [(nm, .inr (3, [.ref x, .int (nI k), .int (nI e), .int mi, .int (nI (if hex then 4 else 3)), .int fr, .int to, .int (zI ((min (xv T (pS T e a) ((k + 1) - pS T e a)) 1000000 : Nat) : Int))])), (x, .inl (cC, 2400, .inl (tx T)))] H := hP
                  have hD : va_D A [(nm, .inr (3, [.ref x, .int (nI k), .int (nI e), .int mi, .int (nI (if hex then 4 else 3)), .int fr, .int to, .int (zI ((min (xv T (pS T e a) ((k + 1) - pS T e a)) 1000000 : Nat) : Int))])), (x, .inl (cC, 2400, .inl (tx T)))] := hD
                  refine lv_aload_n hx hb d_Num_findPower_161 rfl (lv_at hl 0 rfl) ?_
                  refine lv_dup hx hb d_Num_findPower_162 rfl ?_
                  refine va_get (D := D) (ci := 3) (v := .int (nI k)) (C := R_Num) (T := F_Num) (N := 8) hx hb hts w_Num hown hK hP 0 rfl rfl 1 (by decide) (hts _ kF_Num_25) (fun _ h9 => h9) rfl d_Num_findPower_163 ?_
                  refine lv_iconst (v := 1) hx hb d_Num_findPower_166 (by decide) ?_
                  refine lv_iadd hx hb d_Num_findPower_167 ?_
                  refine tv_i (nI (k + 1)) (nI_1 k) ?_
                  refine va_put (D := D) (ci := 3) (v := .int (nI (k + 1))) (ty := .int) (C := R_Num) (T := F_Num) (N := 8) hx hb hts w_Num t_Num tk_Num n_Num hown hK hP hD hS 0 rfl rfl 1 (by decide) (hts _ kF_Num_25) (fun _ h9 => h9) rfl (by decide +kernel) (rfl) (rfl) (Nat.le_of_ble_eq_true rfl) d_Num_findPower_168 (fun H locs hP hD hS => ?_)
                  have hP : va_P D vcl [(nm, .inr (3, [.ref x, .int (nI (k + 1)), .int (nI e), .int mi, .int (nI (if hex then 4 else 3)), .int fr, .int to, .int (zI ((min (xv T (pS T e a) ((k + 1) - pS T e a)) 1000000 : Nat) : Int))])), (x, .inl (cC, 2400, .inl (tx T)))] H := hP
                  have hD : va_D A [(nm, .inr (3, [.ref x, .int (nI (k + 1)), .int (nI e), .int mi, .int (nI (if hex then 4 else 3)), .int fr, .int to, .int (zI ((min (xv T (pS T e a) ((k + 1) - pS T e a)) 1000000 : Nat) : Int))])), (x, .inl (cC, 2400, .inl (tx T)))] := hD
                  refine lv_goto (tgt := 104) hx hb d_Num_findPower_171 (by decide) ?_
                  exact ih (k + 1) (by omega) (by omega) (by omega) (by rw [← sk_t e112 e129]; exact hv) _ _ _ (hP.sub [0, 1] rfl) (hD.sub [0, 1] (by decide) rfl) hS (lv_sub hl [0, 1, 2] rfl)
          exact L104 (e - pS T e a + 1) (pS T e a) (by omega) (Nat.le_refl _) (hps.1) (rfl) _ _ _ (hP.sub [0, 1] rfl) (hD.sub [0, 1] (by decide) rfl) hS (lv_sub hl [3, 1, 0] rfl)
        · exact absurd ((bI_0 _).mp c77) (by rw [show ngB T e a = true from decide_eq_true e67]; decide)
    · have e34 : mkB hex T e a = false := (bI_0 _).mp c34
      refine lv_aload_n hx hb d_Num_findPower_37 rfl (lv_at hl 1 rfl) ?_
      refine va_get (D := D) (ci := 3) (v := .int (nI (if hex then 4 else 3))) (C := R_Num) (T := F_Num) (N := 8) hx hb hts w_Num hown hK hP 0 rfl rfl 4 (by decide) (hts _ kF_Num_35) (fun _ h9 => h9) rfl d_Num_findPower_38 ?_
      refine lv_iconst (v := 3) hx hb d_Num_findPower_41 (by decide) ?_
      refine lv_icmp_ne (tgt := 49) hx hb d_Num_findPower_42 (by decide) (fun c42 => ?_) (fun c42 => ?_)
      · refine lv_iconst (v := 0) hx hb d_Num_findPower_49 (by decide) ?_
        rw [show nI a = nI (pAt hex T e a) by unfold pAt; rw [e34]; rfl, show zI 0 = zI (pPw 1000000 hex T e a) by unfold pPw; rw [e34]; rfl] at hP hD
        exact rt_i hx hb hrt hlocks (rfl) (()) (by unfold pOk; rw [e34]; cases hex; (· exact absurd rfl c42); rfl) (hP.sub [0, 1] rfl) (hK.sub [0] rfl) (hD.sub [0, 1] (by decide) rfl) hS d_Num_findPower_50
      · refine lv_iconst (v := 1) hx hb d_Num_findPower_45 (by decide) ?_
        refine lv_goto (tgt := 50) hx hb d_Num_findPower_46 (by decide) ?_
        rw [show nI a = nI (pAt hex T e a) by unfold pAt; rw [e34]; rfl, show zI 0 = zI (pPw 1000000 hex T e a) by unfold pPw; rw [e34]; rfl] at hP hD
        exact rt_i hx hb hrt hlocks (rfl) (()) (by unfold pOk; rw [e34]; cases hex; (· rfl); exact absurd c42 (by decide)) (hP.sub [0, 1] rfl) (hK.sub [0] rfl) (hD.sub [0, 1] (by decide) rfl) hS d_Num_findPower_50

set_option maxHeartbeats 4000000 in
set_option maxRecDepth 100000 in
theorem c_Num_findLiteral (l : Launch) (D : va_G) (E : evD) (nm x : Nat) (cC : ClassId) (T : Nat → Nat) (hT : ∀ j, T j < 256) (mi fo fr to po : Int32) (a e : Nat) (hae : a ≤ e) (he : e ≤ 2400) : Ci (S := Int32 × Int32 × Int32 × Int32 × Int32) l y_Num_findLiteral (wz y_Num_findLiteral b_Num_findLiteral 1 (some .boolean)) ({ frames := 3, cells := 0, slots := 0, locals := 65 }) D vcl (ev1 E) [.ref nm] [(cC, .char)] [(nm, .inr (3, [.ref x, .int (nI a), .int (nI e), .int mi, .int fo, .int fr, .int to, .int po])), (x, .inl (cC, 2400, .inl (tx T)))] 0 0 (fun (r : Int32) (u : Int32 × Int32 × Int32 × Int32 × Int32) => r = bI (litB T e a) ∧ (litB T e a = true → u.2.1 = nI (if pxB T e a then 4 else 3) ∧ u.2.2.1 = nI (pxA T e a) ∧ u.2.2.2.1 = nI (lD T e a) ∧ u.2.2.2.2 = zI (pPw 1000000 (pxB T e a) T e (lD T e a)))) (fun _ => [(cC, .char)]) (fun u : Int32 × Int32 × Int32 × Int32 × Int32 => [(nm, .inr (3, [.ref x, .int u.1, .int (nI e), .int mi, .int u.2.1, .int u.2.2.1, .int u.2.2.2.1, .int u.2.2.2.2])), (x, .inl (cC, 2400, .inl (tx T)))]) := by
  have hev := ev1_ok E
  unfold Ci
  refine ct_of (y := y_Num_findLiteral) (av := [.ref nm]) (cc := b_Num_findLiteral) (maxL := 1) (ret := (some .boolean)) (Qc := fun A => va_Qi (S := Int32 × Int32 × Int32 × Int32 × Int32) (fun (r : Int32) (u : Int32 × Int32 × Int32 × Int32 × Int32) => r = bI (litB T e a) ∧ (litB T e a = true → u.2.1 = nI (if pxB T e a then 4 else 3) ∧ u.2.2.1 = nI (pxA T e a) ∧ u.2.2.2.1 = nI (lD T e a) ∧ u.2.2.2.2 = zI (pPw 1000000 (pxB T e a) T e (lD T e a)))) (fun u tS => ctB D vcl ((fun _ => [(cC, .char)]) u) ((fun u : Int32 × Int32 × Int32 × Int32 × Int32 => [(nm, .inr (3, [.ref x, .int u.1, .int (nI e), .int mi, .int u.2.1, .int u.2.2.1, .int u.2.2.2.1, .int u.2.2.2.2])), (x, .inl (cC, 2400, .inl (tx T)))]) u) A tS) A) (by decide) rfl (Nat.le_of_ble_eq_true rfl) ?_
  intro p ee s m below meth cde ls A H locs hx hb hml hrt hlocks hown hin hts hA hP hK hD hS hE hl
  have hown : s.vm.findClass R_Num = some m.cls := hown
  have hts := wz_g hts
  have hl : lv_has ls 1 [(0, .ref nm)] := hl
  have hld : lD T e a ≤ e := (dE_le (pxA_le hae).2).2
  have hlx : lX T e a ≤ e := (pAt_le hld).2
  refine lv_aload_n hx hb d_Num_findLiteral_0 rfl (lv_at hl 0 rfl) ?_
  refine lv_aload_n hx hb d_Num_findLiteral_1 rfl (lv_at hl 0 rfl) ?_
  refine ca_i [] (va_runV (As := []) (rest := [.ref nm]) ⟨hx, hb, hml, hown, hts⟩ (c_Num_skipPrefix l D E nm x cC T hT mi fo fr to po a e (hae) (he) H.size) (xV 0 hts kC_Num_skipPrefix kM_Num_63 kI_Num_skipPrefix kS_Num_skipPrefix kN_Num rfl rfl (by decide +kernel) ⟨Nat.le_of_ble_eq_true rfl, Nat.le_of_ble_eq_true rfl⟩) ⟨ct_blind hev, va_recv hK hP (ci := 3) (q0 := 0) rfl rfl, ct_pre hev hP hK hD hS hA hE [0, 1] rfl (by decide) [0] rfl⟩ rfl rfl hl.1 rfl (lv_room (Nat.le_of_ble_eq_true rfl)) d_Num_findLiteral_2 ⟨Nat.le_of_ble_eq_true rfl, Nat.le_of_ble_eq_true rfl⟩) hP hD hS hA [0, 1] [] rfl rfl (by decide) (by decide) (fun r u H locs hw hP hD hS hK1 => ?_)
  subst hw
  have hP : va_P D vcl [(nm, .inr (3, [.ref x, .int (nI (pxA T e a)), .int (nI e), .int mi, .int fo, .int fr, .int to, .int po])), (x, .inl (cC, 2400, .inl (tx T)))] H := hP
  have hD : va_D A [(nm, .inr (3, [.ref x, .int (nI (pxA T e a)), .int (nI e), .int mi, .int fo, .int fr, .int to, .int po])), (x, .inl (cC, 2400, .inl (tx T)))] := hD
  refine lv_if_eq (tgt := 12) hx hb d_Num_findLiteral_5 (by decide) (fun c5 => ?_) (fun c5 => ?_)
  · have e5 : pxB T e a = false := (bI_0 _).mp c5
    refine lv_iconst (v := 3) hx hb d_Num_findLiteral_12 (by decide) ?_
    refine tv_i (nI (if pxB T e a then 4 else 3)) (by rw [e5]; rfl) ?_
    refine va_put (D := D) (ci := 3) (v := .int (nI (if pxB T e a then 4 else 3))) (ty := .int) (C := R_Num) (T := F_Num) (N := 8) hx hb hts w_Num t_Num tk_Num n_Num hown hK hP hD hS 0 rfl rfl 4 (by decide) (hts _ kF_Num_35) (fun _ h9 => h9) rfl (by decide +kernel) (rfl) (rfl) (Nat.le_of_ble_eq_true rfl) d_Num_findLiteral_13 (fun H locs hP hD hS => ?_)
    have hP : va_P D vcl [(nm, .inr (3, [.ref x, .int (nI (pxA T e a)), .int (nI e), .int mi, .int (nI (if pxB T e a then 4 else 3)), .int fr, .int to, .int po])), (x, .inl (cC, 2400, .inl (tx T)))] H := hP
    have hD : va_D A [(nm, .inr (3, [.ref x, .int (nI (pxA T e a)), .int (nI e), .int mi, .int (nI (if pxB T e a then 4 else 3)), .int fr, .int to, .int po])), (x, .inl (cC, 2400, .inl (tx T)))] := hD
    refine lv_aload_n hx hb d_Num_findLiteral_16 rfl (lv_at hl 0 rfl) ?_
    refine lv_aload_n hx hb d_Num_findLiteral_17 rfl (lv_at hl 0 rfl) ?_
    refine va_get (D := D) (ci := 3) (v := .int (nI (if pxB T e a then 4 else 3))) (C := R_Num) (T := F_Num) (N := 8) hx hb hts w_Num hown hK hP 0 rfl rfl 4 (by decide) (hts _ kF_Num_35) (fun _ h9 => h9) rfl d_Num_findLiteral_18 ?_
    refine lv_iconst (v := 4) hx hb d_Num_findLiteral_21 (by decide) ?_
    refine lv_icmp_ne (tgt := 30) hx hb d_Num_findLiteral_22 (by decide) (fun c22 => ?_) (fun c22 => ?_)
    · refine lv_bipush (v := 10) hx hb d_Num_findLiteral_30 (by decide) ?_
      refine tv_i (nI (bas (pxB T e a))) (by rw [e5]; rfl) ?_
      refine ca_i [] (va_runV (As := [.int (nI (bas (pxB T e a)))]) (rest := []) ⟨hx, hb, hml, hown, hts⟩ (c_Num_findDigits l D E nm x cC T hT mi (nI (if pxB T e a then 4 else 3)) fr to po (pxA T e a) e ((pxA_le hae).2) (he) (bas (pxB T e a)) (by unfold bas; split <;> decide) H.size) (xV 1 hts kC_Num_findDigits kM_Num_66 kI_Num_findDigits kS_Num_findDigits kN_Num rfl rfl (by decide +kernel) ⟨Nat.le_of_ble_eq_true rfl, Nat.le_of_ble_eq_true rfl⟩) ⟨ct_blind hev, va_recv hK hP (ci := 3) (q0 := 0) rfl rfl, ct_pre hev hP hK hD hS hA hE [0, 1] rfl (by decide) [0] rfl⟩ rfl rfl hl.1 rfl (lv_room (Nat.le_of_ble_eq_true rfl)) d_Num_findLiteral_32 ⟨Nat.le_of_ble_eq_true rfl, Nat.le_of_ble_eq_true rfl⟩) hP hD hS hA [0, 1] [] rfl rfl (by decide) (by decide) (fun r u H locs hw hP hD hS hK1 => ?_)
      subst hw
      have hP : va_P D vcl [(nm, .inr (3, [.ref x, .int (nI (dE (bas (pxB T e a)) T e (pxA T e a))), .int (nI e), .int mi, .int (nI (if pxB T e a then 4 else 3)), .int (nI (pxA T e a)), .int (nI (dE (bas (pxB T e a)) T e (pxA T e a))), .int po])), (x, .inl (cC, 2400, .inl (tx T)))] H := hP
      have hD : va_D A [(nm, .inr (3, [.ref x, .int (nI (dE (bas (pxB T e a)) T e (pxA T e a))), .int (nI e), .int mi, .int (nI (if pxB T e a then 4 else 3)), .int (nI (pxA T e a)), .int (nI (dE (bas (pxB T e a)) T e (pxA T e a))), .int po])), (x, .inl (cC, 2400, .inl (tx T)))] := hD
      have hP : va_P D vcl [(nm, .inr (3, [.ref x, .int (nI (lD T e a)), .int (nI e), .int mi, .int (nI (if pxB T e a then 4 else 3)), .int (nI (pxA T e a)), .int (nI (lD T e a)), .int po])), (x, .inl (cC, 2400, .inl (tx T)))] H := hP
      have hD : va_D A [(nm, .inr (3, [.ref x, .int (nI (lD T e a)), .int (nI e), .int mi, .int (nI (if pxB T e a then 4 else 3)), .int (nI (pxA T e a)), .int (nI (lD T e a)), .int po])), (x, .inl (cC, 2400, .inl (tx T)))] := hD
      refine lv_if_eq (tgt := 45) hx hb d_Num_findLiteral_35 (by decide) (fun c35 => ?_) (fun c35 => ?_)
      · have e35 : decide (0 < dN (bas (pxB T e a)) T e (pxA T e a)) = false := (bI_0 _).mp c35
        refine lv_iconst (v := 0) hx hb d_Num_findLiteral_45 (by decide) ?_
        exact rt_i hx hb hrt hlocks (rfl) ((nI (lD T e a), nI (if pxB T e a then 4 else 3), nI (pxA T e a), nI (lD T e a), po)) (⟨by unfold litB; rw [e35]; rfl, fun z => by unfold litB at z; rw [e35, Bool.false_and] at z; exact absurd z (by decide)⟩) (hP.sub [0, 1] rfl) (hK.sub [0] rfl) (hD.sub [0, 1] (by decide) rfl) hS d_Num_findLiteral_46
      · have e35 : decide (0 < dN (bas (pxB T e a)) T e (pxA T e a)) = true := tt_of (fun z => c35 ((bI_0 _).mpr z))
        refine lv_aload_n hx hb d_Num_findLiteral_38 rfl (lv_at hl 0 rfl) ?_
        refine ca_i [] (va_runV (As := []) (rest := []) ⟨hx, hb, hml, hown, hts⟩ (c_Num_findPower l D E nm x cC T hT mi (nI (if pxB T e a then 4 else 3)) (nI (pxA T e a)) (nI (lD T e a)) po (lD T e a) e (hld) (he) (pxB T e a) H.size) (xV 0 hts kC_Num_findPower kM_Num_70 kI_Num_findPower kS_Num_findPower kN_Num rfl rfl (by decide +kernel) ⟨Nat.le_of_ble_eq_true rfl, Nat.le_of_ble_eq_true rfl⟩) ⟨ct_blind hev, va_recv hK hP (ci := 3) (q0 := 0) rfl rfl, ct_pre hev hP hK hD hS hA hE [0, 1] rfl (by decide) [0] rfl⟩ rfl rfl hl.1 rfl (lv_room (Nat.le_of_ble_eq_true rfl)) d_Num_findLiteral_39 ⟨Nat.le_of_ble_eq_true rfl, Nat.le_of_ble_eq_true rfl⟩) hP hD hS hA [0, 1] [] rfl rfl (by decide) (by decide) (fun r u H locs hw hP hD hS hK1 => ?_)
        subst hw
        have hP : va_P D vcl [(nm, .inr (3, [.ref x, .int (nI (pAt (pxB T e a) T e (lD T e a))), .int (nI e), .int mi, .int (nI (if pxB T e a then 4 else 3)), .int (nI (pxA T e a)), .int (nI (lD T e a)), .int (zI (pPw 1000000 (pxB T e a) T e (lD T e a)))])), (x, .inl (cC, 2400, .inl (tx T)))] H := hP
        have hD : va_D A [(nm, .inr (3, [.ref x, .int (nI (pAt (pxB T e a) T e (lD T e a))), .int (nI e), .int mi, .int (nI (if pxB T e a then 4 else 3)), .int (nI (pxA T e a)), .int (nI (lD T e a)), .int (zI (pPw 1000000 (pxB T e a) T e (lD T e a)))])), (x, .inl (cC, 2400, .inl (tx T)))] := hD
        have hP : va_P D vcl [(nm, .inr (3, [.ref x, .int (nI (lX T e a)), .int (nI e), .int mi, .int (nI (if pxB T e a then 4 else 3)), .int (nI (pxA T e a)), .int (nI (lD T e a)), .int (zI (pPw 1000000 (pxB T e a) T e (lD T e a)))])), (x, .inl (cC, 2400, .inl (tx T)))] H := hP
        have hD : va_D A [(nm, .inr (3, [.ref x, .int (nI (lX T e a)), .int (nI e), .int mi, .int (nI (if pxB T e a then 4 else 3)), .int (nI (pxA T e a)), .int (nI (lD T e a)), .int (zI (pPw 1000000 (pxB T e a) T e (lD T e a)))])), (x, .inl (cC, 2400, .inl (tx T)))] := hD
        refine lv_if_ne (tgt := 47) hx hb d_Num_findLiteral_42 (by decide) (fun c42 => ?_) (fun c42 => ?_)
        · have e42 : pOk (pxB T e a) T e (lD T e a) = true := tt_of (fun z => c42 ((bI_0 _).mpr z))
          refine lv_aload_n hx hb d_Num_findLiteral_47 rfl (lv_at hl 0 rfl) ?_
          refine lv_bipush (v := 102) hx hb d_Num_findLiteral_48 (by decide) ?_
          refine lv_bipush (v := 70) hx hb d_Num_findLiteral_50 (by decide) ?_
          refine ca_i [] (va_runV (As := [.int 102, .int 70]) (rest := []) ⟨hx, hb, hml, hown, hts⟩ (c_Num_isHere l D E nm x cC T hT mi (nI (if pxB T e a then 4 else 3)) (nI (pxA T e a)) (nI (lD T e a)) (zI (pPw 1000000 (pxB T e a) T e (lD T e a))) (lX T e a) e (hlx) (he) 102 70 (by decide) (by decide) H.size) (xV 2 hts kC_Num_isHere kM_Num_73 kI_Num_isHere kS_Num_isHere kN_Num rfl rfl (by decide +kernel) ⟨Nat.le_of_ble_eq_true rfl, Nat.le_of_ble_eq_true rfl⟩) ⟨ct_blind hev, va_recv hK hP (ci := 3) (q0 := 0) rfl rfl, ct_pre hev hP hK hD hS hA hE [0, 1] rfl (by decide) [0] rfl⟩ rfl rfl hl.1 rfl (lv_room (Nat.le_of_ble_eq_true rfl)) d_Num_findLiteral_52 ⟨Nat.le_of_ble_eq_true rfl, Nat.le_of_ble_eq_true rfl⟩) hP hD hS hA [0, 1] [] rfl rfl (by decide) (by decide) (fun r u H locs hw hP hD hS hK1 => ?_)
          subst hw
          have hP : va_P D vcl [(nm, .inr (3, [.ref x, .int (nI (lX T e a)), .int (nI e), .int mi, .int (nI (if pxB T e a then 4 else 3)), .int (nI (pxA T e a)), .int (nI (lD T e a)), .int (zI (pPw 1000000 (pxB T e a) T e (lD T e a)))])), (x, .inl (cC, 2400, .inl (tx T)))] H := hP
          have hD : va_D A [(nm, .inr (3, [.ref x, .int (nI (lX T e a)), .int (nI e), .int mi, .int (nI (if pxB T e a then 4 else 3)), .int (nI (pxA T e a)), .int (nI (lD T e a)), .int (zI (pPw 1000000 (pxB T e a) T e (lD T e a)))])), (x, .inl (cC, 2400, .inl (tx T)))] := hD
          refine lv_if_ne (tgt := 69) hx hb d_Num_findLiteral_55 (by decide) (fun c55 => ?_) (fun c55 => ?_)
          · have e55 : lk T e (lX T e a) = 102 ∨ lk T e (lX T e a) = 70 := of_decide_eq_true (tt_of (fun z => c55 ((bI_0 _).mpr z)))
            have hsf : sfB T e (lX T e a) = true := decide_eq_true (Or.inl e55)
            refine lv_aload_n hx hb d_Num_findLiteral_69 rfl (lv_at hl 0 rfl) ?_
            refine lv_dup hx hb d_Num_findLiteral_70 rfl ?_
            refine va_get (D := D) (ci := 3) (v := .int (nI (lX T e a))) (C := R_Num) (T := F_Num) (N := 8) hx hb hts w_Num hown hK hP 0 rfl rfl 1 (by decide) (hts _ kF_Num_25) (fun _ h9 => h9) rfl d_Num_findLiteral_71 ?_
            refine lv_iconst (v := 1) hx hb d_Num_findLiteral_74 (by decide) ?_
            refine lv_iadd hx hb d_Num_findLiteral_75 ?_
            refine tv_i (nI (lX T e a + 1)) (nI_1 _) ?_
            refine va_put (D := D) (ci := 3) (v := .int (nI (lX T e a + 1))) (ty := .int) (C := R_Num) (T := F_Num) (N := 8) hx hb hts w_Num t_Num tk_Num n_Num hown hK hP hD hS 0 rfl rfl 1 (by decide) (hts _ kF_Num_25) (fun _ h9 => h9) rfl (by decide +kernel) (rfl) (rfl) (Nat.le_of_ble_eq_true rfl) d_Num_findLiteral_76 (fun H locs hP hD hS => ?_)
            have hP : va_P D vcl [(nm, .inr (3, [.ref x, .int (nI (lX T e a + 1)), .int (nI e), .int mi, .int (nI (if pxB T e a then 4 else 3)), .int (nI (pxA T e a)), .int (nI (lD T e a)), .int (zI (pPw 1000000 (pxB T e a) T e (lD T e a)))])), (x, .inl (cC, 2400, .inl (tx T)))] H := hP
            have hD : va_D A [(nm, .inr (3, [.ref x, .int (nI (lX T e a + 1)), .int (nI e), .int mi, .int (nI (if pxB T e a then 4 else 3)), .int (nI (pxA T e a)), .int (nI (lD T e a)), .int (zI (pPw 1000000 (pxB T e a) T e (lD T e a)))])), (x, .inl (cC, 2400, .inl (tx T)))] := hD
            refine lv_aload_n hx hb d_Num_findLiteral_79 rfl (lv_at hl 0 rfl) ?_
            refine va_get (D := D) (ci := 3) (v := .int (nI (lX T e a + 1))) (C := R_Num) (T := F_Num) (N := 8) hx hb hts w_Num hown hK hP 0 rfl rfl 1 (by decide) (hts _ kF_Num_25) (fun _ h9 => h9) rfl d_Num_findLiteral_80 ?_
            refine lv_aload_n hx hb d_Num_findLiteral_83 rfl (lv_at hl 0 rfl) ?_
            refine va_get (D := D) (ci := 3) (v := .int (nI e)) (C := R_Num) (T := F_Num) (N := 8) hx hb hts w_Num hown hK hP 0 rfl rfl 2 (by decide) (hts _ kF_Num_50) (fun _ h9 => h9) rfl d_Num_findLiteral_84 ?_
            refine lv_icmp_ne (tgt := 94) hx hb d_Num_findLiteral_87 (by decide) (fun c87 => ?_) (fun c87 => ?_)
            · have e87 : decide ((if sfB T e (lX T e a) then lX T e a + 1 else lX T e a) = e) = false := by rw [hsf]; exact decide_eq_false (fun z => c87 (by rw [show (lX T e a + 1) = e from z]))
              refine lv_iconst (v := 0) hx hb d_Num_findLiteral_94 (by decide) ?_
              exact rt_i hx hb hrt hlocks (rfl) ((nI (lX T e a + 1), nI (if pxB T e a then 4 else 3), nI (pxA T e a), nI (lD T e a), zI (pPw 1000000 (pxB T e a) T e (lD T e a)))) (⟨by unfold litB; rw [e87, Bool.and_false, Bool.and_false]; rfl, fun z => by unfold litB at z; rw [e87, Bool.and_false, Bool.and_false] at z; exact absurd z (by decide)⟩) (hP.sub [0, 1] rfl) (hK.sub [0] rfl) (hD.sub [0, 1] (by decide) rfl) hS d_Num_findLiteral_95
            · have e87 : decide ((if sfB T e (lX T e a) then lX T e a + 1 else lX T e a) = e) = true := by rw [hsf]; exact decide_eq_true (show (lX T e a + 1) = e from (nI_eq (by omega) (by omega)).mp c87)
              refine lv_iconst (v := 1) hx hb d_Num_findLiteral_90 (by decide) ?_
              refine lv_goto (tgt := 95) hx hb d_Num_findLiteral_91 (by decide) ?_
              exact rt_i hx hb hrt hlocks (rfl) ((nI (lX T e a + 1), nI (if pxB T e a then 4 else 3), nI (pxA T e a), nI (lD T e a), zI (pPw 1000000 (pxB T e a) T e (lD T e a)))) (⟨by unfold litB; rw [e35, e42, e87]; rfl, fun _ => ⟨rfl, rfl, rfl, rfl⟩⟩) (hP.sub [0, 1] rfl) (hK.sub [0] rfl) (hD.sub [0, 1] (by decide) rfl) hS d_Num_findLiteral_95
          · have e55 : ¬ (lk T e (lX T e a) = 102 ∨ lk T e (lX T e a) = 70) := of_decide_eq_false ((bI_0 _).mp c55)
            refine lv_aload_n hx hb d_Num_findLiteral_58 rfl (lv_at hl 0 rfl) ?_
            refine lv_bipush (v := 100) hx hb d_Num_findLiteral_59 (by decide) ?_
            refine lv_bipush (v := 68) hx hb d_Num_findLiteral_61 (by decide) ?_
            refine ca_i [] (va_runV (As := [.int 100, .int 68]) (rest := []) ⟨hx, hb, hml, hown, hts⟩ (c_Num_isHere l D E nm x cC T hT mi (nI (if pxB T e a then 4 else 3)) (nI (pxA T e a)) (nI (lD T e a)) (zI (pPw 1000000 (pxB T e a) T e (lD T e a))) (lX T e a) e (hlx) (he) 100 68 (by decide) (by decide) H.size) (xV 2 hts kC_Num_isHere kM_Num_73 kI_Num_isHere kS_Num_isHere kN_Num rfl rfl (by decide +kernel) ⟨Nat.le_of_ble_eq_true rfl, Nat.le_of_ble_eq_true rfl⟩) ⟨ct_blind hev, va_recv hK hP (ci := 3) (q0 := 0) rfl rfl, ct_pre hev hP hK hD hS hA hE [0, 1] rfl (by decide) [0] rfl⟩ rfl rfl hl.1 rfl (lv_room (Nat.le_of_ble_eq_true rfl)) d_Num_findLiteral_63 ⟨Nat.le_of_ble_eq_true rfl, Nat.le_of_ble_eq_true rfl⟩) hP hD hS hA [0, 1] [] rfl rfl (by decide) (by decide) (fun r u H locs hw hP hD hS hK1 => ?_)
            subst hw
            have hP : va_P D vcl [(nm, .inr (3, [.ref x, .int (nI (lX T e a)), .int (nI e), .int mi, .int (nI (if pxB T e a then 4 else 3)), .int (nI (pxA T e a)), .int (nI (lD T e a)), .int (zI (pPw 1000000 (pxB T e a) T e (lD T e a)))])), (x, .inl (cC, 2400, .inl (tx T)))] H := hP
            have hD : va_D A [(nm, .inr (3, [.ref x, .int (nI (lX T e a)), .int (nI e), .int mi, .int (nI (if pxB T e a then 4 else 3)), .int (nI (pxA T e a)), .int (nI (lD T e a)), .int (zI (pPw 1000000 (pxB T e a) T e (lD T e a)))])), (x, .inl (cC, 2400, .inl (tx T)))] := hD
            refine lv_if_eq (tgt := 79) hx hb d_Num_findLiteral_66 (by decide) (fun c66 => ?_) (fun c66 => ?_)
            · have e66 : ¬ (lk T e (lX T e a) = 100 ∨ lk T e (lX T e a) = 68) := of_decide_eq_false ((bI_0 _).mp c66)
              have hsf : sfB T e (lX T e a) = false := decide_eq_false (fun z => z.elim e55 e66)
              refine lv_aload_n hx hb d_Num_findLiteral_79 rfl (lv_at hl 0 rfl) ?_
              refine va_get (D := D) (ci := 3) (v := .int (nI (lX T e a))) (C := R_Num) (T := F_Num) (N := 8) hx hb hts w_Num hown hK hP 0 rfl rfl 1 (by decide) (hts _ kF_Num_25) (fun _ h9 => h9) rfl d_Num_findLiteral_80 ?_
              refine lv_aload_n hx hb d_Num_findLiteral_83 rfl (lv_at hl 0 rfl) ?_
              refine va_get (D := D) (ci := 3) (v := .int (nI e)) (C := R_Num) (T := F_Num) (N := 8) hx hb hts w_Num hown hK hP 0 rfl rfl 2 (by decide) (hts _ kF_Num_50) (fun _ h9 => h9) rfl d_Num_findLiteral_84 ?_
              refine lv_icmp_ne (tgt := 94) hx hb d_Num_findLiteral_87 (by decide) (fun c87 => ?_) (fun c87 => ?_)
              · have e87 : decide ((if sfB T e (lX T e a) then lX T e a + 1 else lX T e a) = e) = false := by rw [hsf]; exact decide_eq_false (fun z => c87 (by rw [show (lX T e a) = e from z]))
                refine lv_iconst (v := 0) hx hb d_Num_findLiteral_94 (by decide) ?_
                exact rt_i hx hb hrt hlocks (rfl) ((nI (lX T e a), nI (if pxB T e a then 4 else 3), nI (pxA T e a), nI (lD T e a), zI (pPw 1000000 (pxB T e a) T e (lD T e a)))) (⟨by unfold litB; rw [e87, Bool.and_false, Bool.and_false]; rfl, fun z => by unfold litB at z; rw [e87, Bool.and_false, Bool.and_false] at z; exact absurd z (by decide)⟩) (hP.sub [0, 1] rfl) (hK.sub [0] rfl) (hD.sub [0, 1] (by decide) rfl) hS d_Num_findLiteral_95
              · have e87 : decide ((if sfB T e (lX T e a) then lX T e a + 1 else lX T e a) = e) = true := by rw [hsf]; exact decide_eq_true (show (lX T e a) = e from (nI_eq (by omega) (by omega)).mp c87)
                refine lv_iconst (v := 1) hx hb d_Num_findLiteral_90 (by decide) ?_
                refine lv_goto (tgt := 95) hx hb d_Num_findLiteral_91 (by decide) ?_
                exact rt_i hx hb hrt hlocks (rfl) ((nI (lX T e a), nI (if pxB T e a then 4 else 3), nI (pxA T e a), nI (lD T e a), zI (pPw 1000000 (pxB T e a) T e (lD T e a)))) (⟨by unfold litB; rw [e35, e42, e87]; rfl, fun _ => ⟨rfl, rfl, rfl, rfl⟩⟩) (hP.sub [0, 1] rfl) (hK.sub [0] rfl) (hD.sub [0, 1] (by decide) rfl) hS d_Num_findLiteral_95
            · have e66 : lk T e (lX T e a) = 100 ∨ lk T e (lX T e a) = 68 := of_decide_eq_true (tt_of (fun z => c66 ((bI_0 _).mpr z)))
              have hsf : sfB T e (lX T e a) = true := decide_eq_true (Or.inr e66)
              refine lv_aload_n hx hb d_Num_findLiteral_69 rfl (lv_at hl 0 rfl) ?_
              refine lv_dup hx hb d_Num_findLiteral_70 rfl ?_
              refine va_get (D := D) (ci := 3) (v := .int (nI (lX T e a))) (C := R_Num) (T := F_Num) (N := 8) hx hb hts w_Num hown hK hP 0 rfl rfl 1 (by decide) (hts _ kF_Num_25) (fun _ h9 => h9) rfl d_Num_findLiteral_71 ?_
              refine lv_iconst (v := 1) hx hb d_Num_findLiteral_74 (by decide) ?_
              refine lv_iadd hx hb d_Num_findLiteral_75 ?_
              refine tv_i (nI (lX T e a + 1)) (nI_1 _) ?_
              refine va_put (D := D) (ci := 3) (v := .int (nI (lX T e a + 1))) (ty := .int) (C := R_Num) (T := F_Num) (N := 8) hx hb hts w_Num t_Num tk_Num n_Num hown hK hP hD hS 0 rfl rfl 1 (by decide) (hts _ kF_Num_25) (fun _ h9 => h9) rfl (by decide +kernel) (rfl) (rfl) (Nat.le_of_ble_eq_true rfl) d_Num_findLiteral_76 (fun H locs hP hD hS => ?_)
              have hP : va_P D vcl [(nm, .inr (3, [.ref x, .int (nI (lX T e a + 1)), .int (nI e), .int mi, .int (nI (if pxB T e a then 4 else 3)), .int (nI (pxA T e a)), .int (nI (lD T e a)), .int (zI (pPw 1000000 (pxB T e a) T e (lD T e a)))])), (x, .inl (cC, 2400, .inl (tx T)))] H := hP
              have hD : va_D A [(nm, .inr (3, [.ref x, .int (nI (lX T e a + 1)), .int (nI e), .int mi, .int (nI (if pxB T e a then 4 else 3)), .int (nI (pxA T e a)), .int (nI (lD T e a)), .int (zI (pPw 1000000 (pxB T e a) T e (lD T e a)))])), (x, .inl (cC, 2400, .inl (tx T)))] := hD
              refine lv_aload_n hx hb d_Num_findLiteral_79 rfl (lv_at hl 0 rfl) ?_
              refine va_get (D := D) (ci := 3) (v := .int (nI (lX T e a + 1))) (C := R_Num) (T := F_Num) (N := 8) hx hb hts w_Num hown hK hP 0 rfl rfl 1 (by decide) (hts _ kF_Num_25) (fun _ h9 => h9) rfl d_Num_findLiteral_80 ?_
              refine lv_aload_n hx hb d_Num_findLiteral_83 rfl (lv_at hl 0 rfl) ?_
              refine va_get (D := D) (ci := 3) (v := .int (nI e)) (C := R_Num) (T := F_Num) (N := 8) hx hb hts w_Num hown hK hP 0 rfl rfl 2 (by decide) (hts _ kF_Num_50) (fun _ h9 => h9) rfl d_Num_findLiteral_84 ?_
              refine lv_icmp_ne (tgt := 94) hx hb d_Num_findLiteral_87 (by decide) (fun c87 => ?_) (fun c87 => ?_)
              · have e87 : decide ((if sfB T e (lX T e a) then lX T e a + 1 else lX T e a) = e) = false := by rw [hsf]; exact decide_eq_false (fun z => c87 (by rw [show (lX T e a + 1) = e from z]))
                refine lv_iconst (v := 0) hx hb d_Num_findLiteral_94 (by decide) ?_
                exact rt_i hx hb hrt hlocks (rfl) ((nI (lX T e a + 1), nI (if pxB T e a then 4 else 3), nI (pxA T e a), nI (lD T e a), zI (pPw 1000000 (pxB T e a) T e (lD T e a)))) (⟨by unfold litB; rw [e87, Bool.and_false, Bool.and_false]; rfl, fun z => by unfold litB at z; rw [e87, Bool.and_false, Bool.and_false] at z; exact absurd z (by decide)⟩) (hP.sub [0, 1] rfl) (hK.sub [0] rfl) (hD.sub [0, 1] (by decide) rfl) hS d_Num_findLiteral_95
              · have e87 : decide ((if sfB T e (lX T e a) then lX T e a + 1 else lX T e a) = e) = true := by rw [hsf]; exact decide_eq_true (show (lX T e a + 1) = e from (nI_eq (by omega) (by omega)).mp c87)
                refine lv_iconst (v := 1) hx hb d_Num_findLiteral_90 (by decide) ?_
                refine lv_goto (tgt := 95) hx hb d_Num_findLiteral_91 (by decide) ?_
                exact rt_i hx hb hrt hlocks (rfl) ((nI (lX T e a + 1), nI (if pxB T e a then 4 else 3), nI (pxA T e a), nI (lD T e a), zI (pPw 1000000 (pxB T e a) T e (lD T e a)))) (⟨by unfold litB; rw [e35, e42, e87]; rfl, fun _ => ⟨rfl, rfl, rfl, rfl⟩⟩) (hP.sub [0, 1] rfl) (hK.sub [0] rfl) (hD.sub [0, 1] (by decide) rfl) hS d_Num_findLiteral_95
        · have e42 : pOk (pxB T e a) T e (lD T e a) = false := (bI_0 _).mp c42
          refine lv_iconst (v := 0) hx hb d_Num_findLiteral_45 (by decide) ?_
          exact rt_i hx hb hrt hlocks (rfl) ((nI (lX T e a), nI (if pxB T e a then 4 else 3), nI (pxA T e a), nI (lD T e a), zI (pPw 1000000 (pxB T e a) T e (lD T e a)))) (⟨by unfold litB; rw [e42, Bool.false_and, Bool.and_false]; rfl, fun z => by unfold litB at z; rw [e42, Bool.false_and, Bool.and_false] at z; exact absurd z (by decide)⟩) (hP.sub [0, 1] rfl) (hK.sub [0] rfl) (hD.sub [0, 1] (by decide) rfl) hS d_Num_findLiteral_46
    · exact absurd c22 (by rw [e5]; decide)
  · have e5 : pxB T e a = true := tt_of (fun z => c5 ((bI_0 _).mpr z))
    refine lv_iconst (v := 4) hx hb d_Num_findLiteral_8 (by decide) ?_
    refine tv_i (nI (if pxB T e a then 4 else 3)) (by rw [e5]; rfl) ?_
    refine lv_goto (tgt := 13) hx hb d_Num_findLiteral_9 (by decide) ?_
    refine va_put (D := D) (ci := 3) (v := .int (nI (if pxB T e a then 4 else 3))) (ty := .int) (C := R_Num) (T := F_Num) (N := 8) hx hb hts w_Num t_Num tk_Num n_Num hown hK hP hD hS 0 rfl rfl 4 (by decide) (hts _ kF_Num_35) (fun _ h9 => h9) rfl (by decide +kernel) (rfl) (rfl) (Nat.le_of_ble_eq_true rfl) d_Num_findLiteral_13 (fun H locs hP hD hS => ?_)
    have hP : va_P D vcl [(nm, .inr (3, [.ref x, .int (nI (pxA T e a)), .int (nI e), .int mi, .int (nI (if pxB T e a then 4 else 3)), .int fr, .int to, .int po])), (x, .inl (cC, 2400, .inl (tx T)))] H := hP
    have hD : va_D A [(nm, .inr (3, [.ref x, .int (nI (pxA T e a)), .int (nI e), .int mi, .int (nI (if pxB T e a then 4 else 3)), .int fr, .int to, .int po])), (x, .inl (cC, 2400, .inl (tx T)))] := hD
    refine lv_aload_n hx hb d_Num_findLiteral_16 rfl (lv_at hl 0 rfl) ?_
    refine lv_aload_n hx hb d_Num_findLiteral_17 rfl (lv_at hl 0 rfl) ?_
    refine va_get (D := D) (ci := 3) (v := .int (nI (if pxB T e a then 4 else 3))) (C := R_Num) (T := F_Num) (N := 8) hx hb hts w_Num hown hK hP 0 rfl rfl 4 (by decide) (hts _ kF_Num_35) (fun _ h9 => h9) rfl d_Num_findLiteral_18 ?_
    refine lv_iconst (v := 4) hx hb d_Num_findLiteral_21 (by decide) ?_
    refine lv_icmp_ne (tgt := 30) hx hb d_Num_findLiteral_22 (by decide) (fun c22 => ?_) (fun c22 => ?_)
    · exact absurd (by rw [e5]; rfl) c22
    · refine lv_bipush (v := 16) hx hb d_Num_findLiteral_25 (by decide) ?_
      refine tv_i (nI (bas (pxB T e a))) (by rw [e5]; rfl) ?_
      refine lv_goto (tgt := 32) hx hb d_Num_findLiteral_27 (by decide) ?_
      refine ca_i [] (va_runV (As := [.int (nI (bas (pxB T e a)))]) (rest := []) ⟨hx, hb, hml, hown, hts⟩ (c_Num_findDigits l D E nm x cC T hT mi (nI (if pxB T e a then 4 else 3)) fr to po (pxA T e a) e ((pxA_le hae).2) (he) (bas (pxB T e a)) (by unfold bas; split <;> decide) H.size) (xV 1 hts kC_Num_findDigits kM_Num_66 kI_Num_findDigits kS_Num_findDigits kN_Num rfl rfl (by decide +kernel) ⟨Nat.le_of_ble_eq_true rfl, Nat.le_of_ble_eq_true rfl⟩) ⟨ct_blind hev, va_recv hK hP (ci := 3) (q0 := 0) rfl rfl, ct_pre hev hP hK hD hS hA hE [0, 1] rfl (by decide) [0] rfl⟩ rfl rfl hl.1 rfl (lv_room (Nat.le_of_ble_eq_true rfl)) d_Num_findLiteral_32 ⟨Nat.le_of_ble_eq_true rfl, Nat.le_of_ble_eq_true rfl⟩) hP hD hS hA [0, 1] [] rfl rfl (by decide) (by decide) (fun r u H locs hw hP hD hS hK1 => ?_)
      subst hw
      have hP : va_P D vcl [(nm, .inr (3, [.ref x, .int (nI (dE (bas (pxB T e a)) T e (pxA T e a))), .int (nI e), .int mi, .int (nI (if pxB T e a then 4 else 3)), .int (nI (pxA T e a)), .int (nI (dE (bas (pxB T e a)) T e (pxA T e a))), .int po])), (x, .inl (cC, 2400, .inl (tx T)))] H := hP
      have hD : va_D A [(nm, .inr (3, [.ref x, .int (nI (dE (bas (pxB T e a)) T e (pxA T e a))), .int (nI e), .int mi, .int (nI (if pxB T e a then 4 else 3)), .int (nI (pxA T e a)), .int (nI (dE (bas (pxB T e a)) T e (pxA T e a))), .int po])), (x, .inl (cC, 2400, .inl (tx T)))] := hD
      have hP : va_P D vcl [(nm, .inr (3, [.ref x, .int (nI (lD T e a)), .int (nI e), .int mi, .int (nI (if pxB T e a then 4 else 3)), .int (nI (pxA T e a)), .int (nI (lD T e a)), .int po])), (x, .inl (cC, 2400, .inl (tx T)))] H := hP
      have hD : va_D A [(nm, .inr (3, [.ref x, .int (nI (lD T e a)), .int (nI e), .int mi, .int (nI (if pxB T e a then 4 else 3)), .int (nI (pxA T e a)), .int (nI (lD T e a)), .int po])), (x, .inl (cC, 2400, .inl (tx T)))] := hD
      refine lv_if_eq (tgt := 45) hx hb d_Num_findLiteral_35 (by decide) (fun c35 => ?_) (fun c35 => ?_)
      · have e35 : decide (0 < dN (bas (pxB T e a)) T e (pxA T e a)) = false := (bI_0 _).mp c35
        refine lv_iconst (v := 0) hx hb d_Num_findLiteral_45 (by decide) ?_
        exact rt_i hx hb hrt hlocks (rfl) ((nI (lD T e a), nI (if pxB T e a then 4 else 3), nI (pxA T e a), nI (lD T e a), po)) (⟨by unfold litB; rw [e35]; rfl, fun z => by unfold litB at z; rw [e35, Bool.false_and] at z; exact absurd z (by decide)⟩) (hP.sub [0, 1] rfl) (hK.sub [0] rfl) (hD.sub [0, 1] (by decide) rfl) hS d_Num_findLiteral_46
      · have e35 : decide (0 < dN (bas (pxB T e a)) T e (pxA T e a)) = true := tt_of (fun z => c35 ((bI_0 _).mpr z))
        refine lv_aload_n hx hb d_Num_findLiteral_38 rfl (lv_at hl 0 rfl) ?_
        refine ca_i [] (va_runV (As := []) (rest := []) ⟨hx, hb, hml, hown, hts⟩ (c_Num_findPower l D E nm x cC T hT mi (nI (if pxB T e a then 4 else 3)) (nI (pxA T e a)) (nI (lD T e a)) po (lD T e a) e (hld) (he) (pxB T e a) H.size) (xV 0 hts kC_Num_findPower kM_Num_70 kI_Num_findPower kS_Num_findPower kN_Num rfl rfl (by decide +kernel) ⟨Nat.le_of_ble_eq_true rfl, Nat.le_of_ble_eq_true rfl⟩) ⟨ct_blind hev, va_recv hK hP (ci := 3) (q0 := 0) rfl rfl, ct_pre hev hP hK hD hS hA hE [0, 1] rfl (by decide) [0] rfl⟩ rfl rfl hl.1 rfl (lv_room (Nat.le_of_ble_eq_true rfl)) d_Num_findLiteral_39 ⟨Nat.le_of_ble_eq_true rfl, Nat.le_of_ble_eq_true rfl⟩) hP hD hS hA [0, 1] [] rfl rfl (by decide) (by decide) (fun r u H locs hw hP hD hS hK1 => ?_)
        subst hw
        have hP : va_P D vcl [(nm, .inr (3, [.ref x, .int (nI (pAt (pxB T e a) T e (lD T e a))), .int (nI e), .int mi, .int (nI (if pxB T e a then 4 else 3)), .int (nI (pxA T e a)), .int (nI (lD T e a)), .int (zI (pPw 1000000 (pxB T e a) T e (lD T e a)))])), (x, .inl (cC, 2400, .inl (tx T)))] H := hP
        have hD : va_D A [(nm, .inr (3, [.ref x, .int (nI (pAt (pxB T e a) T e (lD T e a))), .int (nI e), .int mi, .int (nI (if pxB T e a then 4 else 3)), .int (nI (pxA T e a)), .int (nI (lD T e a)), .int (zI (pPw 1000000 (pxB T e a) T e (lD T e a)))])), (x, .inl (cC, 2400, .inl (tx T)))] := hD
        have hP : va_P D vcl [(nm, .inr (3, [.ref x, .int (nI (lX T e a)), .int (nI e), .int mi, .int (nI (if pxB T e a then 4 else 3)), .int (nI (pxA T e a)), .int (nI (lD T e a)), .int (zI (pPw 1000000 (pxB T e a) T e (lD T e a)))])), (x, .inl (cC, 2400, .inl (tx T)))] H := hP
        have hD : va_D A [(nm, .inr (3, [.ref x, .int (nI (lX T e a)), .int (nI e), .int mi, .int (nI (if pxB T e a then 4 else 3)), .int (nI (pxA T e a)), .int (nI (lD T e a)), .int (zI (pPw 1000000 (pxB T e a) T e (lD T e a)))])), (x, .inl (cC, 2400, .inl (tx T)))] := hD
        refine lv_if_ne (tgt := 47) hx hb d_Num_findLiteral_42 (by decide) (fun c42 => ?_) (fun c42 => ?_)
        · have e42 : pOk (pxB T e a) T e (lD T e a) = true := tt_of (fun z => c42 ((bI_0 _).mpr z))
          refine lv_aload_n hx hb d_Num_findLiteral_47 rfl (lv_at hl 0 rfl) ?_
          refine lv_bipush (v := 102) hx hb d_Num_findLiteral_48 (by decide) ?_
          refine lv_bipush (v := 70) hx hb d_Num_findLiteral_50 (by decide) ?_
          refine ca_i [] (va_runV (As := [.int 102, .int 70]) (rest := []) ⟨hx, hb, hml, hown, hts⟩ (c_Num_isHere l D E nm x cC T hT mi (nI (if pxB T e a then 4 else 3)) (nI (pxA T e a)) (nI (lD T e a)) (zI (pPw 1000000 (pxB T e a) T e (lD T e a))) (lX T e a) e (hlx) (he) 102 70 (by decide) (by decide) H.size) (xV 2 hts kC_Num_isHere kM_Num_73 kI_Num_isHere kS_Num_isHere kN_Num rfl rfl (by decide +kernel) ⟨Nat.le_of_ble_eq_true rfl, Nat.le_of_ble_eq_true rfl⟩) ⟨ct_blind hev, va_recv hK hP (ci := 3) (q0 := 0) rfl rfl, ct_pre hev hP hK hD hS hA hE [0, 1] rfl (by decide) [0] rfl⟩ rfl rfl hl.1 rfl (lv_room (Nat.le_of_ble_eq_true rfl)) d_Num_findLiteral_52 ⟨Nat.le_of_ble_eq_true rfl, Nat.le_of_ble_eq_true rfl⟩) hP hD hS hA [0, 1] [] rfl rfl (by decide) (by decide) (fun r u H locs hw hP hD hS hK1 => ?_)
          subst hw
          have hP : va_P D vcl [(nm, .inr (3, [.ref x, .int (nI (lX T e a)), .int (nI e), .int mi, .int (nI (if pxB T e a then 4 else 3)), .int (nI (pxA T e a)), .int (nI (lD T e a)), .int (zI (pPw 1000000 (pxB T e a) T e (lD T e a)))])), (x, .inl (cC, 2400, .inl (tx T)))] H := hP
          have hD : va_D A [(nm, .inr (3, [.ref x, .int (nI (lX T e a)), .int (nI e), .int mi, .int (nI (if pxB T e a then 4 else 3)), .int (nI (pxA T e a)), .int (nI (lD T e a)), .int (zI (pPw 1000000 (pxB T e a) T e (lD T e a)))])), (x, .inl (cC, 2400, .inl (tx T)))] := hD
          refine lv_if_ne (tgt := 69) hx hb d_Num_findLiteral_55 (by decide) (fun c55 => ?_) (fun c55 => ?_)
          · have e55 : lk T e (lX T e a) = 102 ∨ lk T e (lX T e a) = 70 := of_decide_eq_true (tt_of (fun z => c55 ((bI_0 _).mpr z)))
            have hsf : sfB T e (lX T e a) = true := decide_eq_true (Or.inl e55)
            refine lv_aload_n hx hb d_Num_findLiteral_69 rfl (lv_at hl 0 rfl) ?_
            refine lv_dup hx hb d_Num_findLiteral_70 rfl ?_
            refine va_get (D := D) (ci := 3) (v := .int (nI (lX T e a))) (C := R_Num) (T := F_Num) (N := 8) hx hb hts w_Num hown hK hP 0 rfl rfl 1 (by decide) (hts _ kF_Num_25) (fun _ h9 => h9) rfl d_Num_findLiteral_71 ?_
            refine lv_iconst (v := 1) hx hb d_Num_findLiteral_74 (by decide) ?_
            refine lv_iadd hx hb d_Num_findLiteral_75 ?_
            refine tv_i (nI (lX T e a + 1)) (nI_1 _) ?_
            refine va_put (D := D) (ci := 3) (v := .int (nI (lX T e a + 1))) (ty := .int) (C := R_Num) (T := F_Num) (N := 8) hx hb hts w_Num t_Num tk_Num n_Num hown hK hP hD hS 0 rfl rfl 1 (by decide) (hts _ kF_Num_25) (fun _ h9 => h9) rfl (by decide +kernel) (rfl) (rfl) (Nat.le_of_ble_eq_true rfl) d_Num_findLiteral_76 (fun H locs hP hD hS => ?_)
            have hP : va_P D vcl [(nm, .inr (3, [.ref x, .int (nI (lX T e a + 1)), .int (nI e), .int mi, .int (nI (if pxB T e a then 4 else 3)), .int (nI (pxA T e a)), .int (nI (lD T e a)), .int (zI (pPw 1000000 (pxB T e a) T e (lD T e a)))])), (x, .inl (cC, 2400, .inl (tx T)))] H := hP
            have hD : va_D A [(nm, .inr (3, [.ref x, .int (nI (lX T e a + 1)), .int (nI e), .int mi, .int (nI (if pxB T e a then 4 else 3)), .int (nI (pxA T e a)), .int (nI (lD T e a)), .int (zI (pPw 1000000 (pxB T e a) T e (lD T e a)))])), (x, .inl (cC, 2400, .inl (tx T)))] := hD
            refine lv_aload_n hx hb d_Num_findLiteral_79 rfl (lv_at hl 0 rfl) ?_
            refine va_get (D := D) (ci := 3) (v := .int (nI (lX T e a + 1))) (C := R_Num) (T := F_Num) (N := 8) hx hb hts w_Num hown hK hP 0 rfl rfl 1 (by decide) (hts _ kF_Num_25) (fun _ h9 => h9) rfl d_Num_findLiteral_80 ?_
            refine lv_aload_n hx hb d_Num_findLiteral_83 rfl (lv_at hl 0 rfl) ?_
            refine va_get (D := D) (ci := 3) (v := .int (nI e)) (C := R_Num) (T := F_Num) (N := 8) hx hb hts w_Num hown hK hP 0 rfl rfl 2 (by decide) (hts _ kF_Num_50) (fun _ h9 => h9) rfl d_Num_findLiteral_84 ?_
            refine lv_icmp_ne (tgt := 94) hx hb d_Num_findLiteral_87 (by decide) (fun c87 => ?_) (fun c87 => ?_)
            · have e87 : decide ((if sfB T e (lX T e a) then lX T e a + 1 else lX T e a) = e) = false := by rw [hsf]; exact decide_eq_false (fun z => c87 (by rw [show (lX T e a + 1) = e from z]))
              refine lv_iconst (v := 0) hx hb d_Num_findLiteral_94 (by decide) ?_
              exact rt_i hx hb hrt hlocks (rfl) ((nI (lX T e a + 1), nI (if pxB T e a then 4 else 3), nI (pxA T e a), nI (lD T e a), zI (pPw 1000000 (pxB T e a) T e (lD T e a)))) (⟨by unfold litB; rw [e87, Bool.and_false, Bool.and_false]; rfl, fun z => by unfold litB at z; rw [e87, Bool.and_false, Bool.and_false] at z; exact absurd z (by decide)⟩) (hP.sub [0, 1] rfl) (hK.sub [0] rfl) (hD.sub [0, 1] (by decide) rfl) hS d_Num_findLiteral_95
            · have e87 : decide ((if sfB T e (lX T e a) then lX T e a + 1 else lX T e a) = e) = true := by rw [hsf]; exact decide_eq_true (show (lX T e a + 1) = e from (nI_eq (by omega) (by omega)).mp c87)
              refine lv_iconst (v := 1) hx hb d_Num_findLiteral_90 (by decide) ?_
              refine lv_goto (tgt := 95) hx hb d_Num_findLiteral_91 (by decide) ?_
              exact rt_i hx hb hrt hlocks (rfl) ((nI (lX T e a + 1), nI (if pxB T e a then 4 else 3), nI (pxA T e a), nI (lD T e a), zI (pPw 1000000 (pxB T e a) T e (lD T e a)))) (⟨by unfold litB; rw [e35, e42, e87]; rfl, fun _ => ⟨rfl, rfl, rfl, rfl⟩⟩) (hP.sub [0, 1] rfl) (hK.sub [0] rfl) (hD.sub [0, 1] (by decide) rfl) hS d_Num_findLiteral_95
          · have e55 : ¬ (lk T e (lX T e a) = 102 ∨ lk T e (lX T e a) = 70) := of_decide_eq_false ((bI_0 _).mp c55)
            refine lv_aload_n hx hb d_Num_findLiteral_58 rfl (lv_at hl 0 rfl) ?_
            refine lv_bipush (v := 100) hx hb d_Num_findLiteral_59 (by decide) ?_
            refine lv_bipush (v := 68) hx hb d_Num_findLiteral_61 (by decide) ?_
            refine ca_i [] (va_runV (As := [.int 100, .int 68]) (rest := []) ⟨hx, hb, hml, hown, hts⟩ (c_Num_isHere l D E nm x cC T hT mi (nI (if pxB T e a then 4 else 3)) (nI (pxA T e a)) (nI (lD T e a)) (zI (pPw 1000000 (pxB T e a) T e (lD T e a))) (lX T e a) e (hlx) (he) 100 68 (by decide) (by decide) H.size) (xV 2 hts kC_Num_isHere kM_Num_73 kI_Num_isHere kS_Num_isHere kN_Num rfl rfl (by decide +kernel) ⟨Nat.le_of_ble_eq_true rfl, Nat.le_of_ble_eq_true rfl⟩) ⟨ct_blind hev, va_recv hK hP (ci := 3) (q0 := 0) rfl rfl, ct_pre hev hP hK hD hS hA hE [0, 1] rfl (by decide) [0] rfl⟩ rfl rfl hl.1 rfl (lv_room (Nat.le_of_ble_eq_true rfl)) d_Num_findLiteral_63 ⟨Nat.le_of_ble_eq_true rfl, Nat.le_of_ble_eq_true rfl⟩) hP hD hS hA [0, 1] [] rfl rfl (by decide) (by decide) (fun r u H locs hw hP hD hS hK1 => ?_)
            subst hw
            have hP : va_P D vcl [(nm, .inr (3, [.ref x, .int (nI (lX T e a)), .int (nI e), .int mi, .int (nI (if pxB T e a then 4 else 3)), .int (nI (pxA T e a)), .int (nI (lD T e a)), .int (zI (pPw 1000000 (pxB T e a) T e (lD T e a)))])), (x, .inl (cC, 2400, .inl (tx T)))] H := hP
            have hD : va_D A [(nm, .inr (3, [.ref x, .int (nI (lX T e a)), .int (nI e), .int mi, .int (nI (if pxB T e a then 4 else 3)), .int (nI (pxA T e a)), .int (nI (lD T e a)), .int (zI (pPw 1000000 (pxB T e a) T e (lD T e a)))])), (x, .inl (cC, 2400, .inl (tx T)))] := hD
            refine lv_if_eq (tgt := 79) hx hb d_Num_findLiteral_66 (by decide) (fun c66 => ?_) (fun c66 => ?_)
            · have e66 : ¬ (lk T e (lX T e a) = 100 ∨ lk T e (lX T e a) = 68) := of_decide_eq_false ((bI_0 _).mp c66)
              have hsf : sfB T e (lX T e a) = false := decide_eq_false (fun z => z.elim e55 e66)
              refine lv_aload_n hx hb d_Num_findLiteral_79 rfl (lv_at hl 0 rfl) ?_
              refine va_get (D := D) (ci := 3) (v := .int (nI (lX T e a))) (C := R_Num) (T := F_Num) (N := 8) hx hb hts w_Num hown hK hP 0 rfl rfl 1 (by decide) (hts _ kF_Num_25) (fun _ h9 => h9) rfl d_Num_findLiteral_80 ?_
              refine lv_aload_n hx hb d_Num_findLiteral_83 rfl (lv_at hl 0 rfl) ?_
              refine va_get (D := D) (ci := 3) (v := .int (nI e)) (C := R_Num) (T := F_Num) (N := 8) hx hb hts w_Num hown hK hP 0 rfl rfl 2 (by decide) (hts _ kF_Num_50) (fun _ h9 => h9) rfl d_Num_findLiteral_84 ?_
              refine lv_icmp_ne (tgt := 94) hx hb d_Num_findLiteral_87 (by decide) (fun c87 => ?_) (fun c87 => ?_)
              · have e87 : decide ((if sfB T e (lX T e a) then lX T e a + 1 else lX T e a) = e) = false := by rw [hsf]; exact decide_eq_false (fun z => c87 (by rw [show (lX T e a) = e from z]))
                refine lv_iconst (v := 0) hx hb d_Num_findLiteral_94 (by decide) ?_
                exact rt_i hx hb hrt hlocks (rfl) ((nI (lX T e a), nI (if pxB T e a then 4 else 3), nI (pxA T e a), nI (lD T e a), zI (pPw 1000000 (pxB T e a) T e (lD T e a)))) (⟨by unfold litB; rw [e87, Bool.and_false, Bool.and_false]; rfl, fun z => by unfold litB at z; rw [e87, Bool.and_false, Bool.and_false] at z; exact absurd z (by decide)⟩) (hP.sub [0, 1] rfl) (hK.sub [0] rfl) (hD.sub [0, 1] (by decide) rfl) hS d_Num_findLiteral_95
              · have e87 : decide ((if sfB T e (lX T e a) then lX T e a + 1 else lX T e a) = e) = true := by rw [hsf]; exact decide_eq_true (show (lX T e a) = e from (nI_eq (by omega) (by omega)).mp c87)
                refine lv_iconst (v := 1) hx hb d_Num_findLiteral_90 (by decide) ?_
                refine lv_goto (tgt := 95) hx hb d_Num_findLiteral_91 (by decide) ?_
                exact rt_i hx hb hrt hlocks (rfl) ((nI (lX T e a), nI (if pxB T e a then 4 else 3), nI (pxA T e a), nI (lD T e a), zI (pPw 1000000 (pxB T e a) T e (lD T e a)))) (⟨by unfold litB; rw [e35, e42, e87]; rfl, fun _ => ⟨rfl, rfl, rfl, rfl⟩⟩) (hP.sub [0, 1] rfl) (hK.sub [0] rfl) (hD.sub [0, 1] (by decide) rfl) hS d_Num_findLiteral_95
            · have e66 : lk T e (lX T e a) = 100 ∨ lk T e (lX T e a) = 68 := of_decide_eq_true (tt_of (fun z => c66 ((bI_0 _).mpr z)))
              have hsf : sfB T e (lX T e a) = true := decide_eq_true (Or.inr e66)
              refine lv_aload_n hx hb d_Num_findLiteral_69 rfl (lv_at hl 0 rfl) ?_
              refine lv_dup hx hb d_Num_findLiteral_70 rfl ?_
              refine va_get (D := D) (ci := 3) (v := .int (nI (lX T e a))) (C := R_Num) (T := F_Num) (N := 8) hx hb hts w_Num hown hK hP 0 rfl rfl 1 (by decide) (hts _ kF_Num_25) (fun _ h9 => h9) rfl d_Num_findLiteral_71 ?_
              refine lv_iconst (v := 1) hx hb d_Num_findLiteral_74 (by decide) ?_
              refine lv_iadd hx hb d_Num_findLiteral_75 ?_
              refine tv_i (nI (lX T e a + 1)) (nI_1 _) ?_
              refine va_put (D := D) (ci := 3) (v := .int (nI (lX T e a + 1))) (ty := .int) (C := R_Num) (T := F_Num) (N := 8) hx hb hts w_Num t_Num tk_Num n_Num hown hK hP hD hS 0 rfl rfl 1 (by decide) (hts _ kF_Num_25) (fun _ h9 => h9) rfl (by decide +kernel) (rfl) (rfl) (Nat.le_of_ble_eq_true rfl) d_Num_findLiteral_76 (fun H locs hP hD hS => ?_)
              have hP : va_P D vcl [(nm, .inr (3, [.ref x, .int (nI (lX T e a + 1)), .int (nI e), .int mi, .int (nI (if pxB T e a then 4 else 3)), .int (nI (pxA T e a)), .int (nI (lD T e a)), .int (zI (pPw 1000000 (pxB T e a) T e (lD T e a)))])), (x, .inl (cC, 2400, .inl (tx T)))] H := hP
              have hD : va_D A [(nm, .inr (3, [.ref x, .int (nI (lX T e a + 1)), .int (nI e), .int mi, .int (nI (if pxB T e a then 4 else 3)), .int (nI (pxA T e a)), .int (nI (lD T e a)), .int (zI (pPw 1000000 (pxB T e a) T e (lD T e a)))])), (x, .inl (cC, 2400, .inl (tx T)))] := hD
              refine lv_aload_n hx hb d_Num_findLiteral_79 rfl (lv_at hl 0 rfl) ?_
              refine va_get (D := D) (ci := 3) (v := .int (nI (lX T e a + 1))) (C := R_Num) (T := F_Num) (N := 8) hx hb hts w_Num hown hK hP 0 rfl rfl 1 (by decide) (hts _ kF_Num_25) (fun _ h9 => h9) rfl d_Num_findLiteral_80 ?_
              refine lv_aload_n hx hb d_Num_findLiteral_83 rfl (lv_at hl 0 rfl) ?_
              refine va_get (D := D) (ci := 3) (v := .int (nI e)) (C := R_Num) (T := F_Num) (N := 8) hx hb hts w_Num hown hK hP 0 rfl rfl 2 (by decide) (hts _ kF_Num_50) (fun _ h9 => h9) rfl d_Num_findLiteral_84 ?_
              refine lv_icmp_ne (tgt := 94) hx hb d_Num_findLiteral_87 (by decide) (fun c87 => ?_) (fun c87 => ?_)
              · have e87 : decide ((if sfB T e (lX T e a) then lX T e a + 1 else lX T e a) = e) = false := by rw [hsf]; exact decide_eq_false (fun z => c87 (by rw [show (lX T e a + 1) = e from z]))
                refine lv_iconst (v := 0) hx hb d_Num_findLiteral_94 (by decide) ?_
                exact rt_i hx hb hrt hlocks (rfl) ((nI (lX T e a + 1), nI (if pxB T e a then 4 else 3), nI (pxA T e a), nI (lD T e a), zI (pPw 1000000 (pxB T e a) T e (lD T e a)))) (⟨by unfold litB; rw [e87, Bool.and_false, Bool.and_false]; rfl, fun z => by unfold litB at z; rw [e87, Bool.and_false, Bool.and_false] at z; exact absurd z (by decide)⟩) (hP.sub [0, 1] rfl) (hK.sub [0] rfl) (hD.sub [0, 1] (by decide) rfl) hS d_Num_findLiteral_95
              · have e87 : decide ((if sfB T e (lX T e a) then lX T e a + 1 else lX T e a) = e) = true := by rw [hsf]; exact decide_eq_true (show (lX T e a + 1) = e from (nI_eq (by omega) (by omega)).mp c87)
                refine lv_iconst (v := 1) hx hb d_Num_findLiteral_90 (by decide) ?_
                refine lv_goto (tgt := 95) hx hb d_Num_findLiteral_91 (by decide) ?_
                exact rt_i hx hb hrt hlocks (rfl) ((nI (lX T e a + 1), nI (if pxB T e a then 4 else 3), nI (pxA T e a), nI (lD T e a), zI (pPw 1000000 (pxB T e a) T e (lD T e a)))) (⟨by unfold litB; rw [e35, e42, e87]; rfl, fun _ => ⟨rfl, rfl, rfl, rfl⟩⟩) (hP.sub [0, 1] rfl) (hK.sub [0] rfl) (hD.sub [0, 1] (by decide) rfl) hS d_Num_findLiteral_95
        · have e42 : pOk (pxB T e a) T e (lD T e a) = false := (bI_0 _).mp c42
          refine lv_iconst (v := 0) hx hb d_Num_findLiteral_45 (by decide) ?_
          exact rt_i hx hb hrt hlocks (rfl) ((nI (lX T e a), nI (if pxB T e a then 4 else 3), nI (pxA T e a), nI (lD T e a), zI (pPw 1000000 (pxB T e a) T e (lD T e a)))) (⟨by unfold litB; rw [e42, Bool.false_and, Bool.and_false]; rfl, fun z => by unfold litB at z; rw [e42, Bool.false_and, Bool.and_false] at z; exact absurd z (by decide)⟩) (hP.sub [0, 1] rfl) (hK.sub [0] rfl) (hD.sub [0, 1] (by decide) rfl) hS d_Num_findLiteral_46

set_option maxHeartbeats 4000000 in
set_option maxRecDepth 100000 in
theorem c_Num_findIn (l : Launch) (D : va_G) (E : evD) (nm x : Nat) (cC : ClassId) (T : Nat → Nat) (hT : ∀ j, T j < 256) (mi fo fr to po : Int32) (v1 v2 : Int32) (n : Nat) (hn : n ≤ 2400) : Ci (S := Int32 × Int32 × Int32 × Int32 × Int32 × Int32 × Int32) l y_Num_findIn (wz y_Num_findIn b_Num_findIn 2 (some .boolean)) ({ frames := 5, cells := 0, slots := 0, locals := 107 }) D vcl (ev1 E) [.ref nm, .int (nI n)] [(cC, .char)] [(nm, .inr (3, [.ref x, .int v1, .int v2, .int mi, .int fo, .int fr, .int to, .int po])), (x, .inl (cC, 2400, .inl (tx T)))] 0 0 (fun (r : Int32) (u : Int32 × Int32 × Int32 × Int32 × Int32 × Int32 × Int32) => finOK T n r u) (fun _ => [(cC, .char)]) (fun u : Int32 × Int32 × Int32 × Int32 × Int32 × Int32 × Int32 => [(nm, .inr (3, [.ref x, .int u.1, .int u.2.1, .int u.2.2.1, .int u.2.2.2.1, .int u.2.2.2.2.1, .int u.2.2.2.2.2.1, .int u.2.2.2.2.2.2])), (x, .inl (cC, 2400, .inl (tx T)))]) := by
  have hev := ev1_ok E
  unfold Ci
  refine ct_of (y := y_Num_findIn) (av := [.ref nm, .int (nI n)]) (cc := b_Num_findIn) (maxL := 2) (ret := (some .boolean)) (Qc := fun A => va_Qi (S := Int32 × Int32 × Int32 × Int32 × Int32 × Int32 × Int32) (fun (r : Int32) (u : Int32 × Int32 × Int32 × Int32 × Int32 × Int32 × Int32) => finOK T n r u) (fun u tS => ctB D vcl ((fun _ => [(cC, .char)]) u) ((fun u : Int32 × Int32 × Int32 × Int32 × Int32 × Int32 × Int32 => [(nm, .inr (3, [.ref x, .int u.1, .int u.2.1, .int u.2.2.1, .int u.2.2.2.1, .int u.2.2.2.2.1, .int u.2.2.2.2.2.1, .int u.2.2.2.2.2.2])), (x, .inl (cC, 2400, .inl (tx T)))]) u) A tS) A) (by decide) rfl (Nat.le_of_ble_eq_true rfl) ?_
  intro p ee s m below meth cde ls A H locs hx hb hml hrt hlocks hown hin hts hA hP hK hD hS hE hl
  have hown : s.vm.findClass R_Num = some m.cls := hown
  have hts := wz_g hts
  have hl : lv_has ls 2 [(0, .ref nm), (1, .int (nI n))] := hl
  have hxe : xE T n ≤ 2400 := Nat.le_trans (tE_le T n) hn
  have hlb := lk_b hT (xE T n) (xA T n)
  refine lv_aload_n hx hb d_Num_findIn_0 rfl (lv_at hl 0 rfl) ?_
  refine lv_iload_n hx hb d_Num_findIn_1 rfl (lv_at hl 1 rfl) ?_
  refine ca_v [] (va_runV (As := [.int (nI n)]) (rest := []) ⟨hx, hb, hml, hown, hts⟩ (c_Num_trim l D E nm x cC T hT mi fo fr to po v1 v2 n hn H.size) (xV 1 hts kC_Num_trim kM_Num_13 kI_Num_trim kS_Num_trim kN_Num rfl rfl (by decide +kernel) ⟨Nat.le_of_ble_eq_true rfl, Nat.le_of_ble_eq_true rfl⟩) ⟨ct_blind hev, va_recv hK hP (ci := 3) (q0 := 0) rfl rfl, ct_pre hev hP hK hD hS hA hE [0, 1] rfl (by decide) [0] rfl⟩ rfl rfl hl.1 rfl (lv_room (Nat.le_of_ble_eq_true rfl)) d_Num_findIn_2 ⟨Nat.le_of_ble_eq_true rfl, Nat.le_of_ble_eq_true rfl⟩) hP hD hS hA [0, 1] [] rfl rfl (by decide) (by decide) (fun u H locs hw hP hD hS hK1 => ?_)
  have hP : va_P D vcl [(nm, .inr (3, [.ref x, .int (nI (xA T n)), .int (nI (xE T n)), .int mi, .int fo, .int fr, .int to, .int po])), (x, .inl (cC, 2400, .inl (tx T)))] H := hP
  have hD : va_D A [(nm, .inr (3, [.ref x, .int (nI (xA T n)), .int (nI (xE T n)), .int mi, .int fo, .int fr, .int to, .int po])), (x, .inl (cC, 2400, .inl (tx T)))] := hD
  refine lv_aload_n hx hb d_Num_findIn_5 rfl (lv_at hl 0 rfl) ?_
  refine lv_aload_n hx hb d_Num_findIn_6 rfl (lv_at hl 0 rfl) ?_
  refine ca_i [] (va_runV (As := []) (rest := [.ref nm]) ⟨hx, hb, hml, hown, hts⟩ (c_Num_here l D E nm x cC T hT mi fo fr to po (xA T n) (xE T n) (xA_le T n) (hxe) H.size) (xV 0 hts kC_Num_here kM_Num_17 kI_Num_here kS_Num_here kN_Num rfl rfl (by decide +kernel) ⟨Nat.le_of_ble_eq_true rfl, Nat.le_of_ble_eq_true rfl⟩) ⟨ct_blind hev, va_recv hK hP (ci := 3) (q0 := 0) rfl rfl, ct_pre hev hP hK hD hS hA hE [0, 1] rfl (by decide) [0] rfl⟩ rfl rfl hl.1 rfl (lv_room (Nat.le_of_ble_eq_true rfl)) d_Num_findIn_7 ⟨Nat.le_of_ble_eq_true rfl, Nat.le_of_ble_eq_true rfl⟩) hP hD hS hA [0, 1] [] rfl rfl (by decide) (by decide) (fun r u H locs hw hP hD hS hK1 => ?_)
  subst hw
  have hP : va_P D vcl [(nm, .inr (3, [.ref x, .int (nI (xA T n)), .int (nI (xE T n)), .int mi, .int fo, .int fr, .int to, .int po])), (x, .inl (cC, 2400, .inl (tx T)))] H := hP
  have hD : va_D A [(nm, .inr (3, [.ref x, .int (nI (xA T n)), .int (nI (xE T n)), .int mi, .int fo, .int fr, .int to, .int po])), (x, .inl (cC, 2400, .inl (tx T)))] := hD
  refine lv_bipush (v := 45) hx hb d_Num_findIn_10 (by decide) ?_
  refine lv_icmp_ne (tgt := 19) hx hb d_Num_findIn_12 (by decide) (fun c12 => ?_) (fun c12 => ?_)
  · have e12 : ¬ lk T (xE T n) (xA T n) = 45 := fun z => c12 (by rw [z]; rfl)
    refine lv_iconst (v := 0) hx hb d_Num_findIn_19 (by decide) ?_
    refine tv_i (bI (xM T n)) (by rw [show xM T n = false from decide_eq_false e12]; rfl) ?_
    refine va_put (D := D) (ci := 3) (v := .int (bI (xM T n))) (ty := .boolean) (C := R_Num) (T := F_Num) (N := 8) hx hb hts w_Num t_Num tk_Num n_Num hown hK hP hD hS 0 rfl rfl 3 (by decide) (hts _ kF_Num_21) (fun _ h9 => h9) rfl (by decide +kernel) (by cases xM T n <;> rfl) (by cases xM T n <;> rfl) (Nat.le_of_ble_eq_true rfl) d_Num_findIn_20 (fun H locs hP hD hS => ?_)
    have hP : va_P D vcl [(nm, .inr (3, [.ref x, .int (nI (xA T n)), .int (nI (xE T n)), .int (bI (xM T n)), .int fo, .int fr, .int to, .int po])), (x, .inl (cC, 2400, .inl (tx T)))] H := hP
    have hD : va_D A [(nm, .inr (3, [.ref x, .int (nI (xA T n)), .int (nI (xE T n)), .int (bI (xM T n)), .int fo, .int fr, .int to, .int po])), (x, .inl (cC, 2400, .inl (tx T)))] := hD
    refine lv_aload_n hx hb d_Num_findIn_23 rfl (lv_at hl 0 rfl) ?_
    refine va_get (D := D) (ci := 3) (v := .int (bI (xM T n))) (C := R_Num) (T := F_Num) (N := 8) hx hb hts w_Num hown hK hP 0 rfl rfl 3 (by decide) (hts _ kF_Num_21) (fun _ h9 => h9) rfl d_Num_findIn_24 ?_
    refine lv_if_ne (tgt := 39) hx hb d_Num_findIn_27 (by decide) (fun c27 => ?_) (fun c27 => ?_)
    · exact absurd ((bI_0 _).mpr (decide_eq_false e12)) c27
    · refine lv_aload_n hx hb d_Num_findIn_30 rfl (lv_at hl 0 rfl) ?_
      refine ca_i [] (va_runV (As := []) (rest := []) ⟨hx, hb, hml, hown, hts⟩ (c_Num_here l D E nm x cC T hT (bI (xM T n)) fo fr to po (xA T n) (xE T n) (xA_le T n) (hxe) H.size) (xV 0 hts kC_Num_here kM_Num_17 kI_Num_here kS_Num_here kN_Num rfl rfl (by decide +kernel) ⟨Nat.le_of_ble_eq_true rfl, Nat.le_of_ble_eq_true rfl⟩) ⟨ct_blind hev, va_recv hK hP (ci := 3) (q0 := 0) rfl rfl, ct_pre hev hP hK hD hS hA hE [0, 1] rfl (by decide) [0] rfl⟩ rfl rfl hl.1 rfl (lv_room (Nat.le_of_ble_eq_true rfl)) d_Num_findIn_31 ⟨Nat.le_of_ble_eq_true rfl, Nat.le_of_ble_eq_true rfl⟩) hP hD hS hA [0, 1] [] rfl rfl (by decide) (by decide) (fun r u H locs hw hP hD hS hK1 => ?_)
      subst hw
      have hP : va_P D vcl [(nm, .inr (3, [.ref x, .int (nI (xA T n)), .int (nI (xE T n)), .int (bI (xM T n)), .int fo, .int fr, .int to, .int po])), (x, .inl (cC, 2400, .inl (tx T)))] H := hP
      have hD : va_D A [(nm, .inr (3, [.ref x, .int (nI (xA T n)), .int (nI (xE T n)), .int (bI (xM T n)), .int fo, .int fr, .int to, .int po])), (x, .inl (cC, 2400, .inl (tx T)))] := hD
      refine lv_bipush (v := 43) hx hb d_Num_findIn_34 (by decide) ?_
      refine lv_icmp_ne (tgt := 49) hx hb d_Num_findIn_36 (by decide) (fun c36 => ?_) (fun c36 => ?_)
      · have e36 : ¬ lk T (xE T n) (xA T n) = 43 := fun z => c36 (by rw [z]; rfl)
        have hxp2 : xP T n = xA T n := by unfold xP; rw [if_neg (fun z => z.elim e12 e36)]
        rw [← hxp2] at hP hD
        refine lv_aload_n hx hb d_Num_findIn_49 rfl (lv_at hl 0 rfl) ?_
        refine va_ldcS hx hb hown hE.2.2.2.2.2.1.1 d_Num_findIn_50 ?_
        refine ca_i [] (va_runV (As := [.ref (E.2.1 0)]) (rest := []) ⟨hx, hb, hml, hown, hts⟩ (c_Num_isRest l D E nm x cC T hT (bI (xM T n)) fo fr to po (xP T n) (xE T n) (xP_le T n) (hxe) 0 (by decide) H.size) (xV 1 hts kC_Num_isRest kM_Num_31 kI_Num_isRest kS_Num_isRest kN_Num rfl rfl (by decide +kernel) ⟨Nat.le_of_ble_eq_true rfl, Nat.le_of_ble_eq_true rfl⟩) ⟨ct_blind hev, va_recv hK hP (ci := 3) (q0 := 0) rfl rfl, ct_pre hev hP hK hD hS hA hE [0, 1] rfl (by decide) [0] rfl⟩ rfl rfl hl.1 rfl (lv_room (Nat.le_of_ble_eq_true rfl)) d_Num_findIn_52 ⟨Nat.le_of_ble_eq_true rfl, Nat.le_of_ble_eq_true rfl⟩) hP hD hS hA [0, 1] [] rfl rfl (by decide) (by decide) (fun r u H locs hw hP hD hS hK1 => ?_)
        subst hw
        have hP : va_P D vcl [(nm, .inr (3, [.ref x, .int (nI (xP T n)), .int (nI (xE T n)), .int (bI (xM T n)), .int fo, .int fr, .int to, .int po])), (x, .inl (cC, 2400, .inl (tx T)))] H := hP
        have hD : va_D A [(nm, .inr (3, [.ref x, .int (nI (xP T n)), .int (nI (xE T n)), .int (bI (xM T n)), .int fo, .int fr, .int to, .int po])), (x, .inl (cC, 2400, .inl (tx T)))] := hD
        refine lv_if_eq (tgt := 65) hx hb d_Num_findIn_55 (by decide) (fun c55 => ?_) (fun c55 => ?_)
        · have e55 : wdB T (xE T n) (xP T n) 0 = false := (bI_0 _).mp c55
          refine lv_aload_n hx hb d_Num_findIn_65 rfl (lv_at hl 0 rfl) ?_
          refine va_ldcS hx hb hown hE.2.2.2.2.2.1.2 d_Num_findIn_66 ?_
          refine ca_i [] (va_runV (As := [.ref (E.2.1 1)]) (rest := []) ⟨hx, hb, hml, hown, hts⟩ (c_Num_isRest l D E nm x cC T hT (bI (xM T n)) fo fr to po (xP T n) (xE T n) (xP_le T n) (hxe) 1 (by decide) H.size) (xV 1 hts kC_Num_isRest kM_Num_31 kI_Num_isRest kS_Num_isRest kN_Num rfl rfl (by decide +kernel) ⟨Nat.le_of_ble_eq_true rfl, Nat.le_of_ble_eq_true rfl⟩) ⟨ct_blind hev, va_recv hK hP (ci := 3) (q0 := 0) rfl rfl, ct_pre hev hP hK hD hS hA hE [0, 1] rfl (by decide) [0] rfl⟩ rfl rfl hl.1 rfl (lv_room (Nat.le_of_ble_eq_true rfl)) d_Num_findIn_68 ⟨Nat.le_of_ble_eq_true rfl, Nat.le_of_ble_eq_true rfl⟩) hP hD hS hA [0, 1] [] rfl rfl (by decide) (by decide) (fun r u H locs hw hP hD hS hK1 => ?_)
          subst hw
          have hP : va_P D vcl [(nm, .inr (3, [.ref x, .int (nI (xP T n)), .int (nI (xE T n)), .int (bI (xM T n)), .int fo, .int fr, .int to, .int po])), (x, .inl (cC, 2400, .inl (tx T)))] H := hP
          have hD : va_D A [(nm, .inr (3, [.ref x, .int (nI (xP T n)), .int (nI (xE T n)), .int (bI (xM T n)), .int fo, .int fr, .int to, .int po])), (x, .inl (cC, 2400, .inl (tx T)))] := hD
          refine lv_if_eq (tgt := 81) hx hb d_Num_findIn_71 (by decide) (fun c71 => ?_) (fun c71 => ?_)
          · have e71 : wdB T (xE T n) (xP T n) 1 = false := (bI_0 _).mp c71
            refine lv_aload_n hx hb d_Num_findIn_81 rfl (lv_at hl 0 rfl) ?_
            refine ca_i [] (va_runV (As := []) (rest := []) ⟨hx, hb, hml, hown, hts⟩ (c_Num_findLiteral l D E nm x cC T hT (bI (xM T n)) fo fr to po (xP T n) (xE T n) (xP_le T n) (hxe) H.size) (xV 0 hts kC_Num_findLiteral kM_Num_40 kI_Num_findLiteral kS_Num_findLiteral kN_Num rfl rfl (by decide +kernel) ⟨Nat.le_of_ble_eq_true rfl, Nat.le_of_ble_eq_true rfl⟩) ⟨ct_blind hev, va_recv hK hP (ci := 3) (q0 := 0) rfl rfl, ct_pre hev hP hK hD hS hA hE [0, 1] rfl (by decide) [0] rfl⟩ rfl rfl hl.1 rfl (lv_room (Nat.le_of_ble_eq_true rfl)) d_Num_findIn_82 ⟨Nat.le_of_ble_eq_true rfl, Nat.le_of_ble_eq_true rfl⟩) hP hD hS hA [0, 1] [] rfl rfl (by decide) (by decide) (fun r u H locs hw hP hD hS hK1 => ?_)
            obtain ⟨ua, uf, ur, ut, up⟩ := u
            obtain ⟨hr1, hr2⟩ := hw
            have hr2 : litB T (xE T n) (xP T n) = true → uf = nI (if pxB T (xE T n) (xP T n) then 4 else 3) ∧ ur = nI (pxA T (xE T n) (xP T n)) ∧ ut = nI (lD T (xE T n) (xP T n)) ∧ up = zI (pPw 1000000 (pxB T (xE T n) (xP T n)) T (xE T n) (lD T (xE T n) (xP T n))) := hr2
            subst hr1
            have hP : va_P D vcl [(nm, .inr (3, [.ref x, .int ua, .int (nI (xE T n)), .int (bI (xM T n)), .int uf, .int ur, .int ut, .int up])), (x, .inl (cC, 2400, .inl (tx T)))] H := hP
            have hD : va_D A [(nm, .inr (3, [.ref x, .int ua, .int (nI (xE T n)), .int (bI (xM T n)), .int uf, .int ur, .int ut, .int up])), (x, .inl (cC, 2400, .inl (tx T)))] := hD
            exact rt_i hx hb hrt hlocks (by generalize litB T (xE T n) (xP T n) = b9; cases b9 <;> rfl) ((ua, nI (xE T n), bI (xM T n), uf, ur, ut, up)) (fin_lit e55 e71 hr2) (hP.sub [0, 1] rfl) (hK.sub [0] rfl) (hD.sub [0, 1] (by decide) rfl) hS d_Num_findIn_85
          · have e71 : wdB T (xE T n) (xP T n) 1 = true := tt_of (fun z => c71 ((bI_0 _).mpr z))
            refine lv_aload_n hx hb d_Num_findIn_74 rfl (lv_at hl 0 rfl) ?_
            refine lv_iconst (v := 2) hx hb d_Num_findIn_75 (by decide) ?_
            refine tv_i (nI 2) (rfl) ?_
            refine va_put (D := D) (ci := 3) (v := .int (nI 2)) (ty := .int) (C := R_Num) (T := F_Num) (N := 8) hx hb hts w_Num t_Num tk_Num n_Num hown hK hP hD hS 0 rfl rfl 4 (by decide) (hts _ kF_Num_35) (fun _ h9 => h9) rfl (by decide +kernel) (rfl) (rfl) (Nat.le_of_ble_eq_true rfl) d_Num_findIn_76 (fun H locs hP hD hS => ?_)
            have hP : va_P D vcl [(nm, .inr (3, [.ref x, .int (nI (xP T n)), .int (nI (xE T n)), .int (bI (xM T n)), .int (nI 2), .int fr, .int to, .int po])), (x, .inl (cC, 2400, .inl (tx T)))] H := hP
            have hD : va_D A [(nm, .inr (3, [.ref x, .int (nI (xP T n)), .int (nI (xE T n)), .int (bI (xM T n)), .int (nI 2), .int fr, .int to, .int po])), (x, .inl (cC, 2400, .inl (tx T)))] := hD
            refine lv_iconst (v := 1) hx hb d_Num_findIn_79 (by decide) ?_
            exact rt_i hx hb hrt hlocks (rfl) ((nI (xP T n), nI (xE T n), bI (xM T n), nI 2, fr, to, po)) (fin_2 e55 e71) (hP.sub [0, 1] rfl) (hK.sub [0] rfl) (hD.sub [0, 1] (by decide) rfl) hS d_Num_findIn_80
        · have e55 : wdB T (xE T n) (xP T n) 0 = true := tt_of (fun z => c55 ((bI_0 _).mpr z))
          refine lv_aload_n hx hb d_Num_findIn_58 rfl (lv_at hl 0 rfl) ?_
          refine lv_iconst (v := 1) hx hb d_Num_findIn_59 (by decide) ?_
          refine tv_i (nI 1) (rfl) ?_
          refine va_put (D := D) (ci := 3) (v := .int (nI 1)) (ty := .int) (C := R_Num) (T := F_Num) (N := 8) hx hb hts w_Num t_Num tk_Num n_Num hown hK hP hD hS 0 rfl rfl 4 (by decide) (hts _ kF_Num_35) (fun _ h9 => h9) rfl (by decide +kernel) (rfl) (rfl) (Nat.le_of_ble_eq_true rfl) d_Num_findIn_60 (fun H locs hP hD hS => ?_)
          have hP : va_P D vcl [(nm, .inr (3, [.ref x, .int (nI (xP T n)), .int (nI (xE T n)), .int (bI (xM T n)), .int (nI 1), .int fr, .int to, .int po])), (x, .inl (cC, 2400, .inl (tx T)))] H := hP
          have hD : va_D A [(nm, .inr (3, [.ref x, .int (nI (xP T n)), .int (nI (xE T n)), .int (bI (xM T n)), .int (nI 1), .int fr, .int to, .int po])), (x, .inl (cC, 2400, .inl (tx T)))] := hD
          refine lv_iconst (v := 1) hx hb d_Num_findIn_63 (by decide) ?_
          exact rt_i hx hb hrt hlocks (rfl) ((nI (xP T n), nI (xE T n), bI (xM T n), nI 1, fr, to, po)) (fin_1 e55) (hP.sub [0, 1] rfl) (hK.sub [0] rfl) (hD.sub [0, 1] (by decide) rfl) hS d_Num_findIn_64
      · have e36 : lk T (xE T n) (xA T n) = 43 := (nI_eq (b := 43) (by omega) (by decide)).mp c36
        refine lv_aload_n hx hb d_Num_findIn_39 rfl (lv_at hl 0 rfl) ?_
        refine lv_dup hx hb d_Num_findIn_40 rfl ?_
        refine va_get (D := D) (ci := 3) (v := .int (nI (xA T n))) (C := R_Num) (T := F_Num) (N := 8) hx hb hts w_Num hown hK hP 0 rfl rfl 1 (by decide) (hts _ kF_Num_25) (fun _ h9 => h9) rfl d_Num_findIn_41 ?_
        refine lv_iconst (v := 1) hx hb d_Num_findIn_44 (by decide) ?_
        refine lv_iadd hx hb d_Num_findIn_45 ?_
        refine tv_i (nI (xP T n)) (by rw [show xP T n = xA T n + 1 by unfold xP; rw [if_pos (Or.inr e36)]]; exact nI_1 _) ?_
        refine va_put (D := D) (ci := 3) (v := .int (nI (xP T n))) (ty := .int) (C := R_Num) (T := F_Num) (N := 8) hx hb hts w_Num t_Num tk_Num n_Num hown hK hP hD hS 0 rfl rfl 1 (by decide) (hts _ kF_Num_25) (fun _ h9 => h9) rfl (by decide +kernel) (rfl) (rfl) (Nat.le_of_ble_eq_true rfl) d_Num_findIn_46 (fun H locs hP hD hS => ?_)
        have hP : va_P D vcl [(nm, .inr (3, [.ref x, .int (nI (xP T n)), .int (nI (xE T n)), .int (bI (xM T n)), .int fo, .int fr, .int to, .int po])), (x, .inl (cC, 2400, .inl (tx T)))] H := hP
        have hD : va_D A [(nm, .inr (3, [.ref x, .int (nI (xP T n)), .int (nI (xE T n)), .int (bI (xM T n)), .int fo, .int fr, .int to, .int po])), (x, .inl (cC, 2400, .inl (tx T)))] := hD
        refine lv_aload_n hx hb d_Num_findIn_49 rfl (lv_at hl 0 rfl) ?_
        refine va_ldcS hx hb hown hE.2.2.2.2.2.1.1 d_Num_findIn_50 ?_
        refine ca_i [] (va_runV (As := [.ref (E.2.1 0)]) (rest := []) ⟨hx, hb, hml, hown, hts⟩ (c_Num_isRest l D E nm x cC T hT (bI (xM T n)) fo fr to po (xP T n) (xE T n) (xP_le T n) (hxe) 0 (by decide) H.size) (xV 1 hts kC_Num_isRest kM_Num_31 kI_Num_isRest kS_Num_isRest kN_Num rfl rfl (by decide +kernel) ⟨Nat.le_of_ble_eq_true rfl, Nat.le_of_ble_eq_true rfl⟩) ⟨ct_blind hev, va_recv hK hP (ci := 3) (q0 := 0) rfl rfl, ct_pre hev hP hK hD hS hA hE [0, 1] rfl (by decide) [0] rfl⟩ rfl rfl hl.1 rfl (lv_room (Nat.le_of_ble_eq_true rfl)) d_Num_findIn_52 ⟨Nat.le_of_ble_eq_true rfl, Nat.le_of_ble_eq_true rfl⟩) hP hD hS hA [0, 1] [] rfl rfl (by decide) (by decide) (fun r u H locs hw hP hD hS hK1 => ?_)
        subst hw
        have hP : va_P D vcl [(nm, .inr (3, [.ref x, .int (nI (xP T n)), .int (nI (xE T n)), .int (bI (xM T n)), .int fo, .int fr, .int to, .int po])), (x, .inl (cC, 2400, .inl (tx T)))] H := hP
        have hD : va_D A [(nm, .inr (3, [.ref x, .int (nI (xP T n)), .int (nI (xE T n)), .int (bI (xM T n)), .int fo, .int fr, .int to, .int po])), (x, .inl (cC, 2400, .inl (tx T)))] := hD
        refine lv_if_eq (tgt := 65) hx hb d_Num_findIn_55 (by decide) (fun c55 => ?_) (fun c55 => ?_)
        · have e55 : wdB T (xE T n) (xP T n) 0 = false := (bI_0 _).mp c55
          refine lv_aload_n hx hb d_Num_findIn_65 rfl (lv_at hl 0 rfl) ?_
          refine va_ldcS hx hb hown hE.2.2.2.2.2.1.2 d_Num_findIn_66 ?_
          refine ca_i [] (va_runV (As := [.ref (E.2.1 1)]) (rest := []) ⟨hx, hb, hml, hown, hts⟩ (c_Num_isRest l D E nm x cC T hT (bI (xM T n)) fo fr to po (xP T n) (xE T n) (xP_le T n) (hxe) 1 (by decide) H.size) (xV 1 hts kC_Num_isRest kM_Num_31 kI_Num_isRest kS_Num_isRest kN_Num rfl rfl (by decide +kernel) ⟨Nat.le_of_ble_eq_true rfl, Nat.le_of_ble_eq_true rfl⟩) ⟨ct_blind hev, va_recv hK hP (ci := 3) (q0 := 0) rfl rfl, ct_pre hev hP hK hD hS hA hE [0, 1] rfl (by decide) [0] rfl⟩ rfl rfl hl.1 rfl (lv_room (Nat.le_of_ble_eq_true rfl)) d_Num_findIn_68 ⟨Nat.le_of_ble_eq_true rfl, Nat.le_of_ble_eq_true rfl⟩) hP hD hS hA [0, 1] [] rfl rfl (by decide) (by decide) (fun r u H locs hw hP hD hS hK1 => ?_)
          subst hw
          have hP : va_P D vcl [(nm, .inr (3, [.ref x, .int (nI (xP T n)), .int (nI (xE T n)), .int (bI (xM T n)), .int fo, .int fr, .int to, .int po])), (x, .inl (cC, 2400, .inl (tx T)))] H := hP
          have hD : va_D A [(nm, .inr (3, [.ref x, .int (nI (xP T n)), .int (nI (xE T n)), .int (bI (xM T n)), .int fo, .int fr, .int to, .int po])), (x, .inl (cC, 2400, .inl (tx T)))] := hD
          refine lv_if_eq (tgt := 81) hx hb d_Num_findIn_71 (by decide) (fun c71 => ?_) (fun c71 => ?_)
          · have e71 : wdB T (xE T n) (xP T n) 1 = false := (bI_0 _).mp c71
            refine lv_aload_n hx hb d_Num_findIn_81 rfl (lv_at hl 0 rfl) ?_
            refine ca_i [] (va_runV (As := []) (rest := []) ⟨hx, hb, hml, hown, hts⟩ (c_Num_findLiteral l D E nm x cC T hT (bI (xM T n)) fo fr to po (xP T n) (xE T n) (xP_le T n) (hxe) H.size) (xV 0 hts kC_Num_findLiteral kM_Num_40 kI_Num_findLiteral kS_Num_findLiteral kN_Num rfl rfl (by decide +kernel) ⟨Nat.le_of_ble_eq_true rfl, Nat.le_of_ble_eq_true rfl⟩) ⟨ct_blind hev, va_recv hK hP (ci := 3) (q0 := 0) rfl rfl, ct_pre hev hP hK hD hS hA hE [0, 1] rfl (by decide) [0] rfl⟩ rfl rfl hl.1 rfl (lv_room (Nat.le_of_ble_eq_true rfl)) d_Num_findIn_82 ⟨Nat.le_of_ble_eq_true rfl, Nat.le_of_ble_eq_true rfl⟩) hP hD hS hA [0, 1] [] rfl rfl (by decide) (by decide) (fun r u H locs hw hP hD hS hK1 => ?_)
            obtain ⟨ua, uf, ur, ut, up⟩ := u
            obtain ⟨hr1, hr2⟩ := hw
            have hr2 : litB T (xE T n) (xP T n) = true → uf = nI (if pxB T (xE T n) (xP T n) then 4 else 3) ∧ ur = nI (pxA T (xE T n) (xP T n)) ∧ ut = nI (lD T (xE T n) (xP T n)) ∧ up = zI (pPw 1000000 (pxB T (xE T n) (xP T n)) T (xE T n) (lD T (xE T n) (xP T n))) := hr2
            subst hr1
            have hP : va_P D vcl [(nm, .inr (3, [.ref x, .int ua, .int (nI (xE T n)), .int (bI (xM T n)), .int uf, .int ur, .int ut, .int up])), (x, .inl (cC, 2400, .inl (tx T)))] H := hP
            have hD : va_D A [(nm, .inr (3, [.ref x, .int ua, .int (nI (xE T n)), .int (bI (xM T n)), .int uf, .int ur, .int ut, .int up])), (x, .inl (cC, 2400, .inl (tx T)))] := hD
            exact rt_i hx hb hrt hlocks (by generalize litB T (xE T n) (xP T n) = b9; cases b9 <;> rfl) ((ua, nI (xE T n), bI (xM T n), uf, ur, ut, up)) (fin_lit e55 e71 hr2) (hP.sub [0, 1] rfl) (hK.sub [0] rfl) (hD.sub [0, 1] (by decide) rfl) hS d_Num_findIn_85
          · have e71 : wdB T (xE T n) (xP T n) 1 = true := tt_of (fun z => c71 ((bI_0 _).mpr z))
            refine lv_aload_n hx hb d_Num_findIn_74 rfl (lv_at hl 0 rfl) ?_
            refine lv_iconst (v := 2) hx hb d_Num_findIn_75 (by decide) ?_
            refine tv_i (nI 2) (rfl) ?_
            refine va_put (D := D) (ci := 3) (v := .int (nI 2)) (ty := .int) (C := R_Num) (T := F_Num) (N := 8) hx hb hts w_Num t_Num tk_Num n_Num hown hK hP hD hS 0 rfl rfl 4 (by decide) (hts _ kF_Num_35) (fun _ h9 => h9) rfl (by decide +kernel) (rfl) (rfl) (Nat.le_of_ble_eq_true rfl) d_Num_findIn_76 (fun H locs hP hD hS => ?_)
            have hP : va_P D vcl [(nm, .inr (3, [.ref x, .int (nI (xP T n)), .int (nI (xE T n)), .int (bI (xM T n)), .int (nI 2), .int fr, .int to, .int po])), (x, .inl (cC, 2400, .inl (tx T)))] H := hP
            have hD : va_D A [(nm, .inr (3, [.ref x, .int (nI (xP T n)), .int (nI (xE T n)), .int (bI (xM T n)), .int (nI 2), .int fr, .int to, .int po])), (x, .inl (cC, 2400, .inl (tx T)))] := hD
            refine lv_iconst (v := 1) hx hb d_Num_findIn_79 (by decide) ?_
            exact rt_i hx hb hrt hlocks (rfl) ((nI (xP T n), nI (xE T n), bI (xM T n), nI 2, fr, to, po)) (fin_2 e55 e71) (hP.sub [0, 1] rfl) (hK.sub [0] rfl) (hD.sub [0, 1] (by decide) rfl) hS d_Num_findIn_80
        · have e55 : wdB T (xE T n) (xP T n) 0 = true := tt_of (fun z => c55 ((bI_0 _).mpr z))
          refine lv_aload_n hx hb d_Num_findIn_58 rfl (lv_at hl 0 rfl) ?_
          refine lv_iconst (v := 1) hx hb d_Num_findIn_59 (by decide) ?_
          refine tv_i (nI 1) (rfl) ?_
          refine va_put (D := D) (ci := 3) (v := .int (nI 1)) (ty := .int) (C := R_Num) (T := F_Num) (N := 8) hx hb hts w_Num t_Num tk_Num n_Num hown hK hP hD hS 0 rfl rfl 4 (by decide) (hts _ kF_Num_35) (fun _ h9 => h9) rfl (by decide +kernel) (rfl) (rfl) (Nat.le_of_ble_eq_true rfl) d_Num_findIn_60 (fun H locs hP hD hS => ?_)
          have hP : va_P D vcl [(nm, .inr (3, [.ref x, .int (nI (xP T n)), .int (nI (xE T n)), .int (bI (xM T n)), .int (nI 1), .int fr, .int to, .int po])), (x, .inl (cC, 2400, .inl (tx T)))] H := hP
          have hD : va_D A [(nm, .inr (3, [.ref x, .int (nI (xP T n)), .int (nI (xE T n)), .int (bI (xM T n)), .int (nI 1), .int fr, .int to, .int po])), (x, .inl (cC, 2400, .inl (tx T)))] := hD
          refine lv_iconst (v := 1) hx hb d_Num_findIn_63 (by decide) ?_
          exact rt_i hx hb hrt hlocks (rfl) ((nI (xP T n), nI (xE T n), bI (xM T n), nI 1, fr, to, po)) (fin_1 e55) (hP.sub [0, 1] rfl) (hK.sub [0] rfl) (hD.sub [0, 1] (by decide) rfl) hS d_Num_findIn_64
  · have e12 : lk T (xE T n) (xA T n) = 45 := (nI_eq (b := 45) (by omega) (by decide)).mp c12
    refine lv_iconst (v := 1) hx hb d_Num_findIn_15 (by decide) ?_
    refine tv_i (bI (xM T n)) (by rw [show xM T n = true from decide_eq_true e12]; rfl) ?_
    refine lv_goto (tgt := 20) hx hb d_Num_findIn_16 (by decide) ?_
    refine va_put (D := D) (ci := 3) (v := .int (bI (xM T n))) (ty := .boolean) (C := R_Num) (T := F_Num) (N := 8) hx hb hts w_Num t_Num tk_Num n_Num hown hK hP hD hS 0 rfl rfl 3 (by decide) (hts _ kF_Num_21) (fun _ h9 => h9) rfl (by decide +kernel) (by cases xM T n <;> rfl) (by cases xM T n <;> rfl) (Nat.le_of_ble_eq_true rfl) d_Num_findIn_20 (fun H locs hP hD hS => ?_)
    have hP : va_P D vcl [(nm, .inr (3, [.ref x, .int (nI (xA T n)), .int (nI (xE T n)), .int (bI (xM T n)), .int fo, .int fr, .int to, .int po])), (x, .inl (cC, 2400, .inl (tx T)))] H := hP
    have hD : va_D A [(nm, .inr (3, [.ref x, .int (nI (xA T n)), .int (nI (xE T n)), .int (bI (xM T n)), .int fo, .int fr, .int to, .int po])), (x, .inl (cC, 2400, .inl (tx T)))] := hD
    refine lv_aload_n hx hb d_Num_findIn_23 rfl (lv_at hl 0 rfl) ?_
    refine va_get (D := D) (ci := 3) (v := .int (bI (xM T n))) (C := R_Num) (T := F_Num) (N := 8) hx hb hts w_Num hown hK hP 0 rfl rfl 3 (by decide) (hts _ kF_Num_21) (fun _ h9 => h9) rfl d_Num_findIn_24 ?_
    refine lv_if_ne (tgt := 39) hx hb d_Num_findIn_27 (by decide) (fun c27 => ?_) (fun c27 => ?_)
    · refine lv_aload_n hx hb d_Num_findIn_39 rfl (lv_at hl 0 rfl) ?_
      refine lv_dup hx hb d_Num_findIn_40 rfl ?_
      refine va_get (D := D) (ci := 3) (v := .int (nI (xA T n))) (C := R_Num) (T := F_Num) (N := 8) hx hb hts w_Num hown hK hP 0 rfl rfl 1 (by decide) (hts _ kF_Num_25) (fun _ h9 => h9) rfl d_Num_findIn_41 ?_
      refine lv_iconst (v := 1) hx hb d_Num_findIn_44 (by decide) ?_
      refine lv_iadd hx hb d_Num_findIn_45 ?_
      refine tv_i (nI (xP T n)) (by rw [show xP T n = xA T n + 1 by unfold xP; rw [if_pos (Or.inl e12)]]; exact nI_1 _) ?_
      refine va_put (D := D) (ci := 3) (v := .int (nI (xP T n))) (ty := .int) (C := R_Num) (T := F_Num) (N := 8) hx hb hts w_Num t_Num tk_Num n_Num hown hK hP hD hS 0 rfl rfl 1 (by decide) (hts _ kF_Num_25) (fun _ h9 => h9) rfl (by decide +kernel) (rfl) (rfl) (Nat.le_of_ble_eq_true rfl) d_Num_findIn_46 (fun H locs hP hD hS => ?_)
      have hP : va_P D vcl [(nm, .inr (3, [.ref x, .int (nI (xP T n)), .int (nI (xE T n)), .int (bI (xM T n)), .int fo, .int fr, .int to, .int po])), (x, .inl (cC, 2400, .inl (tx T)))] H := hP
      have hD : va_D A [(nm, .inr (3, [.ref x, .int (nI (xP T n)), .int (nI (xE T n)), .int (bI (xM T n)), .int fo, .int fr, .int to, .int po])), (x, .inl (cC, 2400, .inl (tx T)))] := hD
      refine lv_aload_n hx hb d_Num_findIn_49 rfl (lv_at hl 0 rfl) ?_
      refine va_ldcS hx hb hown hE.2.2.2.2.2.1.1 d_Num_findIn_50 ?_
      refine ca_i [] (va_runV (As := [.ref (E.2.1 0)]) (rest := []) ⟨hx, hb, hml, hown, hts⟩ (c_Num_isRest l D E nm x cC T hT (bI (xM T n)) fo fr to po (xP T n) (xE T n) (xP_le T n) (hxe) 0 (by decide) H.size) (xV 1 hts kC_Num_isRest kM_Num_31 kI_Num_isRest kS_Num_isRest kN_Num rfl rfl (by decide +kernel) ⟨Nat.le_of_ble_eq_true rfl, Nat.le_of_ble_eq_true rfl⟩) ⟨ct_blind hev, va_recv hK hP (ci := 3) (q0 := 0) rfl rfl, ct_pre hev hP hK hD hS hA hE [0, 1] rfl (by decide) [0] rfl⟩ rfl rfl hl.1 rfl (lv_room (Nat.le_of_ble_eq_true rfl)) d_Num_findIn_52 ⟨Nat.le_of_ble_eq_true rfl, Nat.le_of_ble_eq_true rfl⟩) hP hD hS hA [0, 1] [] rfl rfl (by decide) (by decide) (fun r u H locs hw hP hD hS hK1 => ?_)
      subst hw
      have hP : va_P D vcl [(nm, .inr (3, [.ref x, .int (nI (xP T n)), .int (nI (xE T n)), .int (bI (xM T n)), .int fo, .int fr, .int to, .int po])), (x, .inl (cC, 2400, .inl (tx T)))] H := hP
      have hD : va_D A [(nm, .inr (3, [.ref x, .int (nI (xP T n)), .int (nI (xE T n)), .int (bI (xM T n)), .int fo, .int fr, .int to, .int po])), (x, .inl (cC, 2400, .inl (tx T)))] := hD
      refine lv_if_eq (tgt := 65) hx hb d_Num_findIn_55 (by decide) (fun c55 => ?_) (fun c55 => ?_)
      · have e55 : wdB T (xE T n) (xP T n) 0 = false := (bI_0 _).mp c55
        refine lv_aload_n hx hb d_Num_findIn_65 rfl (lv_at hl 0 rfl) ?_
        refine va_ldcS hx hb hown hE.2.2.2.2.2.1.2 d_Num_findIn_66 ?_
        refine ca_i [] (va_runV (As := [.ref (E.2.1 1)]) (rest := []) ⟨hx, hb, hml, hown, hts⟩ (c_Num_isRest l D E nm x cC T hT (bI (xM T n)) fo fr to po (xP T n) (xE T n) (xP_le T n) (hxe) 1 (by decide) H.size) (xV 1 hts kC_Num_isRest kM_Num_31 kI_Num_isRest kS_Num_isRest kN_Num rfl rfl (by decide +kernel) ⟨Nat.le_of_ble_eq_true rfl, Nat.le_of_ble_eq_true rfl⟩) ⟨ct_blind hev, va_recv hK hP (ci := 3) (q0 := 0) rfl rfl, ct_pre hev hP hK hD hS hA hE [0, 1] rfl (by decide) [0] rfl⟩ rfl rfl hl.1 rfl (lv_room (Nat.le_of_ble_eq_true rfl)) d_Num_findIn_68 ⟨Nat.le_of_ble_eq_true rfl, Nat.le_of_ble_eq_true rfl⟩) hP hD hS hA [0, 1] [] rfl rfl (by decide) (by decide) (fun r u H locs hw hP hD hS hK1 => ?_)
        subst hw
        have hP : va_P D vcl [(nm, .inr (3, [.ref x, .int (nI (xP T n)), .int (nI (xE T n)), .int (bI (xM T n)), .int fo, .int fr, .int to, .int po])), (x, .inl (cC, 2400, .inl (tx T)))] H := hP
        have hD : va_D A [(nm, .inr (3, [.ref x, .int (nI (xP T n)), .int (nI (xE T n)), .int (bI (xM T n)), .int fo, .int fr, .int to, .int po])), (x, .inl (cC, 2400, .inl (tx T)))] := hD
        refine lv_if_eq (tgt := 81) hx hb d_Num_findIn_71 (by decide) (fun c71 => ?_) (fun c71 => ?_)
        · have e71 : wdB T (xE T n) (xP T n) 1 = false := (bI_0 _).mp c71
          refine lv_aload_n hx hb d_Num_findIn_81 rfl (lv_at hl 0 rfl) ?_
          refine ca_i [] (va_runV (As := []) (rest := []) ⟨hx, hb, hml, hown, hts⟩ (c_Num_findLiteral l D E nm x cC T hT (bI (xM T n)) fo fr to po (xP T n) (xE T n) (xP_le T n) (hxe) H.size) (xV 0 hts kC_Num_findLiteral kM_Num_40 kI_Num_findLiteral kS_Num_findLiteral kN_Num rfl rfl (by decide +kernel) ⟨Nat.le_of_ble_eq_true rfl, Nat.le_of_ble_eq_true rfl⟩) ⟨ct_blind hev, va_recv hK hP (ci := 3) (q0 := 0) rfl rfl, ct_pre hev hP hK hD hS hA hE [0, 1] rfl (by decide) [0] rfl⟩ rfl rfl hl.1 rfl (lv_room (Nat.le_of_ble_eq_true rfl)) d_Num_findIn_82 ⟨Nat.le_of_ble_eq_true rfl, Nat.le_of_ble_eq_true rfl⟩) hP hD hS hA [0, 1] [] rfl rfl (by decide) (by decide) (fun r u H locs hw hP hD hS hK1 => ?_)
          obtain ⟨ua, uf, ur, ut, up⟩ := u
          obtain ⟨hr1, hr2⟩ := hw
          have hr2 : litB T (xE T n) (xP T n) = true → uf = nI (if pxB T (xE T n) (xP T n) then 4 else 3) ∧ ur = nI (pxA T (xE T n) (xP T n)) ∧ ut = nI (lD T (xE T n) (xP T n)) ∧ up = zI (pPw 1000000 (pxB T (xE T n) (xP T n)) T (xE T n) (lD T (xE T n) (xP T n))) := hr2
          subst hr1
          have hP : va_P D vcl [(nm, .inr (3, [.ref x, .int ua, .int (nI (xE T n)), .int (bI (xM T n)), .int uf, .int ur, .int ut, .int up])), (x, .inl (cC, 2400, .inl (tx T)))] H := hP
          have hD : va_D A [(nm, .inr (3, [.ref x, .int ua, .int (nI (xE T n)), .int (bI (xM T n)), .int uf, .int ur, .int ut, .int up])), (x, .inl (cC, 2400, .inl (tx T)))] := hD
          exact rt_i hx hb hrt hlocks (by generalize litB T (xE T n) (xP T n) = b9; cases b9 <;> rfl) ((ua, nI (xE T n), bI (xM T n), uf, ur, ut, up)) (fin_lit e55 e71 hr2) (hP.sub [0, 1] rfl) (hK.sub [0] rfl) (hD.sub [0, 1] (by decide) rfl) hS d_Num_findIn_85
        · have e71 : wdB T (xE T n) (xP T n) 1 = true := tt_of (fun z => c71 ((bI_0 _).mpr z))
          refine lv_aload_n hx hb d_Num_findIn_74 rfl (lv_at hl 0 rfl) ?_
          refine lv_iconst (v := 2) hx hb d_Num_findIn_75 (by decide) ?_
          refine tv_i (nI 2) (rfl) ?_
          refine va_put (D := D) (ci := 3) (v := .int (nI 2)) (ty := .int) (C := R_Num) (T := F_Num) (N := 8) hx hb hts w_Num t_Num tk_Num n_Num hown hK hP hD hS 0 rfl rfl 4 (by decide) (hts _ kF_Num_35) (fun _ h9 => h9) rfl (by decide +kernel) (rfl) (rfl) (Nat.le_of_ble_eq_true rfl) d_Num_findIn_76 (fun H locs hP hD hS => ?_)
          have hP : va_P D vcl [(nm, .inr (3, [.ref x, .int (nI (xP T n)), .int (nI (xE T n)), .int (bI (xM T n)), .int (nI 2), .int fr, .int to, .int po])), (x, .inl (cC, 2400, .inl (tx T)))] H := hP
          have hD : va_D A [(nm, .inr (3, [.ref x, .int (nI (xP T n)), .int (nI (xE T n)), .int (bI (xM T n)), .int (nI 2), .int fr, .int to, .int po])), (x, .inl (cC, 2400, .inl (tx T)))] := hD
          refine lv_iconst (v := 1) hx hb d_Num_findIn_79 (by decide) ?_
          exact rt_i hx hb hrt hlocks (rfl) ((nI (xP T n), nI (xE T n), bI (xM T n), nI 2, fr, to, po)) (fin_2 e55 e71) (hP.sub [0, 1] rfl) (hK.sub [0] rfl) (hD.sub [0, 1] (by decide) rfl) hS d_Num_findIn_80
      · have e55 : wdB T (xE T n) (xP T n) 0 = true := tt_of (fun z => c55 ((bI_0 _).mpr z))
        refine lv_aload_n hx hb d_Num_findIn_58 rfl (lv_at hl 0 rfl) ?_
        refine lv_iconst (v := 1) hx hb d_Num_findIn_59 (by decide) ?_
        refine tv_i (nI 1) (rfl) ?_
        refine va_put (D := D) (ci := 3) (v := .int (nI 1)) (ty := .int) (C := R_Num) (T := F_Num) (N := 8) hx hb hts w_Num t_Num tk_Num n_Num hown hK hP hD hS 0 rfl rfl 4 (by decide) (hts _ kF_Num_35) (fun _ h9 => h9) rfl (by decide +kernel) (rfl) (rfl) (Nat.le_of_ble_eq_true rfl) d_Num_findIn_60 (fun H locs hP hD hS => ?_)
        have hP : va_P D vcl [(nm, .inr (3, [.ref x, .int (nI (xP T n)), .int (nI (xE T n)), .int (bI (xM T n)), .int (nI 1), .int fr, .int to, .int po])), (x, .inl (cC, 2400, .inl (tx T)))] H := hP
        have hD : va_D A [(nm, .inr (3, [.ref x, .int (nI (xP T n)), .int (nI (xE T n)), .int (bI (xM T n)), .int (nI 1), .int fr, .int to, .int po])), (x, .inl (cC, 2400, .inl (tx T)))] := hD
        refine lv_iconst (v := 1) hx hb d_Num_findIn_63 (by decide) ?_
        exact rt_i hx hb hrt hlocks (rfl) ((nI (xP T n), nI (xE T n), bI (xM T n), nI 1, fr, to, po)) (fin_1 e55) (hP.sub [0, 1] rfl) (hK.sub [0] rfl) (hD.sub [0, 1] (by decide) rfl) hS d_Num_findIn_64
    · exact absurd ((bI_0 _).mp c27) (by rw [show xM T n = true from decide_eq_true e12]; decide)
end
