section
-- ===== PART A: goes FIRST, ahead of the names: the tables' words, and 'selects' of the private methods out of them =====
/-- a private method of a class that the tables say can be made, by its rows of tables_1 -/
def lw_okq (q : MethodName × Nat) : Prop := (q.1.cls ≠ "java/lang/invoke/MethodHandle" ∧ q.1.cls ≠ "java/lang/invoke/VarHandle") ∧ Cond.instantiable q.1.cls q.2 ∈ tables_1 ∧ Cond.privateMethod q.1 ∈ tables_1 ∧ Cond.instanceMethod q.1 ∈ tables_1
theorem lw_p0 : lw_okq (⟨"LaceWorks$Reader", "readText", "(II)I"⟩, 4) := ⟨⟨by decide +kernel, by decide +kernel⟩, List.mem_of_getElem? (i := 55) (by decide +kernel), List.mem_of_getElem? (i := 288) (by decide +kernel), List.mem_of_getElem? (i := 289) (by decide +kernel)⟩
theorem lw_p1 : lw_okq (⟨"LaceWorks$Reader", "readPart", "(II)I"⟩, 4) := ⟨⟨by decide +kernel, by decide +kernel⟩, List.mem_of_getElem? (i := 55) (by decide +kernel), List.mem_of_getElem? (i := 292) (by decide +kernel), List.mem_of_getElem? (i := 293) (by decide +kernel)⟩
theorem lw_p2 : lw_okq (⟨"LaceWorks$Reader", "readSign", "(I)V"⟩, 4) := ⟨⟨by decide +kernel, by decide +kernel⟩, List.mem_of_getElem? (i := 55) (by decide +kernel), List.mem_of_getElem? (i := 297) (by decide +kernel), List.mem_of_getElem? (i := 298) (by decide +kernel)⟩
theorem lw_p3 : lw_okq (⟨"LaceWorks", "writeOut", "(LLaceWorks$Row;)V"⟩, 14) := ⟨⟨by decide +kernel, by decide +kernel⟩, List.mem_of_getElem? (i := 16) (by decide +kernel), List.mem_of_getElem? (i := 345) (by decide +kernel), List.mem_of_getElem? (i := 346) (by decide +kernel)⟩
theorem lw_p4 : lw_okq (⟨"LaceWorks", "spell", "(LLaceWorks$Row;I)V"⟩, 14) := ⟨⟨by decide +kernel, by decide +kernel⟩, List.mem_of_getElem? (i := 16) (by decide +kernel), List.mem_of_getElem? (i := 384) (by decide +kernel), List.mem_of_getElem? (i := 385) (by decide +kernel)⟩
theorem lw_p5 : lw_okq (⟨"LaceWorks", "meetings", "(III)I"⟩, 14) := ⟨⟨by decide +kernel, by decide +kernel⟩, List.mem_of_getElem? (i := 16) (by decide +kernel), List.mem_of_getElem? (i := 419) (by decide +kernel), List.mem_of_getElem? (i := 420) (by decide +kernel)⟩
theorem lw_p6 : lw_okq (⟨"LaceWorks$Board", "turnOnce", "()Z"⟩, 2) := ⟨⟨by decide +kernel, by decide +kernel⟩, List.mem_of_getElem? (i := 94) (by decide +kernel), List.mem_of_getElem? (i := 448) (by decide +kernel), List.mem_of_getElem? (i := 449) (by decide +kernel)⟩
theorem lw_p7 : lw_okq (⟨"LaceWorks", "neverChanged", "()I"⟩, 14) := ⟨⟨by decide +kernel, by decide +kernel⟩, List.mem_of_getElem? (i := 16) (by decide +kernel), List.mem_of_getElem? (i := 456) (by decide +kernel), List.mem_of_getElem? (i := 457) (by decide +kernel)⟩
theorem lw_p8 : lw_okq (⟨"LaceWorks", "shorten", "(LLaceWorks$Row;LLaceWorks$Row;)V"⟩, 14) := ⟨⟨by decide +kernel, by decide +kernel⟩, List.mem_of_getElem? (i := 16) (by decide +kernel), List.mem_of_getElem? (i := 476) (by decide +kernel), List.mem_of_getElem? (i := 477) (by decide +kernel)⟩
theorem lw_p9 : lw_okq (⟨"LaceWorks$Shortener", "markWhatStays", "(LLaceWorks$Row;)V"⟩, 4) := ⟨⟨by decide +kernel, by decide +kernel⟩, List.mem_of_getElem? (i := 74) (by decide +kernel), List.mem_of_getElem? (i := 484) (by decide +kernel), List.mem_of_getElem? (i := 485) (by decide +kernel)⟩
theorem lw_p10 : lw_okq (⟨"LaceWorks$Shortener", "isFree", "(I)Z"⟩, 4) := ⟨⟨by decide +kernel, by decide +kernel⟩, List.mem_of_getElem? (i := 74) (by decide +kernel), List.mem_of_getElem? (i := 495) (by decide +kernel), List.mem_of_getElem? (i := 496) (by decide +kernel)⟩
theorem lw_p11 : lw_okq (⟨"LaceWorks$Shortener", "putLeastFirst", "(LLaceWorks$Row;LLaceWorks$Row;)V"⟩, 4) := ⟨⟨by decide +kernel, by decide +kernel⟩, List.mem_of_getElem? (i := 74) (by decide +kernel), List.mem_of_getElem? (i := 499) (by decide +kernel), List.mem_of_getElem? (i := 500) (by decide +kernel)⟩
theorem lw_p12 : lw_okq (⟨"LaceWorks$Shortener", "nextThatStays", "(LLaceWorks$Row;II)I"⟩, 4) := ⟨⟨by decide +kernel, by decide +kernel⟩, List.mem_of_getElem? (i := 74) (by decide +kernel), List.mem_of_getElem? (i := 504) (by decide +kernel), List.mem_of_getElem? (i := 505) (by decide +kernel)⟩
theorem lw_p13 : lw_okq (⟨"LaceWorks$Shortener", "leastPlaceThatCanCome", "(I)I"⟩, 4) := ⟨⟨by decide +kernel, by decide +kernel⟩, List.mem_of_getElem? (i := 74) (by decide +kernel), List.mem_of_getElem? (i := 509) (by decide +kernel), List.mem_of_getElem? (i := 510) (by decide +kernel)⟩
theorem lw_p14 : lw_okq (⟨"LaceWorksModel", "unfold", "()I"⟩, 19) := ⟨⟨by decide +kernel, by decide +kernel⟩, List.mem_of_getElem? (i := 553) (by decide +kernel), List.mem_of_getElem? (i := 643) (by decide +kernel), List.mem_of_getElem? (i := 644) (by decide +kernel)⟩
theorem lw_p15 : lw_okq (⟨"LaceWorksModel", "endOf", "(I)I"⟩, 19) := ⟨⟨by decide +kernel, by decide +kernel⟩, List.mem_of_getElem? (i := 553) (by decide +kernel), List.mem_of_getElem? (i := 647) (by decide +kernel), List.mem_of_getElem? (i := 648) (by decide +kernel)⟩
def lw_privs_1 : List (MethodName × Nat) := [(⟨"LaceWorks$Reader", "readText", "(II)I"⟩, 4), (⟨"LaceWorks$Reader", "readPart", "(II)I"⟩, 4), (⟨"LaceWorks$Reader", "readSign", "(I)V"⟩, 4), (⟨"LaceWorks", "writeOut", "(LLaceWorks$Row;)V"⟩, 14), (⟨"LaceWorks", "spell", "(LLaceWorks$Row;I)V"⟩, 14), (⟨"LaceWorks", "meetings", "(III)I"⟩, 14), (⟨"LaceWorks$Board", "turnOnce", "()Z"⟩, 2), (⟨"LaceWorks", "neverChanged", "()I"⟩, 14), (⟨"LaceWorks", "shorten", "(LLaceWorks$Row;LLaceWorks$Row;)V"⟩, 14), (⟨"LaceWorks$Shortener", "markWhatStays", "(LLaceWorks$Row;)V"⟩, 4), (⟨"LaceWorks$Shortener", "isFree", "(I)Z"⟩, 4), (⟨"LaceWorks$Shortener", "putLeastFirst", "(LLaceWorks$Row;LLaceWorks$Row;)V"⟩, 4), (⟨"LaceWorks$Shortener", "nextThatStays", "(LLaceWorks$Row;II)I"⟩, 4), (⟨"LaceWorks$Shortener", "leastPlaceThatCanCome", "(I)I"⟩, 4), (⟨"LaceWorksModel", "unfold", "()I"⟩, 19), (⟨"LaceWorksModel", "endOf", "(I)I"⟩, 19)]
theorem lw_r1 : ∀ q ∈ lw_privs_1, lw_okq q := List.forall_mem_cons.mpr ⟨lw_p0, List.forall_mem_cons.mpr ⟨lw_p1, List.forall_mem_cons.mpr ⟨lw_p2, List.forall_mem_cons.mpr ⟨lw_p3, List.forall_mem_cons.mpr ⟨lw_p4, List.forall_mem_cons.mpr ⟨lw_p5, List.forall_mem_cons.mpr ⟨lw_p6, List.forall_mem_cons.mpr ⟨lw_p7, List.forall_mem_cons.mpr ⟨lw_p8, List.forall_mem_cons.mpr ⟨lw_p9, List.forall_mem_cons.mpr ⟨lw_p10, List.forall_mem_cons.mpr ⟨lw_p11, List.forall_mem_cons.mpr ⟨lw_p12, List.forall_mem_cons.mpr ⟨lw_p13, List.forall_mem_cons.mpr ⟨lw_p14, List.forall_mem_cons.mpr ⟨lw_p15, fun _ h => absurd h List.not_mem_nil⟩⟩⟩⟩⟩⟩⟩⟩⟩⟩⟩⟩⟩⟩⟩⟩
theorem lw_p16 : lw_okq (⟨"LaceWorksModel", "take", "(II)I"⟩, 19) := ⟨⟨by decide +kernel, by decide +kernel⟩, List.mem_of_getElem? (i := 553) (by decide +kernel), List.mem_of_getElem? (i := 651) (by decide +kernel), List.mem_of_getElem? (i := 652) (by decide +kernel)⟩
theorem lw_p17 : lw_okq (⟨"LaceWorksModel", "many", "(I)I"⟩, 19) := ⟨⟨by decide +kernel, by decide +kernel⟩, List.mem_of_getElem? (i := 553) (by decide +kernel), List.mem_of_getElem? (i := 659) (by decide +kernel), List.mem_of_getElem? (i := 660) (by decide +kernel)⟩
theorem lw_p18 : lw_okq (⟨"LaceWorksModel", "kindOf", "(II)I"⟩, 19) := ⟨⟨by decide +kernel, by decide +kernel⟩, List.mem_of_getElem? (i := 553) (by decide +kernel), List.mem_of_getElem? (i := 667) (by decide +kernel), List.mem_of_getElem? (i := 668) (by decide +kernel)⟩
theorem lw_p19 : lw_okq (⟨"LaceWorksModel", "spotOf", "(II)I"⟩, 19) := ⟨⟨by decide +kernel, by decide +kernel⟩, List.mem_of_getElem? (i := 553) (by decide +kernel), List.mem_of_getElem? (i := 671) (by decide +kernel), List.mem_of_getElem? (i := 672) (by decide +kernel)⟩
theorem lw_p20 : lw_okq (⟨"LaceWorksModel", "goTo", "(II)V"⟩, 19) := ⟨⟨by decide +kernel, by decide +kernel⟩, List.mem_of_getElem? (i := 553) (by decide +kernel), List.mem_of_getElem? (i := 690) (by decide +kernel), List.mem_of_getElem? (i := 691) (by decide +kernel)⟩
theorem lw_p21 : lw_okq (⟨"LaceWorksModel", "layLetters", "(I)V"⟩, 19) := ⟨⟨by decide +kernel, by decide +kernel⟩, List.mem_of_getElem? (i := 553) (by decide +kernel), List.mem_of_getElem? (i := 694) (by decide +kernel), List.mem_of_getElem? (i := 695) (by decide +kernel)⟩
theorem lw_p22 : lw_okq (⟨"LaceWorksModel", "addLetter", "(III)V"⟩, 19) := ⟨⟨by decide +kernel, by decide +kernel⟩, List.mem_of_getElem? (i := 553) (by decide +kernel), List.mem_of_getElem? (i := 698) (by decide +kernel), List.mem_of_getElem? (i := 699) (by decide +kernel)⟩
theorem lw_p23 : lw_okq (⟨"LaceWorksModel", "begin", "()V"⟩, 19) := ⟨⟨by decide +kernel, by decide +kernel⟩, List.mem_of_getElem? (i := 553) (by decide +kernel), List.mem_of_getElem? (i := 702) (by decide +kernel), List.mem_of_getElem? (i := 703) (by decide +kernel)⟩
theorem lw_p24 : lw_okq (⟨"LaceWorksModel", "change", "(I)V"⟩, 19) := ⟨⟨by decide +kernel, by decide +kernel⟩, List.mem_of_getElem? (i := 553) (by decide +kernel), List.mem_of_getElem? (i := 706) (by decide +kernel), List.mem_of_getElem? (i := 707) (by decide +kernel)⟩
theorem lw_p25 : lw_okq (⟨"LaceWorksModel", "pins", "(I)I"⟩, 19) := ⟨⟨by decide +kernel, by decide +kernel⟩, List.mem_of_getElem? (i := 553) (by decide +kernel), List.mem_of_getElem? (i := 718) (by decide +kernel), List.mem_of_getElem? (i := 719) (by decide +kernel)⟩
theorem lw_p26 : lw_okq (⟨"LaceWorksModel", "timesOf", "(I)I"⟩, 19) := ⟨⟨by decide +kernel, by decide +kernel⟩, List.mem_of_getElem? (i := 553) (by decide +kernel), List.mem_of_getElem? (i := 722) (by decide +kernel), List.mem_of_getElem? (i := 723) (by decide +kernel)⟩
theorem lw_p27 : lw_okq (⟨"LaceWorksModel", "asAtFirst", "()I"⟩, 19) := ⟨⟨by decide +kernel, by decide +kernel⟩, List.mem_of_getElem? (i := 553) (by decide +kernel), List.mem_of_getElem? (i := 726) (by decide +kernel), List.mem_of_getElem? (i := 727) (by decide +kernel)⟩
theorem lw_p28 : lw_okq (⟨"LaceWorksModel", "still", "(I)I"⟩, 19) := ⟨⟨by decide +kernel, by decide +kernel⟩, List.mem_of_getElem? (i := 553) (by decide +kernel), List.mem_of_getElem? (i := 730) (by decide +kernel), List.mem_of_getElem? (i := 731) (by decide +kernel)⟩
theorem lw_p29 : lw_okq (⟨"LaceWorksModel", "layShort", "(I)V"⟩, 19) := ⟨⟨by decide +kernel, by decide +kernel⟩, List.mem_of_getElem? (i := 553) (by decide +kernel), List.mem_of_getElem? (i := 746) (by decide +kernel), List.mem_of_getElem? (i := 747) (by decide +kernel)⟩
theorem lw_p30 : lw_okq (⟨"LaceWorksModel", "addLeft", "(I)V"⟩, 19) := ⟨⟨by decide +kernel, by decide +kernel⟩, List.mem_of_getElem? (i := 553) (by decide +kernel), List.mem_of_getElem? (i := 750) (by decide +kernel), List.mem_of_getElem? (i := 751) (by decide +kernel)⟩
theorem lw_p31 : lw_okq (⟨"LaceWorksModel", "front", "()I"⟩, 19) := ⟨⟨by decide +kernel, by decide +kernel⟩, List.mem_of_getElem? (i := 553) (by decide +kernel), List.mem_of_getElem? (i := 760) (by decide +kernel), List.mem_of_getElem? (i := 761) (by decide +kernel)⟩
def lw_privs_2 : List (MethodName × Nat) := [(⟨"LaceWorksModel", "take", "(II)I"⟩, 19), (⟨"LaceWorksModel", "many", "(I)I"⟩, 19), (⟨"LaceWorksModel", "kindOf", "(II)I"⟩, 19), (⟨"LaceWorksModel", "spotOf", "(II)I"⟩, 19), (⟨"LaceWorksModel", "goTo", "(II)V"⟩, 19), (⟨"LaceWorksModel", "layLetters", "(I)V"⟩, 19), (⟨"LaceWorksModel", "addLetter", "(III)V"⟩, 19), (⟨"LaceWorksModel", "begin", "()V"⟩, 19), (⟨"LaceWorksModel", "change", "(I)V"⟩, 19), (⟨"LaceWorksModel", "pins", "(I)I"⟩, 19), (⟨"LaceWorksModel", "timesOf", "(I)I"⟩, 19), (⟨"LaceWorksModel", "asAtFirst", "()I"⟩, 19), (⟨"LaceWorksModel", "still", "(I)I"⟩, 19), (⟨"LaceWorksModel", "layShort", "(I)V"⟩, 19), (⟨"LaceWorksModel", "addLeft", "(I)V"⟩, 19), (⟨"LaceWorksModel", "front", "()I"⟩, 19)]
theorem lw_r2 : ∀ q ∈ lw_privs_2, lw_okq q := List.forall_mem_cons.mpr ⟨lw_p16, List.forall_mem_cons.mpr ⟨lw_p17, List.forall_mem_cons.mpr ⟨lw_p18, List.forall_mem_cons.mpr ⟨lw_p19, List.forall_mem_cons.mpr ⟨lw_p20, List.forall_mem_cons.mpr ⟨lw_p21, List.forall_mem_cons.mpr ⟨lw_p22, List.forall_mem_cons.mpr ⟨lw_p23, List.forall_mem_cons.mpr ⟨lw_p24, List.forall_mem_cons.mpr ⟨lw_p25, List.forall_mem_cons.mpr ⟨lw_p26, List.forall_mem_cons.mpr ⟨lw_p27, List.forall_mem_cons.mpr ⟨lw_p28, List.forall_mem_cons.mpr ⟨lw_p29, List.forall_mem_cons.mpr ⟨lw_p30, List.forall_mem_cons.mpr ⟨lw_p31, fun _ h => absurd h List.not_mem_nil⟩⟩⟩⟩⟩⟩⟩⟩⟩⟩⟩⟩⟩⟩⟩⟩
theorem lw_p32 : lw_okq (⟨"LaceWorksModel", "comesAgain", "(II)Z"⟩, 19) := ⟨⟨by decide +kernel, by decide +kernel⟩, List.mem_of_getElem? (i := 553) (by decide +kernel), List.mem_of_getElem? (i := 772) (by decide +kernel), List.mem_of_getElem? (i := 773) (by decide +kernel)⟩
def lw_privs_3 : List (MethodName × Nat) := [(⟨"LaceWorksModel", "comesAgain", "(II)Z"⟩, 19)]
theorem lw_r3 : ∀ q ∈ lw_privs_3, lw_okq q := List.forall_mem_cons.mpr ⟨lw_p32, fun _ h => absurd h List.not_mem_nil⟩
def lw_privs : List (MethodName × Nat) := lw_privs_1 ++ (lw_privs_2 ++ (lw_privs_3))
def lw_tbl : List Cond := k2_sels lw_privs ++ tables_1
theorem lw_privs_ok : ∀ q ∈ lw_privs, lw_okq q := by
  show ∀ q ∈ lw_privs_1 ++ (lw_privs_2 ++ (lw_privs_3)), lw_okq q
  exact List.forall_mem_append.mpr ⟨lw_r1, List.forall_mem_append.mpr ⟨lw_r2, lw_r3⟩⟩
end
section
def RX0 : String := "LaceWorks$Board"
def TX0 : u_T := fun k => match k with
  | 0 => ("LaceWorks$Board", "lying", "[I", true)
  | _ => ("LaceWorks$Board", "turned", "[I", true)
def tyX0 : Nat → FieldType := fun k => match k with
  | 0 => .array .int
  | _ => .array .int
abbrev wsX00 : List Cond := u_ws RX0 TX0 2
theorem nmX0 : ∀ a, a < 2 → ∀ b, b < 2 → a ≠ b → (TX0 a).2.1 ≠ (TX0 b).2.1 := by decide +kernel
theorem tyX0_ok : ∀ k, k < 2 → parseFieldDescriptor (TX0 k).2.2.1 = some (tyX0 k) := by decide +kernel
abbrev cX0_init : ByteArray := prog_2_method_1_code
def yX0_init : MethodName := ⟨RX0, "<init>", "()V"⟩
abbrev cX0_layAsAtFirst : ByteArray := prog_2_method_2_code
def yX0_layAsAtFirst : MethodName := ⟨RX0, "layAsAtFirst", "()V"⟩
abbrev cX0_layBehind : ByteArray := prog_2_method_3_code
def yX0_layBehind : MethodName := ⟨RX0, "layBehind", "(LLaceWorks$Row;)V"⟩
abbrev cX0_bobbinAt : ByteArray := prog_2_method_4_code
def yX0_bobbinAt : MethodName := ⟨RX0, "bobbinAt", "(I)I"⟩
abbrev cX0_upper : ByteArray := prog_2_method_5_code
def yX0_upper : MethodName := ⟨RX0, "upper", "(I)I"⟩
abbrev cX0_lower : ByteArray := prog_2_method_6_code
def yX0_lower : MethodName := ⟨RX0, "lower", "(I)I"⟩
abbrev cX0_swap : ByteArray := prog_2_method_7_code
def yX0_swap : MethodName := ⟨RX0, "swap", "(I)V"⟩
abbrev cX0_lyingAsAtFirst : ByteArray := prog_2_method_8_code
def yX0_lyingAsAtFirst : MethodName := ⟨RX0, "lyingAsAtFirst", "()I"⟩
abbrev cX0_turnsTillAsAtFirst : ByteArray := prog_2_method_9_code
def yX0_turnsTillAsAtFirst : MethodName := ⟨RX0, "turnsTillAsAtFirst", "()I"⟩
abbrev cX0_turnOnce : ByteArray := prog_2_method_10_code
def yX0_turnOnce : MethodName := ⟨RX0, "turnOnce", "()Z"⟩
def RX1 : String := "LaceWorks$Reader"
def TX1 : u_T := fun k => match k with
  | 0 => ("LaceWorks$Reader", "signs", "LLaceWorks$Row;", true)
  | 1 => ("LaceWorks$Reader", "steps", "LLaceWorks$Row;", true)
  | 2 => ("LaceWorks$Reader", "spot", "I", false)
  | _ => ("LaceWorks$Reader", "tooMany", "Z", false)
def tyX1 : Nat → FieldType := fun k => match k with
  | 0 => .object "LaceWorks$Row"
  | 1 => .object "LaceWorks$Row"
  | 2 => .int
  | _ => .boolean
abbrev wsX10 : List Cond := u_ws RX1 TX1 4
theorem nmX1 : ∀ a, a < 4 → ∀ b, b < 4 → a ≠ b → (TX1 a).2.1 ≠ (TX1 b).2.1 := by decide +kernel
theorem tyX1_ok : ∀ k, k < 4 → parseFieldDescriptor (TX1 k).2.2.1 = some (tyX1 k) := by decide +kernel
abbrev cX1_init : ByteArray := prog_3_method_1_code
def yX1_init : MethodName := ⟨RX1, "<init>", "(LLaceWorks$Row;LLaceWorks$Row;)V"⟩
abbrev cX1_faultPlace : ByteArray := prog_3_method_2_code
def yX1_faultPlace : MethodName := ⟨RX1, "faultPlace", "()I"⟩
abbrev cX1_canStand : ByteArray := prog_3_method_3_code
def yX1_canStand : MethodName := ⟨RX1, "canStand", "(IIZ)Z"⟩
abbrev cX1_isSpot : ByteArray := prog_3_method_4_code
def yX1_isSpot : MethodName := ⟨RX1, "isSpot", "(I)Z"⟩
abbrev cX1_readSteps : ByteArray := prog_3_method_5_code
def yX1_readSteps : MethodName := ⟨RX1, "readSteps", "()Z"⟩
abbrev cX1_readText : ByteArray := prog_3_method_6_code
def yX1_readText : MethodName := ⟨RX1, "readText", "(II)I"⟩
abbrev cX1_readPart : ByteArray := prog_3_method_7_code
def yX1_readPart : MethodName := ⟨RX1, "readPart", "(II)I"⟩
abbrev cX1_readSign : ByteArray := prog_3_method_8_code
def yX1_readSign : MethodName := ⟨RX1, "readSign", "(I)V"⟩
def RX2 : String := "LaceWorks$Row"
def TX2 : u_T := fun k => match k with
  | 0 => ("LaceWorks$Row", "items", "[I", true)
  | _ => ("LaceWorks$Row", "size", "I", false)
def tyX2 : Nat → FieldType := fun k => match k with
  | 0 => .array .int
  | _ => .int
abbrev wsX20 : List Cond := u_ws RX2 TX2 2
theorem nmX2 : ∀ a, a < 2 → ∀ b, b < 2 → a ≠ b → (TX2 a).2.1 ≠ (TX2 b).2.1 := by decide +kernel
theorem tyX2_ok : ∀ k, k < 2 → parseFieldDescriptor (TX2 k).2.2.1 = some (tyX2 k) := by decide +kernel
abbrev cX2_init : ByteArray := prog_4_method_1_code
def yX2_init : MethodName := ⟨RX2, "<init>", "(I)V"⟩
abbrev cX2_size : ByteArray := prog_4_method_2_code
def yX2_size : MethodName := ⟨RX2, "size", "()I"⟩
abbrev cX2_get : ByteArray := prog_4_method_3_code
def yX2_get : MethodName := ⟨RX2, "get", "(I)I"⟩
abbrev cX2_add : ByteArray := prog_4_method_4_code
def yX2_add : MethodName := ⟨RX2, "add", "(I)Z"⟩
abbrev cX2_clear : ByteArray := prog_4_method_5_code
def yX2_clear : MethodName := ⟨RX2, "clear", "()V"⟩
abbrev cX2_addAll : ByteArray := prog_4_method_6_code
def yX2_addAll : MethodName := ⟨RX2, "addAll", "(LLaceWorks$Row;)V"⟩
abbrev cX2_become : ByteArray := prog_4_method_7_code
def yX2_become : MethodName := ⟨RX2, "become", "(LLaceWorks$Row;)V"⟩
abbrev cX2_isLike : ByteArray := prog_4_method_8_code
def yX2_isLike : MethodName := ⟨RX2, "isLike", "(LLaceWorks$Row;)Z"⟩
abbrev cX2_comesAgainAfter : ByteArray := prog_4_method_9_code
def yX2_comesAgainAfter : MethodName := ⟨RX2, "comesAgainAfter", "(I)Z"⟩
def RX3 : String := "LaceWorks$Shortener"
def TX3 : u_T := fun k => match k with
  | 0 => ("LaceWorks$Shortener", "before", "[I", true)
  | 1 => ("LaceWorks$Shortener", "stays", "[Z", true)
  | 2 => ("LaceWorks$Shortener", "last", "[I", true)
  | _ => ("LaceWorks$Shortener", "next", "[I", true)
def tyX3 : Nat → FieldType := fun k => match k with
  | 0 => .array .int
  | 1 => .array .boolean
  | 2 => .array .int
  | _ => .array .int
abbrev wsX30 : List Cond := u_ws RX3 TX3 4
theorem nmX3 : ∀ a, a < 4 → ∀ b, b < 4 → a ≠ b → (TX3 a).2.1 ≠ (TX3 b).2.1 := by decide +kernel
theorem tyX3_ok : ∀ k, k < 4 → parseFieldDescriptor (TX3 k).2.2.1 = some (tyX3 k) := by decide +kernel
abbrev cX3_init : ByteArray := prog_5_method_1_code
def yX3_init : MethodName := ⟨RX3, "<init>", "()V"⟩
abbrev cX3_shortForm : ByteArray := prog_5_method_2_code
def yX3_shortForm : MethodName := ⟨RX3, "shortForm", "(LLaceWorks$Row;LLaceWorks$Row;)V"⟩
abbrev cX3_markWhatStays : ByteArray := prog_5_method_3_code
def yX3_markWhatStays : MethodName := ⟨RX3, "markWhatStays", "(LLaceWorks$Row;)V"⟩
abbrev cX3_isFree : ByteArray := prog_5_method_4_code
def yX3_isFree : MethodName := ⟨RX3, "isFree", "(I)Z"⟩
abbrev cX3_putLeastFirst : ByteArray := prog_5_method_5_code
def yX3_putLeastFirst : MethodName := ⟨RX3, "putLeastFirst", "(LLaceWorks$Row;LLaceWorks$Row;)V"⟩
abbrev cX3_nextThatStays : ByteArray := prog_5_method_6_code
def yX3_nextThatStays : MethodName := ⟨RX3, "nextThatStays", "(LLaceWorks$Row;II)I"⟩
abbrev cX3_leastPlaceThatCanCome : ByteArray := prog_5_method_7_code
def yX3_leastPlaceThatCanCome : MethodName := ⟨RX3, "leastPlaceThatCanCome", "(I)I"⟩
def RX4 : String := "LaceWorks$Works"
def TX4 : u_T := fun k => match k with
  | _ => ("LaceWorks$Works", "rows", "[LLaceWorks$Row;", true)
def tyX4 : Nat → FieldType := fun k => match k with
  | _ => .array (.object "LaceWorks$Row")
abbrev wsX40 : List Cond := u_ws RX4 TX4 1
theorem nmX4 : ∀ a, a < 1 → ∀ b, b < 1 → a ≠ b → (TX4 a).2.1 ≠ (TX4 b).2.1 := by decide +kernel
theorem tyX4_ok : ∀ k, k < 1 → parseFieldDescriptor (TX4 k).2.2.1 = some (tyX4 k) := by decide +kernel
abbrev cX4_init : ByteArray := prog_6_method_1_code
def yX4_init : MethodName := ⟨RX4, "<init>", "()V"⟩
abbrev cX4_row : ByteArray := prog_6_method_2_code
def yX4_row : MethodName := ⟨RX4, "row", "(I)LLaceWorks$Row;"⟩
abbrev cX4_become : ByteArray := prog_6_method_3_code
def yX4_become : MethodName := ⟨RX4, "become", "(LLaceWorks$Works;)V"⟩
abbrev cX4_stepsInAll : ByteArray := prog_6_method_4_code
def yX4_stepsInAll : MethodName := ⟨RX4, "stepsInAll", "()I"⟩
def RX5 : String := "LaceWorks"
def TX5 : u_T := fun k => match k with
  | 0 => ("LaceWorks", "pad", "LLaceWorks$Row;", true)
  | 1 => ("LaceWorks", "draft", "LLaceWorks$Row;", true)
  | 2 => ("LaceWorks", "script", "LLaceWorks$Row;", true)
  | 3 => ("LaceWorks", "letters", "LLaceWorks$Row;", true)
  | 4 => ("LaceWorks", "letterSteps", "LLaceWorks$Row;", true)
  | 5 => ("LaceWorks", "shortOne", "LLaceWorks$Row;", true)
  | 6 => ("LaceWorks", "shortOther", "LLaceWorks$Row;", true)
  | 7 => ("LaceWorks", "works", "LLaceWorks$Works;", true)
  | 8 => ("LaceWorks", "images", "[LLaceWorks$Works;", true)
  | 9 => ("LaceWorks", "reader", "LLaceWorks$Reader;", true)
  | 10 => ("LaceWorks", "shortener", "LLaceWorks$Shortener;", true)
  | 11 => ("LaceWorks", "board", "LLaceWorks$Board;", true)
  | 12 => ("LaceWorks", "keptImages", "I", false)
  | _ => ("LaceWorks", "toldFault", "I", false)
def tyX5 : Nat → FieldType := fun k => match k with
  | 0 => .object "LaceWorks$Row"
  | 1 => .object "LaceWorks$Row"
  | 2 => .object "LaceWorks$Row"
  | 3 => .object "LaceWorks$Row"
  | 4 => .object "LaceWorks$Row"
  | 5 => .object "LaceWorks$Row"
  | 6 => .object "LaceWorks$Row"
  | 7 => .object "LaceWorks$Works"
  | 8 => .array (.object "LaceWorks$Works")
  | 9 => .object "LaceWorks$Reader"
  | 10 => .object "LaceWorks$Shortener"
  | 11 => .object "LaceWorks$Board"
  | 12 => .int
  | _ => .int
abbrev wsX50 : List Cond := u_ws RX5 TX5 14
theorem nmX5 : ∀ a, a < 14 → ∀ b, b < 14 → a ≠ b → (TX5 a).2.1 ≠ (TX5 b).2.1 := by decide +kernel
theorem tyX5_ok : ∀ k, k < 14 → parseFieldDescriptor (TX5 k).2.2.1 = some (tyX5 k) := by decide +kernel
abbrev cX5_init : ByteArray := prog_1_method_1_code
def yX5_init : MethodName := ⟨RX5, "<init>", "()V"⟩
abbrev cX5_say : ByteArray := prog_1_method_2_code
def yX5_say : MethodName := ⟨RX5, "say", "(I)I"⟩
abbrev cX5_wipe : ByteArray := prog_1_method_3_code
def yX5_wipe : MethodName := ⟨RX5, "wipe", "()I"⟩
abbrev cX5_fault : ByteArray := prog_1_method_4_code
def yX5_fault : MethodName := ⟨RX5, "fault", "()I"⟩
abbrev cX5_work : ByteArray := prog_1_method_5_code
def yX5_work : MethodName := ⟨RX5, "work", "(I)I"⟩
abbrev cX5_join : ByteArray := prog_1_method_6_code
def yX5_join : MethodName := ⟨RX5, "join", "(III)I"⟩
abbrev cX5_undone : ByteArray := prog_1_method_7_code
def yX5_undone : MethodName := ⟨RX5, "undone", "(II)I"⟩
abbrev cX5_step : ByteArray := prog_1_method_8_code
def yX5_step : MethodName := ⟨RX5, "step", "(III)I"⟩
abbrev cX5_written : ByteArray := prog_1_method_9_code
def yX5_written : MethodName := ⟨RX5, "written", "(II)I"⟩
abbrev cX5_at : ByteArray := prog_1_method_10_code
def yX5_at : MethodName := ⟨RX5, "at", "(III)I"⟩
abbrev cX5_met : ByteArray := prog_1_method_11_code
def yX5_met : MethodName := ⟨RX5, "met", "(IIII)I"⟩
abbrev cX5_told : ByteArray := prog_1_method_12_code
def yX5_told : MethodName := ⟨RX5, "told", "(II)I"⟩
abbrev cX5_pin : ByteArray := prog_1_method_13_code
def yX5_pin : MethodName := ⟨RX5, "pin", "(III)I"⟩
abbrev cX5_letter : ByteArray := prog_1_method_14_code
def yX5_letter : MethodName := ⟨RX5, "letter", "(II)I"⟩
abbrev cX5_shortest : ByteArray := prog_1_method_15_code
def yX5_shortest : MethodName := ⟨RX5, "shortest", "(II)I"⟩
abbrev cX5_same : ByteArray := prog_1_method_16_code
def yX5_same : MethodName := ⟨RX5, "same", "(II)I"⟩
abbrev cX5_part : ByteArray := prog_1_method_17_code
def yX5_part : MethodName := ⟨RX5, "part", "(I)I"⟩
abbrev cX5_image : ByteArray := prog_1_method_18_code
def yX5_image : MethodName := ⟨RX5, "image", "(I)I"⟩
abbrev cX5_restore : ByteArray := prog_1_method_19_code
def yX5_restore : MethodName := ⟨RX5, "restore", "(I)I"⟩
abbrev cX5_count : ByteArray := prog_1_method_20_code
def yX5_count : MethodName := ⟨RX5, "count", "(I)I"⟩
abbrev cX5_stepOf : ByteArray := prog_1_method_21_code
def yX5_stepOf : MethodName := ⟨RX5, "stepOf", "(II)I"⟩
abbrev cX5_kindOf : ByteArray := prog_1_method_22_code
def yX5_kindOf : MethodName := ⟨RX5, "kindOf", "(I)I"⟩
abbrev cX5_spotOf : ByteArray := prog_1_method_23_code
def yX5_spotOf : MethodName := ⟨RX5, "spotOf", "(I)I"⟩
abbrev cX5_opposite : ByteArray := prog_1_method_24_code
def yX5_opposite : MethodName := ⟨RX5, "opposite", "(I)I"⟩
abbrev cX5_changesIn : ByteArray := prog_1_method_25_code
def yX5_changesIn : MethodName := ⟨RX5, "changesIn", "(I)I"⟩
abbrev cX5_letterOf : ByteArray := prog_1_method_26_code
def yX5_letterOf : MethodName := ⟨RX5, "letterOf", "(II)I"⟩
abbrev cX5_placeOf : ByteArray := prog_1_method_27_code
def yX5_placeOf : MethodName := ⟨RX5, "placeOf", "(I)I"⟩
abbrev cX5_isRightOver : ByteArray := prog_1_method_28_code
def yX5_isRightOver : MethodName := ⟨RX5, "isRightOver", "(I)Z"⟩
abbrev cX5_isPlace : ByteArray := prog_1_method_29_code
def yX5_isPlace : MethodName := ⟨RX5, "isPlace", "(I)Z"⟩
abbrev cX5_sizeOrItem : ByteArray := prog_1_method_30_code
def yX5_sizeOrItem : MethodName := ⟨RX5, "sizeOrItem", "(LLaceWorks$Row;I)I"⟩
abbrev cX5_writeOut : ByteArray := prog_1_method_31_code
def yX5_writeOut : MethodName := ⟨RX5, "writeOut", "(LLaceWorks$Row;)V"⟩
abbrev cX5_signOf : ByteArray := prog_1_method_32_code
def yX5_signOf : MethodName := ⟨RX5, "signOf", "(I)I"⟩
abbrev cX5_spell : ByteArray := prog_1_method_33_code
def yX5_spell : MethodName := ⟨RX5, "spell", "(LLaceWorks$Row;I)V"⟩
abbrev cX5_shorten : ByteArray := prog_1_method_34_code
def yX5_shorten : MethodName := ⟨RX5, "shorten", "(LLaceWorks$Row;LLaceWorks$Row;)V"⟩
abbrev cX5_meetings : ByteArray := prog_1_method_35_code
def yX5_meetings : MethodName := ⟨RX5, "meetings", "(III)I"⟩
abbrev cX5_neverChanged : ByteArray := prog_1_method_36_code
def yX5_neverChanged : MethodName := ⟨RX5, "neverChanged", "()I"⟩
abbrev cX5_pinsIn : ByteArray := prog_1_method_37_code
def yX5_pinsIn : MethodName := ⟨RX5, "pinsIn", "(LLaceWorks$Row;)I"⟩
abbrev cX5_pinStep : ByteArray := prog_1_method_38_code
def yX5_pinStep : MethodName := ⟨RX5, "pinStep", "(LLaceWorks$Row;I)I"⟩
def RX6 : String := "LaceWorksModel"
def TX6 : u_T := fun k => match k with
  | 0 => ("LaceWorksModel", "state", "[I", true)
  | 1 => ("LaceWorksModel", "images", "[I", true)
  | 2 => ("LaceWorksModel", "isKept", "[Z", true)
  | 3 => ("LaceWorksModel", "pad", "[I", true)
  | 4 => ("LaceWorksModel", "said", "I", false)
  | 5 => ("LaceWorksModel", "told", "I", false)
  | 6 => ("LaceWorksModel", "begins", "[I", true)
  | 7 => ("LaceWorksModel", "times", "[I", true)
  | 8 => ("LaceWorksModel", "made", "[I", true)
  | 9 => ("LaceWorksModel", "row", "[I", true)
  | 10 => ("LaceWorksModel", "letters", "[I", true)
  | 11 => ("LaceWorksModel", "stepOf", "[I", true)
  | 12 => ("LaceWorksModel", "letterMany", "I", false)
  | 13 => ("LaceWorksModel", "bobbins", "[I", true)
  | 14 => ("LaceWorksModel", "left", "[I", true)
  | 15 => ("LaceWorksModel", "leftMany", "I", false)
  | 16 => ("LaceWorksModel", "shortRow", "[I", true)
  | 17 => ("LaceWorksModel", "shortMany", "I", false)
  | _ => ("LaceWorksModel", "otherRow", "[I", true)
def tyX6 : Nat → FieldType := fun k => match k with
  | 0 => .array .int
  | 1 => .array .int
  | 2 => .array .boolean
  | 3 => .array .int
  | 4 => .int
  | 5 => .int
  | 6 => .array .int
  | 7 => .array .int
  | 8 => .array .int
  | 9 => .array .int
  | 10 => .array .int
  | 11 => .array .int
  | 12 => .int
  | 13 => .array .int
  | 14 => .array .int
  | 15 => .int
  | 16 => .array .int
  | 17 => .int
  | _ => .array .int
abbrev wsX60 : List Cond := u_ws RX6 TX6 19
theorem nmX6 : ∀ a, a < 19 → ∀ b, b < 19 → a ≠ b → (TX6 a).2.1 ≠ (TX6 b).2.1 := by decide +kernel
theorem tyX6_ok : ∀ k, k < 19 → parseFieldDescriptor (TX6 k).2.2.1 = some (tyX6 k) := by decide +kernel
abbrev cX6_init : ByteArray := prog_8_method_1_code
def yX6_init : MethodName := ⟨RX6, "<init>", "()V"⟩
abbrev cX6_in : ByteArray := prog_8_method_2_code
def yX6_in : MethodName := ⟨RX6, "in", "(III)Z"⟩
abbrev cX6_isWork : ByteArray := prog_8_method_3_code
def yX6_isWork : MethodName := ⟨RX6, "isWork", "(I)Z"⟩
abbrev cX6_many : ByteArray := prog_8_method_4_code
def yX6_many : MethodName := ⟨RX6, "many", "(I)I"⟩
abbrev cX6_kindOf : ByteArray := prog_8_method_5_code
def yX6_kindOf : MethodName := ⟨RX6, "kindOf", "(II)I"⟩
abbrev cX6_spotOf : ByteArray := prog_8_method_6_code
def yX6_spotOf : MethodName := ⟨RX6, "spotOf", "(II)I"⟩
abbrev cX6_say : ByteArray := prog_8_method_7_code
def yX6_say : MethodName := ⟨RX6, "say", "(I)I"⟩
abbrev cX6_wipe : ByteArray := prog_8_method_8_code
def yX6_wipe : MethodName := ⟨RX6, "wipe", "()I"⟩
abbrev cX6_kindBy : ByteArray := prog_8_method_9_code
def yX6_kindBy : MethodName := ⟨RX6, "kindBy", "(I)I"⟩
abbrev cX6_fault : ByteArray := prog_8_method_10_code
def yX6_fault : MethodName := ⟨RX6, "fault", "()I"⟩
abbrev cX6_endOf : ByteArray := prog_8_method_11_code
def yX6_endOf : MethodName := ⟨RX6, "endOf", "(I)I"⟩
abbrev cX6_unfold : ByteArray := prog_8_method_12_code
def yX6_unfold : MethodName := ⟨RX6, "unfold", "()I"⟩
abbrev cX6_take : ByteArray := prog_8_method_13_code
def yX6_take : MethodName := ⟨RX6, "take", "(II)I"⟩
abbrev cX6_work : ByteArray := prog_8_method_14_code
def yX6_work : MethodName := ⟨RX6, "work", "(I)I"⟩
abbrev cX6_join : ByteArray := prog_8_method_15_code
def yX6_join : MethodName := ⟨RX6, "join", "(III)I"⟩
abbrev cX6_undone : ByteArray := prog_8_method_16_code
def yX6_undone : MethodName := ⟨RX6, "undone", "(II)I"⟩
abbrev cX6_step : ByteArray := prog_8_method_17_code
def yX6_step : MethodName := ⟨RX6, "step", "(III)I"⟩
abbrev cX6_signOf : ByteArray := prog_8_method_18_code
def yX6_signOf : MethodName := ⟨RX6, "signOf", "(I)I"⟩
abbrev cX6_written : ByteArray := prog_8_method_19_code
def yX6_written : MethodName := ⟨RX6, "written", "(II)I"⟩
abbrev cX6_addLetter : ByteArray := prog_8_method_20_code
def yX6_addLetter : MethodName := ⟨RX6, "addLetter", "(III)V"⟩
abbrev cX6_layLetters : ByteArray := prog_8_method_21_code
def yX6_layLetters : MethodName := ⟨RX6, "layLetters", "(I)V"⟩
abbrev cX6_begin : ByteArray := prog_8_method_22_code
def yX6_begin : MethodName := ⟨RX6, "begin", "()V"⟩
abbrev cX6_change : ByteArray := prog_8_method_23_code
def yX6_change : MethodName := ⟨RX6, "change", "(I)V"⟩
abbrev cX6_goTo : ByteArray := prog_8_method_24_code
def yX6_goTo : MethodName := ⟨RX6, "goTo", "(II)V"⟩
abbrev cX6_at : ByteArray := prog_8_method_25_code
def yX6_at : MethodName := ⟨RX6, "at", "(III)I"⟩
abbrev cX6_met : ByteArray := prog_8_method_26_code
def yX6_met : MethodName := ⟨RX6, "met", "(IIII)I"⟩
abbrev cX6_pins : ByteArray := prog_8_method_27_code
def yX6_pins : MethodName := ⟨RX6, "pins", "(I)I"⟩
abbrev cX6_asAtFirst : ByteArray := prog_8_method_28_code
def yX6_asAtFirst : MethodName := ⟨RX6, "asAtFirst", "()I"⟩
abbrev cX6_timesOf : ByteArray := prog_8_method_29_code
def yX6_timesOf : MethodName := ⟨RX6, "timesOf", "(I)I"⟩
abbrev cX6_still : ByteArray := prog_8_method_30_code
def yX6_still : MethodName := ⟨RX6, "still", "(I)I"⟩
abbrev cX6_told : ByteArray := prog_8_method_31_code
def yX6_told : MethodName := ⟨RX6, "told", "(II)I"⟩
abbrev cX6_pin : ByteArray := prog_8_method_32_code
def yX6_pin : MethodName := ⟨RX6, "pin", "(III)I"⟩
abbrev cX6_letter : ByteArray := prog_8_method_33_code
def yX6_letter : MethodName := ⟨RX6, "letter", "(II)I"⟩
abbrev cX6_apart : ByteArray := prog_8_method_34_code
def yX6_apart : MethodName := ⟨RX6, "apart", "(II)Z"⟩
abbrev cX6_removeAt : ByteArray := prog_8_method_35_code
def yX6_removeAt : MethodName := ⟨RX6, "removeAt", "([III)V"⟩
abbrev cX6_addLeft : ByteArray := prog_8_method_36_code
def yX6_addLeft : MethodName := ⟨RX6, "addLeft", "(I)V"⟩
abbrev cX6_front : ByteArray := prog_8_method_37_code
def yX6_front : MethodName := ⟨RX6, "front", "()I"⟩
abbrev cX6_layShort : ByteArray := prog_8_method_38_code
def yX6_layShort : MethodName := ⟨RX6, "layShort", "(I)V"⟩
abbrev cX6_shortest : ByteArray := prog_8_method_39_code
def yX6_shortest : MethodName := ⟨RX6, "shortest", "(II)I"⟩
abbrev cX6_same : ByteArray := prog_8_method_40_code
def yX6_same : MethodName := ⟨RX6, "same", "(II)I"⟩
abbrev cX6_comesAgain : ByteArray := prog_8_method_41_code
def yX6_comesAgain : MethodName := ⟨RX6, "comesAgain", "(II)Z"⟩
abbrev cX6_part : ByteArray := prog_8_method_42_code
def yX6_part : MethodName := ⟨RX6, "part", "(I)I"⟩
abbrev cX6_image : ByteArray := prog_8_method_43_code
def yX6_image : MethodName := ⟨RX6, "image", "(I)I"⟩
abbrev cX6_restore : ByteArray := prog_8_method_44_code
def yX6_restore : MethodName := ⟨RX6, "restore", "(I)I"⟩
abbrev cX6_count : ByteArray := prog_8_method_45_code
def yX6_count : MethodName := ⟨RX6, "count", "(I)I"⟩
def RJx145de : String := "java/io/Serializable"
def TJx145de : u_T := fun k => match k with
  | _ => ("", "", "", false)
def tyJx145de : Nat → FieldType := fun k => match k with
  | _ => .int
abbrev wsJx145de0 : List Cond := u_ws RJx145de TJx145de 0
theorem nmJx145de : ∀ a, a < 0 → ∀ b, b < 0 → a ≠ b → (TJx145de a).2.1 ≠ (TJx145de b).2.1 := by decide +kernel
theorem tyJx145de_ok : ∀ k, k < 0 → parseFieldDescriptor (TJx145de k).2.2.1 = some (tyJx145de k) := by decide +kernel
def RJx9f9b0 : String := "java/lang/CharSequence"
def TJx9f9b0 : u_T := fun k => match k with
  | _ => ("", "", "", false)
def tyJx9f9b0 : Nat → FieldType := fun k => match k with
  | _ => .int
abbrev wsJx9f9b00 : List Cond := u_ws RJx9f9b0 TJx9f9b0 0
theorem nmJx9f9b0 : ∀ a, a < 0 → ∀ b, b < 0 → a ≠ b → (TJx9f9b0 a).2.1 ≠ (TJx9f9b0 b).2.1 := by decide +kernel
theorem tyJx9f9b0_ok : ∀ k, k < 0 → parseFieldDescriptor (TJx9f9b0 k).2.2.1 = some (tyJx9f9b0 k) := by decide +kernel
def RJ11 : String := "java/lang/Character"
def TJ11 : u_T := fun k => match k with
  | _ => ("", "", "", false)
def tyJ11 : Nat → FieldType := fun k => match k with
  | _ => .int
abbrev wsJ110 : List Cond := u_ws RJ11 TJ11 0
theorem nmJ11 : ∀ a, a < 0 → ∀ b, b < 0 → a ≠ b → (TJ11 a).2.1 ≠ (TJ11 b).2.1 := by decide +kernel
theorem tyJ11_ok : ∀ k, k < 0 → parseFieldDescriptor (TJ11 k).2.2.1 = some (tyJ11 k) := by decide +kernel
abbrev cJ11_isValidCodePoint_9a6ad : ByteArray := prog_9_method_11_code
def yJ11_isValidCodePoint_9a6ad : MethodName := ⟨RJ11, "isValidCodePoint", "(I)Z"⟩
abbrev cJ11_highSurrogate_5068e : ByteArray := prog_9_method_28_code
def yJ11_highSurrogate_5068e : MethodName := ⟨RJ11, "highSurrogate", "(I)C"⟩
abbrev cJ11_lowSurrogate_5068e : ByteArray := prog_9_method_29_code
def yJ11_lowSurrogate_5068e : MethodName := ⟨RJ11, "lowSurrogate", "(I)C"⟩
def RJxb160c : String := "java/lang/Comparable"
def TJxb160c : u_T := fun k => match k with
  | _ => ("", "", "", false)
def tyJxb160c : Nat → FieldType := fun k => match k with
  | _ => .int
abbrev wsJxb160c0 : List Cond := u_ws RJxb160c TJxb160c 0
theorem nmJxb160c : ∀ a, a < 0 → ∀ b, b < 0 → a ≠ b → (TJxb160c a).2.1 ≠ (TJxb160c b).2.1 := by decide +kernel
theorem tyJxb160c_ok : ∀ k, k < 0 → parseFieldDescriptor (TJxb160c k).2.2.1 = some (tyJxb160c k) := by decide +kernel
def RJ9 : String := "java/lang/Math"
def TJ9 : u_T := fun k => match k with
  | _ => ("", "", "", false)
def tyJ9 : Nat → FieldType := fun k => match k with
  | _ => .int
abbrev wsJ90 : List Cond := u_ws RJ9 TJ9 0
theorem nmJ9 : ∀ a, a < 0 → ∀ b, b < 0 → a ≠ b → (TJ9 a).2.1 ≠ (TJ9 b).2.1 := by decide +kernel
theorem tyJ9_ok : ∀ k, k < 0 → parseFieldDescriptor (TJ9 k).2.2.1 = some (tyJ9 k) := by decide +kernel
abbrev cJ9_max_7cf53 : ByteArray := prog_10_method_65_code
def yJ9_max_7cf53 : MethodName := ⟨RJ9, "max", "(II)I"⟩
abbrev cJ9_min_7cf53 : ByteArray := prog_10_method_69_code
def yJ9_min_7cf53 : MethodName := ⟨RJ9, "min", "(II)I"⟩
def RJ0 : String := "java/lang/String"
def TJ0 : u_T := fun k => match k with
  | _ => ("", "", "", false)
def tyJ0 : Nat → FieldType := fun k => match k with
  | _ => .int
abbrev wsJ00 : List Cond := u_ws RJ0 TJ0 0
theorem nmJ0 : ∀ a, a < 0 → ∀ b, b < 0 → a ≠ b → (TJ0 a).2.1 ≠ (TJ0 b).2.1 := by decide +kernel
theorem tyJ0_ok : ∀ k, k < 0 → parseFieldDescriptor (TJ0 k).2.2.1 = some (tyJ0 k) := by decide +kernel
abbrev cJ0_length_8abf5 : ByteArray := prog_11_method_54_code
def yJ0_length_8abf5 : MethodName := ⟨RJ0, "length", "()I"⟩
abbrev cJ0_charAt_5068e : ByteArray := prog_11_method_56_code
def yJ0_charAt_5068e : MethodName := ⟨RJ0, "charAt", "(I)C"⟩
abbrev cJ0_indexOf_0f7a4 : ByteArray := prog_11_method_79_code
def yJ0_indexOf_0f7a4 : MethodName := ⟨RJ0, "indexOf", "(I)I"⟩
abbrev cJ0_indexOf_7cf53 : ByteArray := prog_11_method_80_code
def yJ0_indexOf_7cf53 : MethodName := ⟨RJ0, "indexOf", "(II)I"⟩
abbrev cJ0_coder_7d493 : ByteArray := prog_11_method_152_code
def yJ0_coder_7d493 : MethodName := ⟨RJ0, "coder", "()B"⟩
abbrev cJ0_isLatin1_aae02 : ByteArray := prog_11_method_154_code
def yJ0_isLatin1_aae02 : MethodName := ⟨RJ0, "isLatin1", "()Z"⟩
abbrev cJ0_checkIndex_df160 : ByteArray := prog_11_method_155_code
def yJ0_checkIndex_df160 : MethodName := ⟨RJ0, "checkIndex", "(II)V"⟩
abbrev cJ0_checkBoundsBeginEnd_23922 : ByteArray := prog_11_method_158_code
def yJ0_checkBoundsBeginEnd_23922 : MethodName := ⟨RJ0, "checkBoundsBeginEnd", "(III)V"⟩
def RJ1 : String := "java/lang/StringLatin1"
def TJ1 : u_T := fun k => match k with
  | _ => ("", "", "", false)
def tyJ1 : Nat → FieldType := fun k => match k with
  | _ => .int
abbrev wsJ10 : List Cond := u_ws RJ1 TJ1 0
theorem nmJ1 : ∀ a, a < 0 → ∀ b, b < 0 → a ≠ b → (TJ1 a).2.1 ≠ (TJ1 b).2.1 := by decide +kernel
theorem tyJ1_ok : ∀ k, k < 0 → parseFieldDescriptor (TJ1 k).2.2.1 = some (tyJ1 k) := by decide +kernel
abbrev cJ1_charAt_3b067 : ByteArray := prog_12_method_2_code
def yJ1_charAt_3b067 : MethodName := ⟨RJ1, "charAt", "([BI)C"⟩
abbrev cJ1_canEncode_9a6ad : ByteArray := prog_12_method_4_code
def yJ1_canEncode_9a6ad : MethodName := ⟨RJ1, "canEncode", "(I)Z"⟩
abbrev cJ1_indexOf_4cfef : ByteArray := prog_12_method_22_code
def yJ1_indexOf_4cfef : MethodName := ⟨RJ1, "indexOf", "([BIII)I"⟩
abbrev cJ1_indexOfChar_4cfef : ByteArray := prog_12_method_23_code
def yJ1_indexOfChar_4cfef : MethodName := ⟨RJ1, "indexOfChar", "([BIII)I"⟩
def RJ2 : String := "java/lang/StringUTF16"
def TJ2 : u_T := fun k => match k with
  | _ => ("", "", "", false)
def tyJ2 : Nat → FieldType := fun k => match k with
  | _ => .int
abbrev wsJ20 : List Cond := u_ws RJ2 TJ2 0
theorem nmJ2 : ∀ a, a < 0 → ∀ b, b < 0 → a ≠ b → (TJ2 a).2.1 ≠ (TJ2 b).2.1 := by decide +kernel
theorem tyJ2_ok : ∀ k, k < 0 → parseFieldDescriptor (TJ2 k).2.2.1 = some (tyJ2 k) := by decide +kernel
abbrev cJ2_getChar_3b067 : ByteArray := prog_13_method_5_code
def yJ2_getChar_3b067 : MethodName := ⟨RJ2, "getChar", "([BI)C"⟩
abbrev cJ2_length_9d52b : ByteArray := prog_13_method_6_code
def yJ2_length_9d52b : MethodName := ⟨RJ2, "length", "([B)I"⟩
abbrev cJ2_indexOf_4cfef : ByteArray := prog_13_method_40_code
def yJ2_indexOf_4cfef : MethodName := ⟨RJ2, "indexOf", "([BIII)I"⟩
abbrev cJ2_indexOfChar_4cfef : ByteArray := prog_13_method_47_code
def yJ2_indexOfChar_4cfef : MethodName := ⟨RJ2, "indexOfChar", "([BIII)I"⟩
abbrev cJ2_indexOfCharUnsafe_4cfef : ByteArray := prog_13_method_48_code
def yJ2_indexOfCharUnsafe_4cfef : MethodName := ⟨RJ2, "indexOfCharUnsafe", "([BIII)I"⟩
abbrev cJ2_indexOfSupplementary_4cfef : ByteArray := prog_13_method_49_code
def yJ2_indexOfSupplementary_4cfef : MethodName := ⟨RJ2, "indexOfSupplementary", "([BIII)I"⟩
abbrev cJ2_charAt_3b067 : ByteArray := prog_13_method_83_code
def yJ2_charAt_3b067 : MethodName := ⟨RJ2, "charAt", "([BI)C"⟩
abbrev cJ2_checkIndex_2214a : ByteArray := prog_13_method_91_code
def yJ2_checkIndex_2214a : MethodName := ⟨RJ2, "checkIndex", "(I[B)V"⟩
abbrev cJ2_checkBoundsBeginEnd_d044e : ByteArray := prog_13_method_93_code
def yJ2_checkBoundsBeginEnd_d044e : MethodName := ⟨RJ2, "checkBoundsBeginEnd", "(II[B)V"⟩
def RJxfd54e : String := "java/lang/constant/Constable"
def TJxfd54e : u_T := fun k => match k with
  | _ => ("", "", "", false)
def tyJxfd54e : Nat → FieldType := fun k => match k with
  | _ => .int
abbrev wsJxfd54e0 : List Cond := u_ws RJxfd54e TJxfd54e 0
theorem nmJxfd54e : ∀ a, a < 0 → ∀ b, b < 0 → a ≠ b → (TJxfd54e a).2.1 ≠ (TJxfd54e b).2.1 := by decide +kernel
theorem tyJxfd54e_ok : ∀ k, k < 0 → parseFieldDescriptor (TJxfd54e k).2.2.1 = some (tyJxfd54e k) := by decide +kernel
def RJx3cf43 : String := "java/lang/constant/ConstantDesc"
def TJx3cf43 : u_T := fun k => match k with
  | _ => ("", "", "", false)
def tyJx3cf43 : Nat → FieldType := fun k => match k with
  | _ => .int
abbrev wsJx3cf430 : List Cond := u_ws RJx3cf43 TJx3cf43 0
theorem nmJx3cf43 : ∀ a, a < 0 → ∀ b, b < 0 → a ≠ b → (TJx3cf43 a).2.1 ≠ (TJx3cf43 b).2.1 := by decide +kernel
theorem tyJx3cf43_ok : ∀ k, k < 0 → parseFieldDescriptor (TJx3cf43 k).2.2.1 = some (tyJx3cf43 k) := by decide +kernel
def RJ7 : String := "java/util/Arrays"
def TJ7 : u_T := fun k => match k with
  | _ => ("", "", "", false)
def tyJ7 : Nat → FieldType := fun k => match k with
  | _ => .int
abbrev wsJ70 : List Cond := u_ws RJ7 TJ7 0
theorem nmJ7 : ∀ a, a < 0 → ∀ b, b < 0 → a ≠ b → (TJ7 a).2.1 ≠ (TJ7 b).2.1 := by decide +kernel
theorem tyJ7_ok : ∀ k, k < 0 → parseFieldDescriptor (TJ7 k).2.2.1 = some (tyJ7 k) := by decide +kernel
abbrev cJ7_fill_53178 : ByteArray := prog_14_method_103_code
def yJ7_fill_53178 : MethodName := ⟨RJ7, "fill", "([II)V"⟩
def RJ3 : String := "jdk/internal/util/Preconditions"
def TJ3 : u_T := fun k => match k with
  | _ => ("", "", "", false)
def tyJ3 : Nat → FieldType := fun k => match k with
  | _ => .int
abbrev wsJ30 : List Cond := u_ws RJ3 TJ3 0
theorem nmJ3 : ∀ a, a < 0 → ∀ b, b < 0 → a ≠ b → (TJ3 a).2.1 ≠ (TJ3 b).2.1 := by decide +kernel
theorem tyJ3_ok : ∀ k, k < 0 → parseFieldDescriptor (TJ3 k).2.2.1 = some (tyJ3 k) := by decide +kernel
abbrev cJ3_checkIndex_8e157 : ByteArray := prog_15_method_11_code
def yJ3_checkIndex_8e157 : MethodName := ⟨RJ3, "checkIndex", "(IILjava/util/function/BiFunction;)I"⟩
abbrev cJ3_checkFromToIndex_8c36e : ByteArray := prog_15_method_12_code
def yJ3_checkFromToIndex_8c36e : MethodName := ⟨RJ3, "checkFromToIndex", "(IIILjava/util/function/BiFunction;)I"⟩
def RL : String := "LaceWorksLaw"
abbrev cL_law : ByteArray := code
def yL_law : MethodName := ⟨RL, "law", "([I)Z"⟩
abbrev vwCl : List vw_C := [(RX0, TX0, 2), (RX1, TX1, 4), (RX2, TX2, 2), (RX3, TX3, 4), (RX4, TX4, 1), (RX5, TX5, 14), (RX6, TX6, 19)]
end
section
theorem dX0_init_0 : decode cX0_init 0 = .ok (.aload_n 0, 1) := by decide +kernel
theorem dX0_init_1 : decode cX0_init 1 = .ok (.invokespecial 3, 3) := by decide +kernel
theorem dX0_init_4 : decode cX0_init 4 = .ok (.aload_n 0, 1) := by decide +kernel
theorem dX0_init_5 : decode cX0_init 5 = .ok (.bipush 8, 2) := by decide +kernel
theorem dX0_init_7 : decode cX0_init 7 = .ok (.newarray .int, 2) := by decide +kernel
theorem dX0_init_9 : decode cX0_init 9 = .ok (.putfield 9, 3) := by decide +kernel
theorem dX0_init_12 : decode cX0_init 12 = .ok (.aload_n 0, 1) := by decide +kernel
theorem dX0_init_13 : decode cX0_init 13 = .ok (.bipush 8, 2) := by decide +kernel
theorem dX0_init_15 : decode cX0_init 15 = .ok (.newarray .int, 2) := by decide +kernel
theorem dX0_init_17 : decode cX0_init 17 = .ok (.putfield 15, 3) := by decide +kernel
theorem dX0_init_20 : decode cX0_init 20 = .ok (.return_, 1) := by decide +kernel
theorem dX0_layAsAtFirst_0 : decode cX0_layAsAtFirst 0 = .ok (.iconst 0, 1) := by decide +kernel
theorem dX0_layAsAtFirst_1 : decode cX0_layAsAtFirst 1 = .ok (.istore_n 1, 1) := by decide +kernel
theorem dX0_layAsAtFirst_2 : decode cX0_layAsAtFirst 2 = .ok (.iload_n 1, 1) := by decide +kernel
theorem dX0_layAsAtFirst_3 : decode cX0_layAsAtFirst 3 = .ok (.aload_n 0, 1) := by decide +kernel
theorem dX0_layAsAtFirst_4 : decode cX0_layAsAtFirst 4 = .ok (.getfield 9, 3) := by decide +kernel
theorem dX0_layAsAtFirst_7 : decode cX0_layAsAtFirst 7 = .ok (.arraylength, 1) := by decide +kernel
theorem dX0_layAsAtFirst_8 : decode cX0_layAsAtFirst 8 = .ok (.if_icmp .ge 16, 3) := by decide +kernel
theorem dX0_layAsAtFirst_11 : decode cX0_layAsAtFirst 11 = .ok (.aload_n 0, 1) := by decide +kernel
theorem dX0_layAsAtFirst_12 : decode cX0_layAsAtFirst 12 = .ok (.getfield 9, 3) := by decide +kernel
theorem dX0_layAsAtFirst_15 : decode cX0_layAsAtFirst 15 = .ok (.iload_n 1, 1) := by decide +kernel
theorem dX0_layAsAtFirst_16 : decode cX0_layAsAtFirst 16 = .ok (.iload_n 1, 1) := by decide +kernel
theorem dX0_layAsAtFirst_17 : decode cX0_layAsAtFirst 17 = .ok (.iastore, 1) := by decide +kernel
theorem dX0_layAsAtFirst_18 : decode cX0_layAsAtFirst 18 = .ok (.iinc 1 1, 3) := by decide +kernel
theorem dX0_layAsAtFirst_21 : decode cX0_layAsAtFirst 21 = .ok (.goto (-19), 3) := by decide +kernel
theorem dX0_layAsAtFirst_24 : decode cX0_layAsAtFirst 24 = .ok (.return_, 1) := by decide +kernel
theorem dX0_layBehind_0 : decode cX0_layBehind 0 = .ok (.aload_n 0, 1) := by decide +kernel
theorem dX0_layBehind_1 : decode cX0_layBehind 1 = .ok (.invokevirtual 18, 3) := by decide +kernel
theorem dX0_layBehind_4 : decode cX0_layBehind 4 = .ok (.iconst 0, 1) := by decide +kernel
theorem dX0_layBehind_5 : decode cX0_layBehind 5 = .ok (.istore_n 2, 1) := by decide +kernel
theorem dX0_layBehind_6 : decode cX0_layBehind 6 = .ok (.iload_n 2, 1) := by decide +kernel
theorem dX0_layBehind_7 : decode cX0_layBehind 7 = .ok (.aload_n 1, 1) := by decide +kernel
theorem dX0_layBehind_8 : decode cX0_layBehind 8 = .ok (.invokevirtual 21, 3) := by decide +kernel
theorem dX0_layBehind_11 : decode cX0_layBehind 11 = .ok (.if_icmp .ge 18, 3) := by decide +kernel
theorem dX0_layBehind_14 : decode cX0_layBehind 14 = .ok (.aload_n 0, 1) := by decide +kernel
theorem dX0_layBehind_15 : decode cX0_layBehind 15 = .ok (.aload_n 1, 1) := by decide +kernel
theorem dX0_layBehind_16 : decode cX0_layBehind 16 = .ok (.iload_n 2, 1) := by decide +kernel
theorem dX0_layBehind_17 : decode cX0_layBehind 17 = .ok (.invokevirtual 27, 3) := by decide +kernel
theorem dX0_layBehind_20 : decode cX0_layBehind 20 = .ok (.invokevirtual 31, 3) := by decide +kernel
theorem dX0_layBehind_23 : decode cX0_layBehind 23 = .ok (.iinc 2 1, 3) := by decide +kernel
theorem dX0_layBehind_26 : decode cX0_layBehind 26 = .ok (.goto (-20), 3) := by decide +kernel
theorem dX0_layBehind_29 : decode cX0_layBehind 29 = .ok (.return_, 1) := by decide +kernel
theorem dX0_bobbinAt_0 : decode cX0_bobbinAt 0 = .ok (.iload_n 1, 1) := by decide +kernel
theorem dX0_bobbinAt_1 : decode cX0_bobbinAt 1 = .ok (.ifCond .lt 21, 3) := by decide +kernel
theorem dX0_bobbinAt_4 : decode cX0_bobbinAt 4 = .ok (.iload_n 1, 1) := by decide +kernel
theorem dX0_bobbinAt_5 : decode cX0_bobbinAt 5 = .ok (.aload_n 0, 1) := by decide +kernel
theorem dX0_bobbinAt_6 : decode cX0_bobbinAt 6 = .ok (.getfield 9, 3) := by decide +kernel
theorem dX0_bobbinAt_9 : decode cX0_bobbinAt 9 = .ok (.arraylength, 1) := by decide +kernel
theorem dX0_bobbinAt_10 : decode cX0_bobbinAt 10 = .ok (.if_icmp .ge 12, 3) := by decide +kernel
theorem dX0_bobbinAt_13 : decode cX0_bobbinAt 13 = .ok (.aload_n 0, 1) := by decide +kernel
theorem dX0_bobbinAt_14 : decode cX0_bobbinAt 14 = .ok (.getfield 9, 3) := by decide +kernel
theorem dX0_bobbinAt_17 : decode cX0_bobbinAt 17 = .ok (.iload_n 1, 1) := by decide +kernel
theorem dX0_bobbinAt_18 : decode cX0_bobbinAt 18 = .ok (.iaload, 1) := by decide +kernel
theorem dX0_bobbinAt_19 : decode cX0_bobbinAt 19 = .ok (.goto 5, 3) := by decide +kernel
theorem dX0_bobbinAt_22 : decode cX0_bobbinAt 22 = .ok (.bipush (-6), 2) := by decide +kernel
theorem dX0_bobbinAt_24 : decode cX0_bobbinAt 24 = .ok (.ireturn, 1) := by decide +kernel
theorem dX0_upper_0 : decode cX0_upper 0 = .ok (.aload_n 0, 1) := by decide +kernel
theorem dX0_upper_1 : decode cX0_upper 1 = .ok (.iload_n 1, 1) := by decide +kernel
theorem dX0_upper_2 : decode cX0_upper 2 = .ok (.invokestatic 35, 3) := by decide +kernel
theorem dX0_upper_5 : decode cX0_upper 5 = .ok (.iload_n 1, 1) := by decide +kernel
theorem dX0_upper_6 : decode cX0_upper 6 = .ok (.invokestatic 38, 3) := by decide +kernel
theorem dX0_upper_9 : decode cX0_upper 9 = .ok (.ifCond .eq 7, 3) := by decide +kernel
theorem dX0_upper_12 : decode cX0_upper 12 = .ok (.iconst 1, 1) := by decide +kernel
theorem dX0_upper_13 : decode cX0_upper 13 = .ok (.goto 4, 3) := by decide +kernel
theorem dX0_upper_16 : decode cX0_upper 16 = .ok (.iconst 0, 1) := by decide +kernel
theorem dX0_upper_17 : decode cX0_upper 17 = .ok (.iadd, 1) := by decide +kernel
theorem dX0_upper_18 : decode cX0_upper 18 = .ok (.invokevirtual 42, 3) := by decide +kernel
theorem dX0_upper_21 : decode cX0_upper 21 = .ok (.ireturn, 1) := by decide +kernel
theorem dX0_lower_0 : decode cX0_lower 0 = .ok (.aload_n 0, 1) := by decide +kernel
theorem dX0_lower_1 : decode cX0_lower 1 = .ok (.iload_n 1, 1) := by decide +kernel
theorem dX0_lower_2 : decode cX0_lower 2 = .ok (.invokestatic 35, 3) := by decide +kernel
theorem dX0_lower_5 : decode cX0_lower 5 = .ok (.iload_n 1, 1) := by decide +kernel
theorem dX0_lower_6 : decode cX0_lower 6 = .ok (.invokestatic 38, 3) := by decide +kernel
theorem dX0_lower_9 : decode cX0_lower 9 = .ok (.ifCond .eq 7, 3) := by decide +kernel
theorem dX0_lower_12 : decode cX0_lower 12 = .ok (.iconst 0, 1) := by decide +kernel
theorem dX0_lower_13 : decode cX0_lower 13 = .ok (.goto 4, 3) := by decide +kernel
theorem dX0_lower_16 : decode cX0_lower 16 = .ok (.iconst 1, 1) := by decide +kernel
theorem dX0_lower_17 : decode cX0_lower 17 = .ok (.iadd, 1) := by decide +kernel
theorem dX0_lower_18 : decode cX0_lower 18 = .ok (.invokevirtual 42, 3) := by decide +kernel
theorem dX0_lower_21 : decode cX0_lower 21 = .ok (.ireturn, 1) := by decide +kernel
theorem dX0_swap_0 : decode cX0_swap 0 = .ok (.iload_n 1, 1) := by decide +kernel
theorem dX0_swap_1 : decode cX0_swap 1 = .ok (.invokestatic 35, 3) := by decide +kernel
theorem dX0_swap_4 : decode cX0_swap 4 = .ok (.istore_n 2, 1) := by decide +kernel
theorem dX0_swap_5 : decode cX0_swap 5 = .ok (.iload_n 2, 1) := by decide +kernel
theorem dX0_swap_6 : decode cX0_swap 6 = .ok (.ifCond .lt 44, 3) := by decide +kernel
theorem dX0_swap_9 : decode cX0_swap 9 = .ok (.iload_n 2, 1) := by decide +kernel
theorem dX0_swap_10 : decode cX0_swap 10 = .ok (.aload_n 0, 1) := by decide +kernel
theorem dX0_swap_11 : decode cX0_swap 11 = .ok (.getfield 9, 3) := by decide +kernel
theorem dX0_swap_14 : decode cX0_swap 14 = .ok (.arraylength, 1) := by decide +kernel
theorem dX0_swap_15 : decode cX0_swap 15 = .ok (.iconst 1, 1) := by decide +kernel
theorem dX0_swap_16 : decode cX0_swap 16 = .ok (.isub, 1) := by decide +kernel
theorem dX0_swap_17 : decode cX0_swap 17 = .ok (.if_icmp .ge 33, 3) := by decide +kernel
theorem dX0_swap_20 : decode cX0_swap 20 = .ok (.aload_n 0, 1) := by decide +kernel
theorem dX0_swap_21 : decode cX0_swap 21 = .ok (.getfield 9, 3) := by decide +kernel
theorem dX0_swap_24 : decode cX0_swap 24 = .ok (.iload_n 2, 1) := by decide +kernel
theorem dX0_swap_25 : decode cX0_swap 25 = .ok (.iaload, 1) := by decide +kernel
theorem dX0_swap_26 : decode cX0_swap 26 = .ok (.istore_n 3, 1) := by decide +kernel
theorem dX0_swap_27 : decode cX0_swap 27 = .ok (.aload_n 0, 1) := by decide +kernel
theorem dX0_swap_28 : decode cX0_swap 28 = .ok (.getfield 9, 3) := by decide +kernel
theorem dX0_swap_31 : decode cX0_swap 31 = .ok (.iload_n 2, 1) := by decide +kernel
theorem dX0_swap_32 : decode cX0_swap 32 = .ok (.aload_n 0, 1) := by decide +kernel
theorem dX0_swap_33 : decode cX0_swap 33 = .ok (.getfield 9, 3) := by decide +kernel
theorem dX0_swap_36 : decode cX0_swap 36 = .ok (.iload_n 2, 1) := by decide +kernel
theorem dX0_swap_37 : decode cX0_swap 37 = .ok (.iconst 1, 1) := by decide +kernel
theorem dX0_swap_38 : decode cX0_swap 38 = .ok (.iadd, 1) := by decide +kernel
theorem dX0_swap_39 : decode cX0_swap 39 = .ok (.iaload, 1) := by decide +kernel
theorem dX0_swap_40 : decode cX0_swap 40 = .ok (.iastore, 1) := by decide +kernel
theorem dX0_swap_41 : decode cX0_swap 41 = .ok (.aload_n 0, 1) := by decide +kernel
theorem dX0_swap_42 : decode cX0_swap 42 = .ok (.getfield 9, 3) := by decide +kernel
theorem dX0_swap_45 : decode cX0_swap 45 = .ok (.iload_n 2, 1) := by decide +kernel
theorem dX0_swap_46 : decode cX0_swap 46 = .ok (.iconst 1, 1) := by decide +kernel
theorem dX0_swap_47 : decode cX0_swap 47 = .ok (.iadd, 1) := by decide +kernel
theorem dX0_swap_48 : decode cX0_swap 48 = .ok (.iload_n 3, 1) := by decide +kernel
theorem dX0_swap_49 : decode cX0_swap 49 = .ok (.iastore, 1) := by decide +kernel
theorem dX0_swap_50 : decode cX0_swap 50 = .ok (.return_, 1) := by decide +kernel
theorem dX0_lyingAsAtFirst_0 : decode cX0_lyingAsAtFirst 0 = .ok (.iconst 0, 1) := by decide +kernel
theorem dX0_lyingAsAtFirst_1 : decode cX0_lyingAsAtFirst 1 = .ok (.istore_n 1, 1) := by decide +kernel
theorem dX0_lyingAsAtFirst_2 : decode cX0_lyingAsAtFirst 2 = .ok (.iconst 0, 1) := by decide +kernel
theorem dX0_lyingAsAtFirst_3 : decode cX0_lyingAsAtFirst 3 = .ok (.istore_n 2, 1) := by decide +kernel
theorem dX0_lyingAsAtFirst_4 : decode cX0_lyingAsAtFirst 4 = .ok (.iload_n 2, 1) := by decide +kernel
theorem dX0_lyingAsAtFirst_5 : decode cX0_lyingAsAtFirst 5 = .ok (.aload_n 0, 1) := by decide +kernel
theorem dX0_lyingAsAtFirst_6 : decode cX0_lyingAsAtFirst 6 = .ok (.getfield 9, 3) := by decide +kernel
theorem dX0_lyingAsAtFirst_9 : decode cX0_lyingAsAtFirst 9 = .ok (.arraylength, 1) := by decide +kernel
theorem dX0_lyingAsAtFirst_10 : decode cX0_lyingAsAtFirst 10 = .ok (.if_icmp .ge 27, 3) := by decide +kernel
theorem dX0_lyingAsAtFirst_13 : decode cX0_lyingAsAtFirst 13 = .ok (.iload_n 1, 1) := by decide +kernel
theorem dX0_lyingAsAtFirst_14 : decode cX0_lyingAsAtFirst 14 = .ok (.aload_n 0, 1) := by decide +kernel
theorem dX0_lyingAsAtFirst_15 : decode cX0_lyingAsAtFirst 15 = .ok (.getfield 9, 3) := by decide +kernel
theorem dX0_lyingAsAtFirst_18 : decode cX0_lyingAsAtFirst 18 = .ok (.iload_n 2, 1) := by decide +kernel
theorem dX0_lyingAsAtFirst_19 : decode cX0_lyingAsAtFirst 19 = .ok (.iaload, 1) := by decide +kernel
theorem dX0_lyingAsAtFirst_20 : decode cX0_lyingAsAtFirst 20 = .ok (.iload_n 2, 1) := by decide +kernel
theorem dX0_lyingAsAtFirst_21 : decode cX0_lyingAsAtFirst 21 = .ok (.if_icmp .ne 7, 3) := by decide +kernel
theorem dX0_lyingAsAtFirst_24 : decode cX0_lyingAsAtFirst 24 = .ok (.iconst 1, 1) := by decide +kernel
theorem dX0_lyingAsAtFirst_25 : decode cX0_lyingAsAtFirst 25 = .ok (.goto 4, 3) := by decide +kernel
theorem dX0_lyingAsAtFirst_28 : decode cX0_lyingAsAtFirst 28 = .ok (.iconst 0, 1) := by decide +kernel
theorem dX0_lyingAsAtFirst_29 : decode cX0_lyingAsAtFirst 29 = .ok (.iadd, 1) := by decide +kernel
theorem dX0_lyingAsAtFirst_30 : decode cX0_lyingAsAtFirst 30 = .ok (.istore_n 1, 1) := by decide +kernel
theorem dX0_lyingAsAtFirst_31 : decode cX0_lyingAsAtFirst 31 = .ok (.iinc 2 1, 3) := by decide +kernel
theorem dX0_lyingAsAtFirst_34 : decode cX0_lyingAsAtFirst 34 = .ok (.goto (-30), 3) := by decide +kernel
theorem dX0_lyingAsAtFirst_37 : decode cX0_lyingAsAtFirst 37 = .ok (.iload_n 1, 1) := by decide +kernel
theorem dX0_lyingAsAtFirst_38 : decode cX0_lyingAsAtFirst 38 = .ok (.ireturn, 1) := by decide +kernel
theorem dX0_turnsTillAsAtFirst_0 : decode cX0_turnsTillAsAtFirst 0 = .ok (.iconst 0, 1) := by decide +kernel
theorem dX0_turnsTillAsAtFirst_1 : decode cX0_turnsTillAsAtFirst 1 = .ok (.istore_n 1, 1) := by decide +kernel
theorem dX0_turnsTillAsAtFirst_2 : decode cX0_turnsTillAsAtFirst 2 = .ok (.iload_n 1, 1) := by decide +kernel
theorem dX0_turnsTillAsAtFirst_3 : decode cX0_turnsTillAsAtFirst 3 = .ok (.aload_n 0, 1) := by decide +kernel
theorem dX0_turnsTillAsAtFirst_4 : decode cX0_turnsTillAsAtFirst 4 = .ok (.getfield 15, 3) := by decide +kernel
theorem dX0_turnsTillAsAtFirst_7 : decode cX0_turnsTillAsAtFirst 7 = .ok (.arraylength, 1) := by decide +kernel
theorem dX0_turnsTillAsAtFirst_8 : decode cX0_turnsTillAsAtFirst 8 = .ok (.if_icmp .ge 16, 3) := by decide +kernel
theorem dX0_turnsTillAsAtFirst_11 : decode cX0_turnsTillAsAtFirst 11 = .ok (.aload_n 0, 1) := by decide +kernel
theorem dX0_turnsTillAsAtFirst_12 : decode cX0_turnsTillAsAtFirst 12 = .ok (.getfield 15, 3) := by decide +kernel
theorem dX0_turnsTillAsAtFirst_15 : decode cX0_turnsTillAsAtFirst 15 = .ok (.iload_n 1, 1) := by decide +kernel
theorem dX0_turnsTillAsAtFirst_16 : decode cX0_turnsTillAsAtFirst 16 = .ok (.iload_n 1, 1) := by decide +kernel
theorem dX0_turnsTillAsAtFirst_17 : decode cX0_turnsTillAsAtFirst 17 = .ok (.iastore, 1) := by decide +kernel
theorem dX0_turnsTillAsAtFirst_18 : decode cX0_turnsTillAsAtFirst 18 = .ok (.iinc 1 1, 3) := by decide +kernel
theorem dX0_turnsTillAsAtFirst_21 : decode cX0_turnsTillAsAtFirst 21 = .ok (.goto (-19), 3) := by decide +kernel
theorem dX0_turnsTillAsAtFirst_24 : decode cX0_turnsTillAsAtFirst 24 = .ok (.iconst 1, 1) := by decide +kernel
theorem dX0_turnsTillAsAtFirst_25 : decode cX0_turnsTillAsAtFirst 25 = .ok (.istore_n 1, 1) := by decide +kernel
theorem dX0_turnsTillAsAtFirst_26 : decode cX0_turnsTillAsAtFirst 26 = .ok (.iload_n 1, 1) := by decide +kernel
theorem dX0_turnsTillAsAtFirst_27 : decode cX0_turnsTillAsAtFirst 27 = .ok (.bipush 15, 2) := by decide +kernel
theorem dX0_turnsTillAsAtFirst_29 : decode cX0_turnsTillAsAtFirst 29 = .ok (.if_icmp .ge 18, 3) := by decide +kernel
theorem dX0_turnsTillAsAtFirst_32 : decode cX0_turnsTillAsAtFirst 32 = .ok (.aload_n 0, 1) := by decide +kernel
theorem dX0_turnsTillAsAtFirst_33 : decode cX0_turnsTillAsAtFirst 33 = .ok (.invokevirtual 45, 3) := by decide +kernel
theorem dX0_turnsTillAsAtFirst_36 : decode cX0_turnsTillAsAtFirst 36 = .ok (.ifCond .eq 5, 3) := by decide +kernel
theorem dX0_turnsTillAsAtFirst_39 : decode cX0_turnsTillAsAtFirst 39 = .ok (.iload_n 1, 1) := by decide +kernel
theorem dX0_turnsTillAsAtFirst_40 : decode cX0_turnsTillAsAtFirst 40 = .ok (.ireturn, 1) := by decide +kernel
theorem dX0_turnsTillAsAtFirst_41 : decode cX0_turnsTillAsAtFirst 41 = .ok (.iinc 1 1, 3) := by decide +kernel
theorem dX0_turnsTillAsAtFirst_44 : decode cX0_turnsTillAsAtFirst 44 = .ok (.goto (-18), 3) := by decide +kernel
theorem dX0_turnsTillAsAtFirst_47 : decode cX0_turnsTillAsAtFirst 47 = .ok (.bipush 15, 2) := by decide +kernel
theorem dX0_turnsTillAsAtFirst_49 : decode cX0_turnsTillAsAtFirst 49 = .ok (.ireturn, 1) := by decide +kernel
theorem dX0_turnOnce_0 : decode cX0_turnOnce 0 = .ok (.iconst 1, 1) := by decide +kernel
theorem dX0_turnOnce_1 : decode cX0_turnOnce 1 = .ok (.istore_n 1, 1) := by decide +kernel
theorem dX0_turnOnce_2 : decode cX0_turnOnce 2 = .ok (.iconst 0, 1) := by decide +kernel
theorem dX0_turnOnce_3 : decode cX0_turnOnce 3 = .ok (.istore_n 2, 1) := by decide +kernel
theorem dX0_turnOnce_4 : decode cX0_turnOnce 4 = .ok (.iload_n 2, 1) := by decide +kernel
theorem dX0_turnOnce_5 : decode cX0_turnOnce 5 = .ok (.aload_n 0, 1) := by decide +kernel
theorem dX0_turnOnce_6 : decode cX0_turnOnce 6 = .ok (.getfield 15, 3) := by decide +kernel
theorem dX0_turnOnce_9 : decode cX0_turnOnce 9 = .ok (.arraylength, 1) := by decide +kernel
theorem dX0_turnOnce_10 : decode cX0_turnOnce 10 = .ok (.if_icmp .ge 45, 3) := by decide +kernel
theorem dX0_turnOnce_13 : decode cX0_turnOnce 13 = .ok (.aload_n 0, 1) := by decide +kernel
theorem dX0_turnOnce_14 : decode cX0_turnOnce 14 = .ok (.getfield 15, 3) := by decide +kernel
theorem dX0_turnOnce_17 : decode cX0_turnOnce 17 = .ok (.iload_n 2, 1) := by decide +kernel
theorem dX0_turnOnce_18 : decode cX0_turnOnce 18 = .ok (.aload_n 0, 1) := by decide +kernel
theorem dX0_turnOnce_19 : decode cX0_turnOnce 19 = .ok (.aload_n 0, 1) := by decide +kernel
theorem dX0_turnOnce_20 : decode cX0_turnOnce 20 = .ok (.getfield 15, 3) := by decide +kernel
theorem dX0_turnOnce_23 : decode cX0_turnOnce 23 = .ok (.iload_n 2, 1) := by decide +kernel
theorem dX0_turnOnce_24 : decode cX0_turnOnce 24 = .ok (.iaload, 1) := by decide +kernel
theorem dX0_turnOnce_25 : decode cX0_turnOnce 25 = .ok (.invokevirtual 42, 3) := by decide +kernel
theorem dX0_turnOnce_28 : decode cX0_turnOnce 28 = .ok (.iastore, 1) := by decide +kernel
theorem dX0_turnOnce_29 : decode cX0_turnOnce 29 = .ok (.iload_n 1, 1) := by decide +kernel
theorem dX0_turnOnce_30 : decode cX0_turnOnce 30 = .ok (.ifCond .eq 17, 3) := by decide +kernel
theorem dX0_turnOnce_33 : decode cX0_turnOnce 33 = .ok (.aload_n 0, 1) := by decide +kernel
theorem dX0_turnOnce_34 : decode cX0_turnOnce 34 = .ok (.getfield 15, 3) := by decide +kernel
theorem dX0_turnOnce_37 : decode cX0_turnOnce 37 = .ok (.iload_n 2, 1) := by decide +kernel
theorem dX0_turnOnce_38 : decode cX0_turnOnce 38 = .ok (.iaload, 1) := by decide +kernel
theorem dX0_turnOnce_39 : decode cX0_turnOnce 39 = .ok (.iload_n 2, 1) := by decide +kernel
theorem dX0_turnOnce_40 : decode cX0_turnOnce 40 = .ok (.if_icmp .ne 7, 3) := by decide +kernel
theorem dX0_turnOnce_43 : decode cX0_turnOnce 43 = .ok (.iconst 1, 1) := by decide +kernel
theorem dX0_turnOnce_44 : decode cX0_turnOnce 44 = .ok (.goto 4, 3) := by decide +kernel
theorem dX0_turnOnce_47 : decode cX0_turnOnce 47 = .ok (.iconst 0, 1) := by decide +kernel
theorem dX0_turnOnce_48 : decode cX0_turnOnce 48 = .ok (.istore_n 1, 1) := by decide +kernel
theorem dX0_turnOnce_49 : decode cX0_turnOnce 49 = .ok (.iinc 2 1, 3) := by decide +kernel
theorem dX0_turnOnce_52 : decode cX0_turnOnce 52 = .ok (.goto (-48), 3) := by decide +kernel
theorem dX0_turnOnce_55 : decode cX0_turnOnce 55 = .ok (.iload_n 1, 1) := by decide +kernel
theorem dX0_turnOnce_56 : decode cX0_turnOnce 56 = .ok (.ireturn, 1) := by decide +kernel
theorem dX1_init_0 : decode cX1_init 0 = .ok (.aload_n 0, 1) := by decide +kernel
theorem dX1_init_1 : decode cX1_init 1 = .ok (.invokespecial 3, 3) := by decide +kernel
theorem dX1_init_4 : decode cX1_init 4 = .ok (.aload_n 0, 1) := by decide +kernel
theorem dX1_init_5 : decode cX1_init 5 = .ok (.aload_n 1, 1) := by decide +kernel
theorem dX1_init_6 : decode cX1_init 6 = .ok (.putfield 9, 3) := by decide +kernel
theorem dX1_init_9 : decode cX1_init 9 = .ok (.aload_n 0, 1) := by decide +kernel
theorem dX1_init_10 : decode cX1_init 10 = .ok (.aload_n 2, 1) := by decide +kernel
theorem dX1_init_11 : decode cX1_init 11 = .ok (.putfield 15, 3) := by decide +kernel
theorem dX1_init_14 : decode cX1_init 14 = .ok (.aload_n 0, 1) := by decide +kernel
theorem dX1_init_15 : decode cX1_init 15 = .ok (.iconst 0, 1) := by decide +kernel
theorem dX1_init_16 : decode cX1_init 16 = .ok (.putfield 18, 3) := by decide +kernel
theorem dX1_init_19 : decode cX1_init 19 = .ok (.aload_n 0, 1) := by decide +kernel
theorem dX1_init_20 : decode cX1_init 20 = .ok (.iconst 0, 1) := by decide +kernel
theorem dX1_init_21 : decode cX1_init 21 = .ok (.putfield 22, 3) := by decide +kernel
theorem dX1_init_24 : decode cX1_init 24 = .ok (.return_, 1) := by decide +kernel
theorem dX1_faultPlace_0 : decode cX1_faultPlace 0 = .ok (.iconst 0, 1) := by decide +kernel
theorem dX1_faultPlace_1 : decode cX1_faultPlace 1 = .ok (.istore_n 1, 1) := by decide +kernel
theorem dX1_faultPlace_2 : decode cX1_faultPlace 2 = .ok (.iconst 0, 1) := by decide +kernel
theorem dX1_faultPlace_3 : decode cX1_faultPlace 3 = .ok (.istore_n 2, 1) := by decide +kernel
theorem dX1_faultPlace_4 : decode cX1_faultPlace 4 = .ok (.iconst 0, 1) := by decide +kernel
theorem dX1_faultPlace_5 : decode cX1_faultPlace 5 = .ok (.istore_n 3, 1) := by decide +kernel
theorem dX1_faultPlace_6 : decode cX1_faultPlace 6 = .ok (.iload_n 3, 1) := by decide +kernel
theorem dX1_faultPlace_7 : decode cX1_faultPlace 7 = .ok (.aload_n 0, 1) := by decide +kernel
theorem dX1_faultPlace_8 : decode cX1_faultPlace 8 = .ok (.getfield 9, 3) := by decide +kernel
theorem dX1_faultPlace_11 : decode cX1_faultPlace 11 = .ok (.invokevirtual 26, 3) := by decide +kernel
theorem dX1_faultPlace_14 : decode cX1_faultPlace 14 = .ok (.if_icmp .ge 64, 3) := by decide +kernel
theorem dX1_faultPlace_17 : decode cX1_faultPlace 17 = .ok (.aload_n 0, 1) := by decide +kernel
theorem dX1_faultPlace_18 : decode cX1_faultPlace 18 = .ok (.getfield 9, 3) := by decide +kernel
theorem dX1_faultPlace_21 : decode cX1_faultPlace 21 = .ok (.iload_n 3, 1) := by decide +kernel
theorem dX1_faultPlace_22 : decode cX1_faultPlace 22 = .ok (.invokevirtual 32, 3) := by decide +kernel
theorem dX1_faultPlace_25 : decode cX1_faultPlace 25 = .ok (.istore 4, 2) := by decide +kernel
theorem dX1_faultPlace_27 : decode cX1_faultPlace 27 = .ok (.iload 4, 2) := by decide +kernel
theorem dX1_faultPlace_29 : decode cX1_faultPlace 29 = .ok (.iload_n 1, 1) := by decide +kernel
theorem dX1_faultPlace_30 : decode cX1_faultPlace 30 = .ok (.iload_n 2, 1) := by decide +kernel
theorem dX1_faultPlace_31 : decode cX1_faultPlace 31 = .ok (.invokestatic 36, 3) := by decide +kernel
theorem dX1_faultPlace_34 : decode cX1_faultPlace 34 = .ok (.ifCond .ne 5, 3) := by decide +kernel
theorem dX1_faultPlace_37 : decode cX1_faultPlace 37 = .ok (.iload_n 3, 1) := by decide +kernel
theorem dX1_faultPlace_38 : decode cX1_faultPlace 38 = .ok (.ireturn, 1) := by decide +kernel
theorem dX1_faultPlace_39 : decode cX1_faultPlace 39 = .ok (.iload 4, 2) := by decide +kernel
theorem dX1_faultPlace_41 : decode cX1_faultPlace 41 = .ok (.bipush 41, 2) := by decide +kernel
theorem dX1_faultPlace_43 : decode cX1_faultPlace 43 = .ok (.if_icmp .ne 7, 3) := by decide +kernel
theorem dX1_faultPlace_46 : decode cX1_faultPlace 46 = .ok (.iconst 1, 1) := by decide +kernel
theorem dX1_faultPlace_47 : decode cX1_faultPlace 47 = .ok (.goto 4, 3) := by decide +kernel
theorem dX1_faultPlace_50 : decode cX1_faultPlace 50 = .ok (.iconst 0, 1) := by decide +kernel
theorem dX1_faultPlace_51 : decode cX1_faultPlace 51 = .ok (.istore_n 2, 1) := by decide +kernel
theorem dX1_faultPlace_52 : decode cX1_faultPlace 52 = .ok (.iload 4, 2) := by decide +kernel
theorem dX1_faultPlace_54 : decode cX1_faultPlace 54 = .ok (.bipush 40, 2) := by decide +kernel
theorem dX1_faultPlace_56 : decode cX1_faultPlace 56 = .ok (.if_icmp .ne 9, 3) := by decide +kernel
theorem dX1_faultPlace_59 : decode cX1_faultPlace 59 = .ok (.iinc 1 1, 3) := by decide +kernel
theorem dX1_faultPlace_62 : decode cX1_faultPlace 62 = .ok (.goto 10, 3) := by decide +kernel
theorem dX1_faultPlace_65 : decode cX1_faultPlace 65 = .ok (.iload_n 2, 1) := by decide +kernel
theorem dX1_faultPlace_66 : decode cX1_faultPlace 66 = .ok (.ifCond .eq 6, 3) := by decide +kernel
theorem dX1_faultPlace_69 : decode cX1_faultPlace 69 = .ok (.iinc 1 (-1), 3) := by decide +kernel
theorem dX1_faultPlace_72 : decode cX1_faultPlace 72 = .ok (.iinc 3 1, 3) := by decide +kernel
theorem dX1_faultPlace_75 : decode cX1_faultPlace 75 = .ok (.goto (-69), 3) := by decide +kernel
theorem dX1_faultPlace_78 : decode cX1_faultPlace 78 = .ok (.iload_n 1, 1) := by decide +kernel
theorem dX1_faultPlace_79 : decode cX1_faultPlace 79 = .ok (.ifCond .gt 7, 3) := by decide +kernel
theorem dX1_faultPlace_82 : decode cX1_faultPlace 82 = .ok (.iload_n 2, 1) := by decide +kernel
theorem dX1_faultPlace_83 : decode cX1_faultPlace 83 = .ok (.ifCond .eq 13, 3) := by decide +kernel
theorem dX1_faultPlace_86 : decode cX1_faultPlace 86 = .ok (.aload_n 0, 1) := by decide +kernel
theorem dX1_faultPlace_87 : decode cX1_faultPlace 87 = .ok (.getfield 9, 3) := by decide +kernel
theorem dX1_faultPlace_90 : decode cX1_faultPlace 90 = .ok (.invokevirtual 26, 3) := by decide +kernel
theorem dX1_faultPlace_93 : decode cX1_faultPlace 93 = .ok (.goto 5, 3) := by decide +kernel
theorem dX1_faultPlace_96 : decode cX1_faultPlace 96 = .ok (.bipush (-6), 2) := by decide +kernel
theorem dX1_faultPlace_98 : decode cX1_faultPlace 98 = .ok (.ireturn, 1) := by decide +kernel
theorem dX1_canStand_0 : decode cX1_canStand 0 = .ok (.iload_n 2, 1) := by decide +kernel
theorem dX1_canStand_1 : decode cX1_canStand 1 = .ok (.ifCond .eq 21, 3) := by decide +kernel
theorem dX1_canStand_4 : decode cX1_canStand 4 = .ok (.iload_n 0, 1) := by decide +kernel
theorem dX1_canStand_5 : decode cX1_canStand 5 = .ok (.bipush 49, 2) := by decide +kernel
theorem dX1_canStand_7 : decode cX1_canStand 7 = .ok (.if_icmp .lt 13, 3) := by decide +kernel
theorem dX1_canStand_10 : decode cX1_canStand 10 = .ok (.iload_n 0, 1) := by decide +kernel
theorem dX1_canStand_11 : decode cX1_canStand 11 = .ok (.bipush 57, 2) := by decide +kernel
theorem dX1_canStand_13 : decode cX1_canStand 13 = .ok (.if_icmp .gt 7, 3) := by decide +kernel
theorem dX1_canStand_16 : decode cX1_canStand 16 = .ok (.iconst 1, 1) := by decide +kernel
theorem dX1_canStand_17 : decode cX1_canStand 17 = .ok (.goto 4, 3) := by decide +kernel
theorem dX1_canStand_20 : decode cX1_canStand 20 = .ok (.iconst 0, 1) := by decide +kernel
theorem dX1_canStand_21 : decode cX1_canStand 21 = .ok (.ireturn, 1) := by decide +kernel
theorem dX1_canStand_22 : decode cX1_canStand 22 = .ok (.iload_n 0, 1) := by decide +kernel
theorem dX1_canStand_23 : decode cX1_canStand 23 = .ok (.bipush 40, 2) := by decide +kernel
theorem dX1_canStand_25 : decode cX1_canStand 25 = .ok (.if_icmp .ne 14, 3) := by decide +kernel
theorem dX1_canStand_28 : decode cX1_canStand 28 = .ok (.iload_n 1, 1) := by decide +kernel
theorem dX1_canStand_29 : decode cX1_canStand 29 = .ok (.iconst 3, 1) := by decide +kernel
theorem dX1_canStand_30 : decode cX1_canStand 30 = .ok (.if_icmp .ge 7, 3) := by decide +kernel
theorem dX1_canStand_33 : decode cX1_canStand 33 = .ok (.iconst 1, 1) := by decide +kernel
theorem dX1_canStand_34 : decode cX1_canStand 34 = .ok (.goto 4, 3) := by decide +kernel
theorem dX1_canStand_37 : decode cX1_canStand 37 = .ok (.iconst 0, 1) := by decide +kernel
theorem dX1_canStand_38 : decode cX1_canStand 38 = .ok (.ireturn, 1) := by decide +kernel
theorem dX1_canStand_39 : decode cX1_canStand 39 = .ok (.iload_n 0, 1) := by decide +kernel
theorem dX1_canStand_40 : decode cX1_canStand 40 = .ok (.bipush 41, 2) := by decide +kernel
theorem dX1_canStand_42 : decode cX1_canStand 42 = .ok (.if_icmp .ne 13, 3) := by decide +kernel
theorem dX1_canStand_45 : decode cX1_canStand 45 = .ok (.iload_n 1, 1) := by decide +kernel
theorem dX1_canStand_46 : decode cX1_canStand 46 = .ok (.ifCond .le 7, 3) := by decide +kernel
theorem dX1_canStand_49 : decode cX1_canStand 49 = .ok (.iconst 1, 1) := by decide +kernel
theorem dX1_canStand_50 : decode cX1_canStand 50 = .ok (.goto 4, 3) := by decide +kernel
theorem dX1_canStand_53 : decode cX1_canStand 53 = .ok (.iconst 0, 1) := by decide +kernel
theorem dX1_canStand_54 : decode cX1_canStand 54 = .ok (.ireturn, 1) := by decide +kernel
theorem dX1_canStand_55 : decode cX1_canStand 55 = .ok (.iload_n 0, 1) := by decide +kernel
theorem dX1_canStand_56 : decode cX1_canStand 56 = .ok (.invokestatic 40, 3) := by decide +kernel
theorem dX1_canStand_59 : decode cX1_canStand 59 = .ok (.ifCond .ne 13, 3) := by decide +kernel
theorem dX1_canStand_62 : decode cX1_canStand 62 = .ok (.ldc 44, 2) := by decide +kernel
theorem dX1_canStand_64 : decode cX1_canStand 64 = .ok (.iload_n 0, 1) := by decide +kernel
theorem dX1_canStand_65 : decode cX1_canStand 65 = .ok (.i2c, 1) := by decide +kernel
theorem dX1_canStand_66 : decode cX1_canStand 66 = .ok (.invokevirtual 46, 3) := by decide +kernel
theorem dX1_canStand_69 : decode cX1_canStand 69 = .ok (.ifCond .lt 7, 3) := by decide +kernel
theorem dX1_canStand_72 : decode cX1_canStand 72 = .ok (.iconst 1, 1) := by decide +kernel
theorem dX1_canStand_73 : decode cX1_canStand 73 = .ok (.goto 4, 3) := by decide +kernel
theorem dX1_canStand_76 : decode cX1_canStand 76 = .ok (.iconst 0, 1) := by decide +kernel
theorem dX1_canStand_77 : decode cX1_canStand 77 = .ok (.ireturn, 1) := by decide +kernel
theorem dX1_isSpot_0 : decode cX1_isSpot 0 = .ok (.iload_n 0, 1) := by decide +kernel
theorem dX1_isSpot_1 : decode cX1_isSpot 1 = .ok (.bipush 48, 2) := by decide +kernel
theorem dX1_isSpot_3 : decode cX1_isSpot 3 = .ok (.if_icmp .lt 13, 3) := by decide +kernel
theorem dX1_isSpot_6 : decode cX1_isSpot 6 = .ok (.iload_n 0, 1) := by decide +kernel
theorem dX1_isSpot_7 : decode cX1_isSpot 7 = .ok (.bipush 51, 2) := by decide +kernel
theorem dX1_isSpot_9 : decode cX1_isSpot 9 = .ok (.if_icmp .ge 7, 3) := by decide +kernel
theorem dX1_isSpot_12 : decode cX1_isSpot 12 = .ok (.iconst 1, 1) := by decide +kernel
theorem dX1_isSpot_13 : decode cX1_isSpot 13 = .ok (.goto 4, 3) := by decide +kernel
theorem dX1_isSpot_16 : decode cX1_isSpot 16 = .ok (.iconst 0, 1) := by decide +kernel
theorem dX1_isSpot_17 : decode cX1_isSpot 17 = .ok (.ireturn, 1) := by decide +kernel
theorem dX1_readSteps_0 : decode cX1_readSteps 0 = .ok (.aload_n 0, 1) := by decide +kernel
theorem dX1_readSteps_1 : decode cX1_readSteps 1 = .ok (.getfield 15, 3) := by decide +kernel
theorem dX1_readSteps_4 : decode cX1_readSteps 4 = .ok (.invokevirtual 51, 3) := by decide +kernel
theorem dX1_readSteps_7 : decode cX1_readSteps 7 = .ok (.aload_n 0, 1) := by decide +kernel
theorem dX1_readSteps_8 : decode cX1_readSteps 8 = .ok (.iconst 0, 1) := by decide +kernel
theorem dX1_readSteps_9 : decode cX1_readSteps 9 = .ok (.putfield 18, 3) := by decide +kernel
theorem dX1_readSteps_12 : decode cX1_readSteps 12 = .ok (.aload_n 0, 1) := by decide +kernel
theorem dX1_readSteps_13 : decode cX1_readSteps 13 = .ok (.iconst 0, 1) := by decide +kernel
theorem dX1_readSteps_14 : decode cX1_readSteps 14 = .ok (.putfield 22, 3) := by decide +kernel
theorem dX1_readSteps_17 : decode cX1_readSteps 17 = .ok (.aload_n 0, 1) := by decide +kernel
theorem dX1_readSteps_18 : decode cX1_readSteps 18 = .ok (.iconst 0, 1) := by decide +kernel
theorem dX1_readSteps_19 : decode cX1_readSteps 19 = .ok (.iconst 0, 1) := by decide +kernel
theorem dX1_readSteps_20 : decode cX1_readSteps 20 = .ok (.invokevirtual 54, 3) := by decide +kernel
theorem dX1_readSteps_23 : decode cX1_readSteps 23 = .ok (.pop, 1) := by decide +kernel
theorem dX1_readSteps_24 : decode cX1_readSteps 24 = .ok (.aload_n 0, 1) := by decide +kernel
theorem dX1_readSteps_25 : decode cX1_readSteps 25 = .ok (.getfield 22, 3) := by decide +kernel
theorem dX1_readSteps_28 : decode cX1_readSteps 28 = .ok (.ifCond .ne 7, 3) := by decide +kernel
theorem dX1_readSteps_31 : decode cX1_readSteps 31 = .ok (.iconst 1, 1) := by decide +kernel
theorem dX1_readSteps_32 : decode cX1_readSteps 32 = .ok (.goto 4, 3) := by decide +kernel
theorem dX1_readSteps_35 : decode cX1_readSteps 35 = .ok (.iconst 0, 1) := by decide +kernel
theorem dX1_readSteps_36 : decode cX1_readSteps 36 = .ok (.ireturn, 1) := by decide +kernel
theorem dX1_readText_0 : decode cX1_readText 0 = .ok (.iload_n 1, 1) := by decide +kernel
theorem dX1_readText_1 : decode cX1_readText 1 = .ok (.istore_n 3, 1) := by decide +kernel
theorem dX1_readText_2 : decode cX1_readText 2 = .ok (.iload_n 3, 1) := by decide +kernel
theorem dX1_readText_3 : decode cX1_readText 3 = .ok (.aload_n 0, 1) := by decide +kernel
theorem dX1_readText_4 : decode cX1_readText 4 = .ok (.getfield 9, 3) := by decide +kernel
theorem dX1_readText_7 : decode cX1_readText 7 = .ok (.invokevirtual 26, 3) := by decide +kernel
theorem dX1_readText_10 : decode cX1_readText 10 = .ok (.if_icmp .ge 70, 3) := by decide +kernel
theorem dX1_readText_13 : decode cX1_readText 13 = .ok (.aload_n 0, 1) := by decide +kernel
theorem dX1_readText_14 : decode cX1_readText 14 = .ok (.getfield 22, 3) := by decide +kernel
theorem dX1_readText_17 : decode cX1_readText 17 = .ok (.ifCond .ne 63, 3) := by decide +kernel
theorem dX1_readText_20 : decode cX1_readText 20 = .ok (.aload_n 0, 1) := by decide +kernel
theorem dX1_readText_21 : decode cX1_readText 21 = .ok (.getfield 9, 3) := by decide +kernel
theorem dX1_readText_24 : decode cX1_readText 24 = .ok (.iload_n 3, 1) := by decide +kernel
theorem dX1_readText_25 : decode cX1_readText 25 = .ok (.invokevirtual 32, 3) := by decide +kernel
theorem dX1_readText_28 : decode cX1_readText 28 = .ok (.bipush 41, 2) := by decide +kernel
theorem dX1_readText_30 : decode cX1_readText 30 = .ok (.if_icmp .eq 50, 3) := by decide +kernel
theorem dX1_readText_33 : decode cX1_readText 33 = .ok (.aload_n 0, 1) := by decide +kernel
theorem dX1_readText_34 : decode cX1_readText 34 = .ok (.getfield 9, 3) := by decide +kernel
theorem dX1_readText_37 : decode cX1_readText 37 = .ok (.iload_n 3, 1) := by decide +kernel
theorem dX1_readText_38 : decode cX1_readText 38 = .ok (.invokevirtual 32, 3) := by decide +kernel
theorem dX1_readText_41 : decode cX1_readText 41 = .ok (.bipush 40, 2) := by decide +kernel
theorem dX1_readText_43 : decode cX1_readText 43 = .ok (.if_icmp .ne 19, 3) := by decide +kernel
theorem dX1_readText_46 : decode cX1_readText 46 = .ok (.iload_n 3, 1) := by decide +kernel
theorem dX1_readText_47 : decode cX1_readText 47 = .ok (.iconst 1, 1) := by decide +kernel
theorem dX1_readText_48 : decode cX1_readText 48 = .ok (.iadd, 1) := by decide +kernel
theorem dX1_readText_49 : decode cX1_readText 49 = .ok (.aload_n 0, 1) := by decide +kernel
theorem dX1_readText_50 : decode cX1_readText 50 = .ok (.iload_n 3, 1) := by decide +kernel
theorem dX1_readText_51 : decode cX1_readText 51 = .ok (.iload_n 2, 1) := by decide +kernel
theorem dX1_readText_52 : decode cX1_readText 52 = .ok (.invokevirtual 58, 3) := by decide +kernel
theorem dX1_readText_55 : decode cX1_readText 55 = .ok (.invokestatic 61, 3) := by decide +kernel
theorem dX1_readText_58 : decode cX1_readText 58 = .ok (.istore_n 3, 1) := by decide +kernel
theorem dX1_readText_59 : decode cX1_readText 59 = .ok (.goto (-57), 3) := by decide +kernel
theorem dX1_readText_62 : decode cX1_readText 62 = .ok (.aload_n 0, 1) := by decide +kernel
theorem dX1_readText_63 : decode cX1_readText 63 = .ok (.aload_n 0, 1) := by decide +kernel
theorem dX1_readText_64 : decode cX1_readText 64 = .ok (.getfield 9, 3) := by decide +kernel
theorem dX1_readText_67 : decode cX1_readText 67 = .ok (.iload_n 3, 1) := by decide +kernel
theorem dX1_readText_68 : decode cX1_readText 68 = .ok (.invokevirtual 32, 3) := by decide +kernel
theorem dX1_readText_71 : decode cX1_readText 71 = .ok (.invokevirtual 66, 3) := by decide +kernel
theorem dX1_readText_74 : decode cX1_readText 74 = .ok (.iinc 3 1, 3) := by decide +kernel
theorem dX1_readText_77 : decode cX1_readText 77 = .ok (.goto (-75), 3) := by decide +kernel
theorem dX1_readText_80 : decode cX1_readText 80 = .ok (.iload_n 3, 1) := by decide +kernel
theorem dX1_readText_81 : decode cX1_readText 81 = .ok (.ireturn, 1) := by decide +kernel
theorem dX1_readPart_0 : decode cX1_readPart 0 = .ok (.iload_n 2, 1) := by decide +kernel
theorem dX1_readPart_1 : decode cX1_readPart 1 = .ok (.iconst 3, 1) := by decide +kernel
theorem dX1_readPart_2 : decode cX1_readPart 2 = .ok (.if_icmp .lt 11, 3) := by decide +kernel
theorem dX1_readPart_5 : decode cX1_readPart 5 = .ok (.aload_n 0, 1) := by decide +kernel
theorem dX1_readPart_6 : decode cX1_readPart 6 = .ok (.getfield 9, 3) := by decide +kernel
theorem dX1_readPart_9 : decode cX1_readPart 9 = .ok (.invokevirtual 26, 3) := by decide +kernel
theorem dX1_readPart_12 : decode cX1_readPart 12 = .ok (.ireturn, 1) := by decide +kernel
theorem dX1_readPart_13 : decode cX1_readPart 13 = .ok (.aload_n 0, 1) := by decide +kernel
theorem dX1_readPart_14 : decode cX1_readPart 14 = .ok (.getfield 15, 3) := by decide +kernel
theorem dX1_readPart_17 : decode cX1_readPart 17 = .ok (.invokevirtual 26, 3) := by decide +kernel
theorem dX1_readPart_20 : decode cX1_readPart 20 = .ok (.istore_n 3, 1) := by decide +kernel
theorem dX1_readPart_21 : decode cX1_readPart 21 = .ok (.aload_n 0, 1) := by decide +kernel
theorem dX1_readPart_22 : decode cX1_readPart 22 = .ok (.iload_n 1, 1) := by decide +kernel
theorem dX1_readPart_23 : decode cX1_readPart 23 = .ok (.iconst 1, 1) := by decide +kernel
theorem dX1_readPart_24 : decode cX1_readPart 24 = .ok (.iadd, 1) := by decide +kernel
theorem dX1_readPart_25 : decode cX1_readPart 25 = .ok (.iload_n 2, 1) := by decide +kernel
theorem dX1_readPart_26 : decode cX1_readPart 26 = .ok (.iconst 1, 1) := by decide +kernel
theorem dX1_readPart_27 : decode cX1_readPart 27 = .ok (.iadd, 1) := by decide +kernel
theorem dX1_readPart_28 : decode cX1_readPart 28 = .ok (.invokevirtual 54, 3) := by decide +kernel
theorem dX1_readPart_31 : decode cX1_readPart 31 = .ok (.istore 4, 2) := by decide +kernel
theorem dX1_readPart_33 : decode cX1_readPart 33 = .ok (.aload_n 0, 1) := by decide +kernel
theorem dX1_readPart_34 : decode cX1_readPart 34 = .ok (.getfield 9, 3) := by decide +kernel
theorem dX1_readPart_37 : decode cX1_readPart 37 = .ok (.iload 4, 2) := by decide +kernel
theorem dX1_readPart_39 : decode cX1_readPart 39 = .ok (.iconst 1, 1) := by decide +kernel
theorem dX1_readPart_40 : decode cX1_readPart 40 = .ok (.iadd, 1) := by decide +kernel
theorem dX1_readPart_41 : decode cX1_readPart 41 = .ok (.invokevirtual 32, 3) := by decide +kernel
theorem dX1_readPart_44 : decode cX1_readPart 44 = .ok (.bipush 48, 2) := by decide +kernel
theorem dX1_readPart_46 : decode cX1_readPart 46 = .ok (.isub, 1) := by decide +kernel
theorem dX1_readPart_47 : decode cX1_readPart 47 = .ok (.istore 5, 2) := by decide +kernel
theorem dX1_readPart_49 : decode cX1_readPart 49 = .ok (.iconst 1, 1) := by decide +kernel
theorem dX1_readPart_50 : decode cX1_readPart 50 = .ok (.istore 6, 2) := by decide +kernel
theorem dX1_readPart_52 : decode cX1_readPart 52 = .ok (.iload 6, 2) := by decide +kernel
theorem dX1_readPart_54 : decode cX1_readPart 54 = .ok (.iload 5, 2) := by decide +kernel
theorem dX1_readPart_56 : decode cX1_readPart 56 = .ok (.if_icmp .ge 38, 3) := by decide +kernel
theorem dX1_readPart_59 : decode cX1_readPart 59 = .ok (.aload_n 0, 1) := by decide +kernel
theorem dX1_readPart_60 : decode cX1_readPart 60 = .ok (.getfield 15, 3) := by decide +kernel
theorem dX1_readPart_63 : decode cX1_readPart 63 = .ok (.invokevirtual 26, 3) := by decide +kernel
theorem dX1_readPart_66 : decode cX1_readPart 66 = .ok (.iload_n 3, 1) := by decide +kernel
theorem dX1_readPart_67 : decode cX1_readPart 67 = .ok (.if_icmp .le 27, 3) := by decide +kernel
theorem dX1_readPart_70 : decode cX1_readPart 70 = .ok (.aload_n 0, 1) := by decide +kernel
theorem dX1_readPart_71 : decode cX1_readPart 71 = .ok (.getfield 22, 3) := by decide +kernel
theorem dX1_readPart_74 : decode cX1_readPart 74 = .ok (.ifCond .ne 20, 3) := by decide +kernel
theorem dX1_readPart_77 : decode cX1_readPart 77 = .ok (.aload_n 0, 1) := by decide +kernel
theorem dX1_readPart_78 : decode cX1_readPart 78 = .ok (.iload_n 1, 1) := by decide +kernel
theorem dX1_readPart_79 : decode cX1_readPart 79 = .ok (.iconst 1, 1) := by decide +kernel
theorem dX1_readPart_80 : decode cX1_readPart 80 = .ok (.iadd, 1) := by decide +kernel
theorem dX1_readPart_81 : decode cX1_readPart 81 = .ok (.iload_n 2, 1) := by decide +kernel
theorem dX1_readPart_82 : decode cX1_readPart 82 = .ok (.iconst 1, 1) := by decide +kernel
theorem dX1_readPart_83 : decode cX1_readPart 83 = .ok (.iadd, 1) := by decide +kernel
theorem dX1_readPart_84 : decode cX1_readPart 84 = .ok (.invokevirtual 54, 3) := by decide +kernel
theorem dX1_readPart_87 : decode cX1_readPart 87 = .ok (.pop, 1) := by decide +kernel
theorem dX1_readPart_88 : decode cX1_readPart 88 = .ok (.iinc 6 1, 3) := by decide +kernel
theorem dX1_readPart_91 : decode cX1_readPart 91 = .ok (.goto (-39), 3) := by decide +kernel
theorem dX1_readPart_94 : decode cX1_readPart 94 = .ok (.iload 4, 2) := by decide +kernel
theorem dX1_readPart_96 : decode cX1_readPart 96 = .ok (.iconst 2, 1) := by decide +kernel
theorem dX1_readPart_97 : decode cX1_readPart 97 = .ok (.iadd, 1) := by decide +kernel
theorem dX1_readPart_98 : decode cX1_readPart 98 = .ok (.ireturn, 1) := by decide +kernel
theorem dX1_readSign_0 : decode cX1_readSign 0 = .ok (.iload_n 1, 1) := by decide +kernel
theorem dX1_readSign_1 : decode cX1_readSign 1 = .ok (.invokestatic 40, 3) := by decide +kernel
theorem dX1_readSign_4 : decode cX1_readSign 4 = .ok (.ifCond .eq 14, 3) := by decide +kernel
theorem dX1_readSign_7 : decode cX1_readSign 7 = .ok (.aload_n 0, 1) := by decide +kernel
theorem dX1_readSign_8 : decode cX1_readSign 8 = .ok (.iload_n 1, 1) := by decide +kernel
theorem dX1_readSign_9 : decode cX1_readSign 9 = .ok (.bipush 48, 2) := by decide +kernel
theorem dX1_readSign_11 : decode cX1_readSign 11 = .ok (.isub, 1) := by decide +kernel
theorem dX1_readSign_12 : decode cX1_readSign 12 = .ok (.putfield 18, 3) := by decide +kernel
theorem dX1_readSign_15 : decode cX1_readSign 15 = .ok (.goto 36, 3) := by decide +kernel
theorem dX1_readSign_18 : decode cX1_readSign 18 = .ok (.aload_n 0, 1) := by decide +kernel
theorem dX1_readSign_19 : decode cX1_readSign 19 = .ok (.aload_n 0, 1) := by decide +kernel
theorem dX1_readSign_20 : decode cX1_readSign 20 = .ok (.getfield 15, 3) := by decide +kernel
theorem dX1_readSign_23 : decode cX1_readSign 23 = .ok (.ldc 44, 2) := by decide +kernel
theorem dX1_readSign_25 : decode cX1_readSign 25 = .ok (.iload_n 1, 1) := by decide +kernel
theorem dX1_readSign_26 : decode cX1_readSign 26 = .ok (.i2c, 1) := by decide +kernel
theorem dX1_readSign_27 : decode cX1_readSign 27 = .ok (.invokevirtual 46, 3) := by decide +kernel
theorem dX1_readSign_30 : decode cX1_readSign 30 = .ok (.aload_n 0, 1) := by decide +kernel
theorem dX1_readSign_31 : decode cX1_readSign 31 = .ok (.getfield 18, 3) := by decide +kernel
theorem dX1_readSign_34 : decode cX1_readSign 34 = .ok (.invokestatic 70, 3) := by decide +kernel
theorem dX1_readSign_37 : decode cX1_readSign 37 = .ok (.invokevirtual 73, 3) := by decide +kernel
theorem dX1_readSign_40 : decode cX1_readSign 40 = .ok (.ifCond .ne 7, 3) := by decide +kernel
theorem dX1_readSign_43 : decode cX1_readSign 43 = .ok (.iconst 1, 1) := by decide +kernel
theorem dX1_readSign_44 : decode cX1_readSign 44 = .ok (.goto 4, 3) := by decide +kernel
theorem dX1_readSign_47 : decode cX1_readSign 47 = .ok (.iconst 0, 1) := by decide +kernel
theorem dX1_readSign_48 : decode cX1_readSign 48 = .ok (.putfield 22, 3) := by decide +kernel
theorem dX1_readSign_51 : decode cX1_readSign 51 = .ok (.return_, 1) := by decide +kernel
theorem dX2_init_0 : decode cX2_init 0 = .ok (.aload_n 0, 1) := by decide +kernel
theorem dX2_init_1 : decode cX2_init 1 = .ok (.invokespecial 3, 3) := by decide +kernel
theorem dX2_init_4 : decode cX2_init 4 = .ok (.aload_n 0, 1) := by decide +kernel
theorem dX2_init_5 : decode cX2_init 5 = .ok (.iload_n 1, 1) := by decide +kernel
theorem dX2_init_6 : decode cX2_init 6 = .ok (.iconst 0, 1) := by decide +kernel
theorem dX2_init_7 : decode cX2_init 7 = .ok (.invokestatic 9, 3) := by decide +kernel
theorem dX2_init_10 : decode cX2_init 10 = .ok (.newarray .int, 2) := by decide +kernel
theorem dX2_init_12 : decode cX2_init 12 = .ok (.putfield 15, 3) := by decide +kernel
theorem dX2_init_15 : decode cX2_init 15 = .ok (.aload_n 0, 1) := by decide +kernel
theorem dX2_init_16 : decode cX2_init 16 = .ok (.iconst 0, 1) := by decide +kernel
theorem dX2_init_17 : decode cX2_init 17 = .ok (.putfield 21, 3) := by decide +kernel
theorem dX2_init_20 : decode cX2_init 20 = .ok (.return_, 1) := by decide +kernel
theorem dX2_size_0 : decode cX2_size 0 = .ok (.aload_n 0, 1) := by decide +kernel
theorem dX2_size_1 : decode cX2_size 1 = .ok (.getfield 21, 3) := by decide +kernel
theorem dX2_size_4 : decode cX2_size 4 = .ok (.ireturn, 1) := by decide +kernel
theorem dX2_get_0 : decode cX2_get 0 = .ok (.iload_n 1, 1) := by decide +kernel
theorem dX2_get_1 : decode cX2_get 1 = .ok (.ifCond .lt 29, 3) := by decide +kernel
theorem dX2_get_4 : decode cX2_get 4 = .ok (.iload_n 1, 1) := by decide +kernel
theorem dX2_get_5 : decode cX2_get 5 = .ok (.aload_n 0, 1) := by decide +kernel
theorem dX2_get_6 : decode cX2_get 6 = .ok (.getfield 21, 3) := by decide +kernel
theorem dX2_get_9 : decode cX2_get 9 = .ok (.if_icmp .ge 21, 3) := by decide +kernel
theorem dX2_get_12 : decode cX2_get 12 = .ok (.iload_n 1, 1) := by decide +kernel
theorem dX2_get_13 : decode cX2_get 13 = .ok (.aload_n 0, 1) := by decide +kernel
theorem dX2_get_14 : decode cX2_get 14 = .ok (.getfield 15, 3) := by decide +kernel
theorem dX2_get_17 : decode cX2_get 17 = .ok (.arraylength, 1) := by decide +kernel
theorem dX2_get_18 : decode cX2_get 18 = .ok (.if_icmp .ge 12, 3) := by decide +kernel
theorem dX2_get_21 : decode cX2_get 21 = .ok (.aload_n 0, 1) := by decide +kernel
theorem dX2_get_22 : decode cX2_get 22 = .ok (.getfield 15, 3) := by decide +kernel
theorem dX2_get_25 : decode cX2_get 25 = .ok (.iload_n 1, 1) := by decide +kernel
theorem dX2_get_26 : decode cX2_get 26 = .ok (.iaload, 1) := by decide +kernel
theorem dX2_get_27 : decode cX2_get 27 = .ok (.goto 5, 3) := by decide +kernel
theorem dX2_get_30 : decode cX2_get 30 = .ok (.bipush (-6), 2) := by decide +kernel
theorem dX2_get_32 : decode cX2_get 32 = .ok (.ireturn, 1) := by decide +kernel
theorem dX2_add_0 : decode cX2_add 0 = .ok (.aload_n 0, 1) := by decide +kernel
theorem dX2_add_1 : decode cX2_add 1 = .ok (.getfield 21, 3) := by decide +kernel
theorem dX2_add_4 : decode cX2_add 4 = .ok (.ifCond .lt 15, 3) := by decide +kernel
theorem dX2_add_7 : decode cX2_add 7 = .ok (.aload_n 0, 1) := by decide +kernel
theorem dX2_add_8 : decode cX2_add 8 = .ok (.getfield 21, 3) := by decide +kernel
theorem dX2_add_11 : decode cX2_add 11 = .ok (.aload_n 0, 1) := by decide +kernel
theorem dX2_add_12 : decode cX2_add 12 = .ok (.getfield 15, 3) := by decide +kernel
theorem dX2_add_15 : decode cX2_add 15 = .ok (.arraylength, 1) := by decide +kernel
theorem dX2_add_16 : decode cX2_add 16 = .ok (.if_icmp .lt 5, 3) := by decide +kernel
theorem dX2_add_19 : decode cX2_add 19 = .ok (.iconst 0, 1) := by decide +kernel
theorem dX2_add_20 : decode cX2_add 20 = .ok (.ireturn, 1) := by decide +kernel
theorem dX2_add_21 : decode cX2_add 21 = .ok (.aload_n 0, 1) := by decide +kernel
theorem dX2_add_22 : decode cX2_add 22 = .ok (.getfield 15, 3) := by decide +kernel
theorem dX2_add_25 : decode cX2_add 25 = .ok (.aload_n 0, 1) := by decide +kernel
theorem dX2_add_26 : decode cX2_add 26 = .ok (.getfield 21, 3) := by decide +kernel
theorem dX2_add_29 : decode cX2_add 29 = .ok (.iload_n 1, 1) := by decide +kernel
theorem dX2_add_30 : decode cX2_add 30 = .ok (.iastore, 1) := by decide +kernel
theorem dX2_add_31 : decode cX2_add 31 = .ok (.aload_n 0, 1) := by decide +kernel
theorem dX2_add_32 : decode cX2_add 32 = .ok (.dup, 1) := by decide +kernel
theorem dX2_add_33 : decode cX2_add 33 = .ok (.getfield 21, 3) := by decide +kernel
theorem dX2_add_36 : decode cX2_add 36 = .ok (.iconst 1, 1) := by decide +kernel
theorem dX2_add_37 : decode cX2_add 37 = .ok (.iadd, 1) := by decide +kernel
theorem dX2_add_38 : decode cX2_add 38 = .ok (.putfield 21, 3) := by decide +kernel
theorem dX2_add_41 : decode cX2_add 41 = .ok (.iconst 1, 1) := by decide +kernel
theorem dX2_add_42 : decode cX2_add 42 = .ok (.ireturn, 1) := by decide +kernel
theorem dX2_clear_0 : decode cX2_clear 0 = .ok (.aload_n 0, 1) := by decide +kernel
theorem dX2_clear_1 : decode cX2_clear 1 = .ok (.iconst 0, 1) := by decide +kernel
theorem dX2_clear_2 : decode cX2_clear 2 = .ok (.putfield 21, 3) := by decide +kernel
theorem dX2_clear_5 : decode cX2_clear 5 = .ok (.return_, 1) := by decide +kernel
theorem dX2_addAll_0 : decode cX2_addAll 0 = .ok (.aload_n 1, 1) := by decide +kernel
theorem dX2_addAll_1 : decode cX2_addAll 1 = .ok (.invokevirtual 25, 3) := by decide +kernel
theorem dX2_addAll_4 : decode cX2_addAll 4 = .ok (.istore_n 2, 1) := by decide +kernel
theorem dX2_addAll_5 : decode cX2_addAll 5 = .ok (.iconst 0, 1) := by decide +kernel
theorem dX2_addAll_6 : decode cX2_addAll 6 = .ok (.istore_n 3, 1) := by decide +kernel
theorem dX2_addAll_7 : decode cX2_addAll 7 = .ok (.iload_n 3, 1) := by decide +kernel
theorem dX2_addAll_8 : decode cX2_addAll 8 = .ok (.iload_n 2, 1) := by decide +kernel
theorem dX2_addAll_9 : decode cX2_addAll 9 = .ok (.if_icmp .ge 19, 3) := by decide +kernel
theorem dX2_addAll_12 : decode cX2_addAll 12 = .ok (.aload_n 0, 1) := by decide +kernel
theorem dX2_addAll_13 : decode cX2_addAll 13 = .ok (.aload_n 1, 1) := by decide +kernel
theorem dX2_addAll_14 : decode cX2_addAll 14 = .ok (.iload_n 3, 1) := by decide +kernel
theorem dX2_addAll_15 : decode cX2_addAll 15 = .ok (.invokevirtual 28, 3) := by decide +kernel
theorem dX2_addAll_18 : decode cX2_addAll 18 = .ok (.invokevirtual 32, 3) := by decide +kernel
theorem dX2_addAll_21 : decode cX2_addAll 21 = .ok (.pop, 1) := by decide +kernel
theorem dX2_addAll_22 : decode cX2_addAll 22 = .ok (.iinc 3 1, 3) := by decide +kernel
theorem dX2_addAll_25 : decode cX2_addAll 25 = .ok (.goto (-18), 3) := by decide +kernel
theorem dX2_addAll_28 : decode cX2_addAll 28 = .ok (.return_, 1) := by decide +kernel
theorem dX2_become_0 : decode cX2_become 0 = .ok (.aload_n 0, 1) := by decide +kernel
theorem dX2_become_1 : decode cX2_become 1 = .ok (.invokevirtual 36, 3) := by decide +kernel
theorem dX2_become_4 : decode cX2_become 4 = .ok (.aload_n 0, 1) := by decide +kernel
theorem dX2_become_5 : decode cX2_become 5 = .ok (.aload_n 1, 1) := by decide +kernel
theorem dX2_become_6 : decode cX2_become 6 = .ok (.invokevirtual 39, 3) := by decide +kernel
theorem dX2_become_9 : decode cX2_become 9 = .ok (.return_, 1) := by decide +kernel
theorem dX2_isLike_0 : decode cX2_isLike 0 = .ok (.aload_n 0, 1) := by decide +kernel
theorem dX2_isLike_1 : decode cX2_isLike 1 = .ok (.getfield 21, 3) := by decide +kernel
theorem dX2_isLike_4 : decode cX2_isLike 4 = .ok (.aload_n 1, 1) := by decide +kernel
theorem dX2_isLike_5 : decode cX2_isLike 5 = .ok (.invokevirtual 25, 3) := by decide +kernel
theorem dX2_isLike_8 : decode cX2_isLike 8 = .ok (.if_icmp .eq 5, 3) := by decide +kernel
theorem dX2_isLike_11 : decode cX2_isLike 11 = .ok (.iconst 0, 1) := by decide +kernel
theorem dX2_isLike_12 : decode cX2_isLike 12 = .ok (.ireturn, 1) := by decide +kernel
theorem dX2_isLike_13 : decode cX2_isLike 13 = .ok (.iconst 0, 1) := by decide +kernel
theorem dX2_isLike_14 : decode cX2_isLike 14 = .ok (.istore_n 2, 1) := by decide +kernel
theorem dX2_isLike_15 : decode cX2_isLike 15 = .ok (.iload_n 2, 1) := by decide +kernel
theorem dX2_isLike_16 : decode cX2_isLike 16 = .ok (.aload_n 0, 1) := by decide +kernel
theorem dX2_isLike_17 : decode cX2_isLike 17 = .ok (.getfield 21, 3) := by decide +kernel
theorem dX2_isLike_20 : decode cX2_isLike 20 = .ok (.if_icmp .ge 24, 3) := by decide +kernel
theorem dX2_isLike_23 : decode cX2_isLike 23 = .ok (.aload_n 0, 1) := by decide +kernel
theorem dX2_isLike_24 : decode cX2_isLike 24 = .ok (.iload_n 2, 1) := by decide +kernel
theorem dX2_isLike_25 : decode cX2_isLike 25 = .ok (.invokevirtual 28, 3) := by decide +kernel
theorem dX2_isLike_28 : decode cX2_isLike 28 = .ok (.aload_n 1, 1) := by decide +kernel
theorem dX2_isLike_29 : decode cX2_isLike 29 = .ok (.iload_n 2, 1) := by decide +kernel
theorem dX2_isLike_30 : decode cX2_isLike 30 = .ok (.invokevirtual 28, 3) := by decide +kernel
theorem dX2_isLike_33 : decode cX2_isLike 33 = .ok (.if_icmp .eq 5, 3) := by decide +kernel
theorem dX2_isLike_36 : decode cX2_isLike 36 = .ok (.iconst 0, 1) := by decide +kernel
theorem dX2_isLike_37 : decode cX2_isLike 37 = .ok (.ireturn, 1) := by decide +kernel
theorem dX2_isLike_38 : decode cX2_isLike 38 = .ok (.iinc 2 1, 3) := by decide +kernel
theorem dX2_isLike_41 : decode cX2_isLike 41 = .ok (.goto (-26), 3) := by decide +kernel
theorem dX2_isLike_44 : decode cX2_isLike 44 = .ok (.iconst 1, 1) := by decide +kernel
theorem dX2_isLike_45 : decode cX2_isLike 45 = .ok (.ireturn, 1) := by decide +kernel
theorem dX2_comesAgainAfter_0 : decode cX2_comesAgainAfter 0 = .ok (.iload_n 1, 1) := by decide +kernel
theorem dX2_comesAgainAfter_1 : decode cX2_comesAgainAfter 1 = .ok (.istore_n 2, 1) := by decide +kernel
theorem dX2_comesAgainAfter_2 : decode cX2_comesAgainAfter 2 = .ok (.iload_n 2, 1) := by decide +kernel
theorem dX2_comesAgainAfter_3 : decode cX2_comesAgainAfter 3 = .ok (.aload_n 0, 1) := by decide +kernel
theorem dX2_comesAgainAfter_4 : decode cX2_comesAgainAfter 4 = .ok (.getfield 21, 3) := by decide +kernel
theorem dX2_comesAgainAfter_7 : decode cX2_comesAgainAfter 7 = .ok (.if_icmp .ge 26, 3) := by decide +kernel
theorem dX2_comesAgainAfter_10 : decode cX2_comesAgainAfter 10 = .ok (.aload_n 0, 1) := by decide +kernel
theorem dX2_comesAgainAfter_11 : decode cX2_comesAgainAfter 11 = .ok (.iload_n 2, 1) := by decide +kernel
theorem dX2_comesAgainAfter_12 : decode cX2_comesAgainAfter 12 = .ok (.invokevirtual 28, 3) := by decide +kernel
theorem dX2_comesAgainAfter_15 : decode cX2_comesAgainAfter 15 = .ok (.aload_n 0, 1) := by decide +kernel
theorem dX2_comesAgainAfter_16 : decode cX2_comesAgainAfter 16 = .ok (.iload_n 2, 1) := by decide +kernel
theorem dX2_comesAgainAfter_17 : decode cX2_comesAgainAfter 17 = .ok (.iload_n 1, 1) := by decide +kernel
theorem dX2_comesAgainAfter_18 : decode cX2_comesAgainAfter 18 = .ok (.isub, 1) := by decide +kernel
theorem dX2_comesAgainAfter_19 : decode cX2_comesAgainAfter 19 = .ok (.invokevirtual 28, 3) := by decide +kernel
theorem dX2_comesAgainAfter_22 : decode cX2_comesAgainAfter 22 = .ok (.if_icmp .eq 5, 3) := by decide +kernel
theorem dX2_comesAgainAfter_25 : decode cX2_comesAgainAfter 25 = .ok (.iconst 0, 1) := by decide +kernel
theorem dX2_comesAgainAfter_26 : decode cX2_comesAgainAfter 26 = .ok (.ireturn, 1) := by decide +kernel
theorem dX2_comesAgainAfter_27 : decode cX2_comesAgainAfter 27 = .ok (.iinc 2 1, 3) := by decide +kernel
theorem dX2_comesAgainAfter_30 : decode cX2_comesAgainAfter 30 = .ok (.goto (-28), 3) := by decide +kernel
theorem dX2_comesAgainAfter_33 : decode cX2_comesAgainAfter 33 = .ok (.iconst 1, 1) := by decide +kernel
theorem dX2_comesAgainAfter_34 : decode cX2_comesAgainAfter 34 = .ok (.ireturn, 1) := by decide +kernel
theorem dX3_init_0 : decode cX3_init 0 = .ok (.aload_n 0, 1) := by decide +kernel
theorem dX3_init_1 : decode cX3_init 1 = .ok (.invokespecial 3, 3) := by decide +kernel
theorem dX3_init_4 : decode cX3_init 4 = .ok (.aload_n 0, 1) := by decide +kernel
theorem dX3_init_5 : decode cX3_init 5 = .ok (.bipush 120, 2) := by decide +kernel
theorem dX3_init_7 : decode cX3_init 7 = .ok (.newarray .int, 2) := by decide +kernel
theorem dX3_init_9 : decode cX3_init 9 = .ok (.putfield 9, 3) := by decide +kernel
theorem dX3_init_12 : decode cX3_init 12 = .ok (.aload_n 0, 1) := by decide +kernel
theorem dX3_init_13 : decode cX3_init 13 = .ok (.bipush 120, 2) := by decide +kernel
theorem dX3_init_15 : decode cX3_init 15 = .ok (.newarray .boolean, 2) := by decide +kernel
theorem dX3_init_17 : decode cX3_init 17 = .ok (.putfield 15, 3) := by decide +kernel
theorem dX3_init_20 : decode cX3_init 20 = .ok (.aload_n 0, 1) := by decide +kernel
theorem dX3_init_21 : decode cX3_init 21 = .ok (.bipush 9, 2) := by decide +kernel
theorem dX3_init_23 : decode cX3_init 23 = .ok (.newarray .int, 2) := by decide +kernel
theorem dX3_init_25 : decode cX3_init 25 = .ok (.putfield 19, 3) := by decide +kernel
theorem dX3_init_28 : decode cX3_init 28 = .ok (.aload_n 0, 1) := by decide +kernel
theorem dX3_init_29 : decode cX3_init 29 = .ok (.bipush 9, 2) := by decide +kernel
theorem dX3_init_31 : decode cX3_init 31 = .ok (.newarray .int, 2) := by decide +kernel
theorem dX3_init_33 : decode cX3_init 33 = .ok (.putfield 22, 3) := by decide +kernel
theorem dX3_init_36 : decode cX3_init 36 = .ok (.return_, 1) := by decide +kernel
theorem dX3_shortForm_0 : decode cX3_shortForm 0 = .ok (.aload_n 0, 1) := by decide +kernel
theorem dX3_shortForm_1 : decode cX3_shortForm 1 = .ok (.aload_n 1, 1) := by decide +kernel
theorem dX3_shortForm_2 : decode cX3_shortForm 2 = .ok (.invokevirtual 25, 3) := by decide +kernel
theorem dX3_shortForm_5 : decode cX3_shortForm 5 = .ok (.aload_n 0, 1) := by decide +kernel
theorem dX3_shortForm_6 : decode cX3_shortForm 6 = .ok (.aload_n 1, 1) := by decide +kernel
theorem dX3_shortForm_7 : decode cX3_shortForm 7 = .ok (.aload_n 2, 1) := by decide +kernel
theorem dX3_shortForm_8 : decode cX3_shortForm 8 = .ok (.invokevirtual 29, 3) := by decide +kernel
theorem dX3_shortForm_11 : decode cX3_shortForm 11 = .ok (.return_, 1) := by decide +kernel
theorem dX3_markWhatStays_0 : decode cX3_markWhatStays 0 = .ok (.aload_n 0, 1) := by decide +kernel
theorem dX3_markWhatStays_1 : decode cX3_markWhatStays 1 = .ok (.getfield 19, 3) := by decide +kernel
theorem dX3_markWhatStays_4 : decode cX3_markWhatStays 4 = .ok (.iconst (-1), 1) := by decide +kernel
theorem dX3_markWhatStays_5 : decode cX3_markWhatStays 5 = .ok (.invokestatic 33, 3) := by decide +kernel
theorem dX3_markWhatStays_8 : decode cX3_markWhatStays 8 = .ok (.aload_n 1, 1) := by decide +kernel
theorem dX3_markWhatStays_9 : decode cX3_markWhatStays 9 = .ok (.invokevirtual 39, 3) := by decide +kernel
theorem dX3_markWhatStays_12 : decode cX3_markWhatStays 12 = .ok (.aload_n 0, 1) := by decide +kernel
theorem dX3_markWhatStays_13 : decode cX3_markWhatStays 13 = .ok (.getfield 15, 3) := by decide +kernel
theorem dX3_markWhatStays_16 : decode cX3_markWhatStays 16 = .ok (.arraylength, 1) := by decide +kernel
theorem dX3_markWhatStays_17 : decode cX3_markWhatStays 17 = .ok (.invokestatic 45, 3) := by decide +kernel
theorem dX3_markWhatStays_20 : decode cX3_markWhatStays 20 = .ok (.istore_n 2, 1) := by decide +kernel
theorem dX3_markWhatStays_21 : decode cX3_markWhatStays 21 = .ok (.iconst 0, 1) := by decide +kernel
theorem dX3_markWhatStays_22 : decode cX3_markWhatStays 22 = .ok (.istore_n 3, 1) := by decide +kernel
theorem dX3_markWhatStays_23 : decode cX3_markWhatStays 23 = .ok (.iload_n 3, 1) := by decide +kernel
theorem dX3_markWhatStays_24 : decode cX3_markWhatStays 24 = .ok (.iload_n 2, 1) := by decide +kernel
theorem dX3_markWhatStays_25 : decode cX3_markWhatStays 25 = .ok (.if_icmp .ge 135, 3) := by decide +kernel
theorem dX3_markWhatStays_28 : decode cX3_markWhatStays 28 = .ok (.aload_n 1, 1) := by decide +kernel
theorem dX3_markWhatStays_29 : decode cX3_markWhatStays 29 = .ok (.iload_n 3, 1) := by decide +kernel
theorem dX3_markWhatStays_30 : decode cX3_markWhatStays 30 = .ok (.invokevirtual 51, 3) := by decide +kernel
theorem dX3_markWhatStays_33 : decode cX3_markWhatStays 33 = .ok (.invokestatic 55, 3) := by decide +kernel
theorem dX3_markWhatStays_36 : decode cX3_markWhatStays 36 = .ok (.iconst 1, 1) := by decide +kernel
theorem dX3_markWhatStays_37 : decode cX3_markWhatStays 37 = .ok (.iadd, 1) := by decide +kernel
theorem dX3_markWhatStays_38 : decode cX3_markWhatStays 38 = .ok (.istore 4, 2) := by decide +kernel
theorem dX3_markWhatStays_40 : decode cX3_markWhatStays 40 = .ok (.iload 4, 2) := by decide +kernel
theorem dX3_markWhatStays_42 : decode cX3_markWhatStays 42 = .ok (.iconst 1, 1) := by decide +kernel
theorem dX3_markWhatStays_43 : decode cX3_markWhatStays 43 = .ok (.if_icmp .lt 111, 3) := by decide +kernel
theorem dX3_markWhatStays_46 : decode cX3_markWhatStays 46 = .ok (.iload 4, 2) := by decide +kernel
theorem dX3_markWhatStays_48 : decode cX3_markWhatStays 48 = .ok (.bipush 7, 2) := by decide +kernel
theorem dX3_markWhatStays_50 : decode cX3_markWhatStays 50 = .ok (.if_icmp .le 6, 3) := by decide +kernel
theorem dX3_markWhatStays_53 : decode cX3_markWhatStays 53 = .ok (.goto 101, 3) := by decide +kernel
theorem dX3_markWhatStays_56 : decode cX3_markWhatStays 56 = .ok (.aload_n 0, 1) := by decide +kernel
theorem dX3_markWhatStays_57 : decode cX3_markWhatStays 57 = .ok (.getfield 19, 3) := by decide +kernel
theorem dX3_markWhatStays_60 : decode cX3_markWhatStays 60 = .ok (.iload 4, 2) := by decide +kernel
theorem dX3_markWhatStays_62 : decode cX3_markWhatStays 62 = .ok (.iaload, 1) := by decide +kernel
theorem dX3_markWhatStays_63 : decode cX3_markWhatStays 63 = .ok (.istore 5, 2) := by decide +kernel
theorem dX3_markWhatStays_65 : decode cX3_markWhatStays 65 = .ok (.iload 5, 2) := by decide +kernel
theorem dX3_markWhatStays_67 : decode cX3_markWhatStays 67 = .ok (.ifCond .lt 64, 3) := by decide +kernel
theorem dX3_markWhatStays_70 : decode cX3_markWhatStays 70 = .ok (.iload 5, 2) := by decide +kernel
theorem dX3_markWhatStays_72 : decode cX3_markWhatStays 72 = .ok (.iload_n 3, 1) := by decide +kernel
theorem dX3_markWhatStays_73 : decode cX3_markWhatStays 73 = .ok (.if_icmp .ge 58, 3) := by decide +kernel
theorem dX3_markWhatStays_76 : decode cX3_markWhatStays 76 = .ok (.aload_n 0, 1) := by decide +kernel
theorem dX3_markWhatStays_77 : decode cX3_markWhatStays 77 = .ok (.iload 4, 2) := by decide +kernel
theorem dX3_markWhatStays_79 : decode cX3_markWhatStays 79 = .ok (.invokevirtual 58, 3) := by decide +kernel
theorem dX3_markWhatStays_82 : decode cX3_markWhatStays 82 = .ok (.ifCond .eq 49, 3) := by decide +kernel
theorem dX3_markWhatStays_85 : decode cX3_markWhatStays 85 = .ok (.aload_n 1, 1) := by decide +kernel
theorem dX3_markWhatStays_86 : decode cX3_markWhatStays 86 = .ok (.iload 5, 2) := by decide +kernel
theorem dX3_markWhatStays_88 : decode cX3_markWhatStays 88 = .ok (.invokevirtual 51, 3) := by decide +kernel
theorem dX3_markWhatStays_91 : decode cX3_markWhatStays 91 = .ok (.aload_n 1, 1) := by decide +kernel
theorem dX3_markWhatStays_92 : decode cX3_markWhatStays 92 = .ok (.iload_n 3, 1) := by decide +kernel
theorem dX3_markWhatStays_93 : decode cX3_markWhatStays 93 = .ok (.invokevirtual 51, 3) := by decide +kernel
theorem dX3_markWhatStays_96 : decode cX3_markWhatStays 96 = .ok (.if_icmp .eq 35, 3) := by decide +kernel
theorem dX3_markWhatStays_99 : decode cX3_markWhatStays 99 = .ok (.aload_n 0, 1) := by decide +kernel
theorem dX3_markWhatStays_100 : decode cX3_markWhatStays 100 = .ok (.getfield 15, 3) := by decide +kernel
theorem dX3_markWhatStays_103 : decode cX3_markWhatStays 103 = .ok (.iload_n 3, 1) := by decide +kernel
theorem dX3_markWhatStays_104 : decode cX3_markWhatStays 104 = .ok (.iconst 0, 1) := by decide +kernel
theorem dX3_markWhatStays_105 : decode cX3_markWhatStays 105 = .ok (.bastore, 1) := by decide +kernel
theorem dX3_markWhatStays_106 : decode cX3_markWhatStays 106 = .ok (.aload_n 0, 1) := by decide +kernel
theorem dX3_markWhatStays_107 : decode cX3_markWhatStays 107 = .ok (.getfield 15, 3) := by decide +kernel
theorem dX3_markWhatStays_110 : decode cX3_markWhatStays 110 = .ok (.iload 5, 2) := by decide +kernel
theorem dX3_markWhatStays_112 : decode cX3_markWhatStays 112 = .ok (.iconst 0, 1) := by decide +kernel
theorem dX3_markWhatStays_113 : decode cX3_markWhatStays 113 = .ok (.bastore, 1) := by decide +kernel
theorem dX3_markWhatStays_114 : decode cX3_markWhatStays 114 = .ok (.aload_n 0, 1) := by decide +kernel
theorem dX3_markWhatStays_115 : decode cX3_markWhatStays 115 = .ok (.getfield 19, 3) := by decide +kernel
theorem dX3_markWhatStays_118 : decode cX3_markWhatStays 118 = .ok (.iload 4, 2) := by decide +kernel
theorem dX3_markWhatStays_120 : decode cX3_markWhatStays 120 = .ok (.aload_n 0, 1) := by decide +kernel
theorem dX3_markWhatStays_121 : decode cX3_markWhatStays 121 = .ok (.getfield 9, 3) := by decide +kernel
theorem dX3_markWhatStays_124 : decode cX3_markWhatStays 124 = .ok (.iload 5, 2) := by decide +kernel
theorem dX3_markWhatStays_126 : decode cX3_markWhatStays 126 = .ok (.iaload, 1) := by decide +kernel
theorem dX3_markWhatStays_127 : decode cX3_markWhatStays 127 = .ok (.iastore, 1) := by decide +kernel
theorem dX3_markWhatStays_128 : decode cX3_markWhatStays 128 = .ok (.goto 26, 3) := by decide +kernel
theorem dX3_markWhatStays_131 : decode cX3_markWhatStays 131 = .ok (.aload_n 0, 1) := by decide +kernel
theorem dX3_markWhatStays_132 : decode cX3_markWhatStays 132 = .ok (.getfield 15, 3) := by decide +kernel
theorem dX3_markWhatStays_135 : decode cX3_markWhatStays 135 = .ok (.iload_n 3, 1) := by decide +kernel
theorem dX3_markWhatStays_136 : decode cX3_markWhatStays 136 = .ok (.iconst 1, 1) := by decide +kernel
theorem dX3_markWhatStays_137 : decode cX3_markWhatStays 137 = .ok (.bastore, 1) := by decide +kernel
theorem dX3_markWhatStays_138 : decode cX3_markWhatStays 138 = .ok (.aload_n 0, 1) := by decide +kernel
theorem dX3_markWhatStays_139 : decode cX3_markWhatStays 139 = .ok (.getfield 9, 3) := by decide +kernel
theorem dX3_markWhatStays_142 : decode cX3_markWhatStays 142 = .ok (.iload_n 3, 1) := by decide +kernel
theorem dX3_markWhatStays_143 : decode cX3_markWhatStays 143 = .ok (.iload 5, 2) := by decide +kernel
theorem dX3_markWhatStays_145 : decode cX3_markWhatStays 145 = .ok (.iastore, 1) := by decide +kernel
theorem dX3_markWhatStays_146 : decode cX3_markWhatStays 146 = .ok (.aload_n 0, 1) := by decide +kernel
theorem dX3_markWhatStays_147 : decode cX3_markWhatStays 147 = .ok (.getfield 19, 3) := by decide +kernel
theorem dX3_markWhatStays_150 : decode cX3_markWhatStays 150 = .ok (.iload 4, 2) := by decide +kernel
theorem dX3_markWhatStays_152 : decode cX3_markWhatStays 152 = .ok (.iload_n 3, 1) := by decide +kernel
theorem dX3_markWhatStays_153 : decode cX3_markWhatStays 153 = .ok (.iastore, 1) := by decide +kernel
theorem dX3_markWhatStays_154 : decode cX3_markWhatStays 154 = .ok (.iinc 3 1, 3) := by decide +kernel
theorem dX3_markWhatStays_157 : decode cX3_markWhatStays 157 = .ok (.goto (-134), 3) := by decide +kernel
theorem dX3_markWhatStays_160 : decode cX3_markWhatStays 160 = .ok (.return_, 1) := by decide +kernel
theorem dX3_isFree_0 : decode cX3_isFree 0 = .ok (.aload_n 0, 1) := by decide +kernel
theorem dX3_isFree_1 : decode cX3_isFree 1 = .ok (.getfield 19, 3) := by decide +kernel
theorem dX3_isFree_4 : decode cX3_isFree 4 = .ok (.iload_n 1, 1) := by decide +kernel
theorem dX3_isFree_5 : decode cX3_isFree 5 = .ok (.iaload, 1) := by decide +kernel
theorem dX3_isFree_6 : decode cX3_isFree 6 = .ok (.aload_n 0, 1) := by decide +kernel
theorem dX3_isFree_7 : decode cX3_isFree 7 = .ok (.getfield 19, 3) := by decide +kernel
theorem dX3_isFree_10 : decode cX3_isFree 10 = .ok (.iload_n 1, 1) := by decide +kernel
theorem dX3_isFree_11 : decode cX3_isFree 11 = .ok (.iconst 1, 1) := by decide +kernel
theorem dX3_isFree_12 : decode cX3_isFree 12 = .ok (.isub, 1) := by decide +kernel
theorem dX3_isFree_13 : decode cX3_isFree 13 = .ok (.iaload, 1) := by decide +kernel
theorem dX3_isFree_14 : decode cX3_isFree 14 = .ok (.if_icmp .le 24, 3) := by decide +kernel
theorem dX3_isFree_17 : decode cX3_isFree 17 = .ok (.aload_n 0, 1) := by decide +kernel
theorem dX3_isFree_18 : decode cX3_isFree 18 = .ok (.getfield 19, 3) := by decide +kernel
theorem dX3_isFree_21 : decode cX3_isFree 21 = .ok (.iload_n 1, 1) := by decide +kernel
theorem dX3_isFree_22 : decode cX3_isFree 22 = .ok (.iaload, 1) := by decide +kernel
theorem dX3_isFree_23 : decode cX3_isFree 23 = .ok (.aload_n 0, 1) := by decide +kernel
theorem dX3_isFree_24 : decode cX3_isFree 24 = .ok (.getfield 19, 3) := by decide +kernel
theorem dX3_isFree_27 : decode cX3_isFree 27 = .ok (.iload_n 1, 1) := by decide +kernel
theorem dX3_isFree_28 : decode cX3_isFree 28 = .ok (.iconst 1, 1) := by decide +kernel
theorem dX3_isFree_29 : decode cX3_isFree 29 = .ok (.iadd, 1) := by decide +kernel
theorem dX3_isFree_30 : decode cX3_isFree 30 = .ok (.iaload, 1) := by decide +kernel
theorem dX3_isFree_31 : decode cX3_isFree 31 = .ok (.if_icmp .le 7, 3) := by decide +kernel
theorem dX3_isFree_34 : decode cX3_isFree 34 = .ok (.iconst 1, 1) := by decide +kernel
theorem dX3_isFree_35 : decode cX3_isFree 35 = .ok (.goto 4, 3) := by decide +kernel
theorem dX3_isFree_38 : decode cX3_isFree 38 = .ok (.iconst 0, 1) := by decide +kernel
theorem dX3_isFree_39 : decode cX3_isFree 39 = .ok (.ireturn, 1) := by decide +kernel
theorem dX3_putLeastFirst_0 : decode cX3_putLeastFirst 0 = .ok (.aload_n 2, 1) := by decide +kernel
theorem dX3_putLeastFirst_1 : decode cX3_putLeastFirst 1 = .ok (.invokevirtual 62, 3) := by decide +kernel
theorem dX3_putLeastFirst_4 : decode cX3_putLeastFirst 4 = .ok (.aload_n 1, 1) := by decide +kernel
theorem dX3_putLeastFirst_5 : decode cX3_putLeastFirst 5 = .ok (.invokevirtual 39, 3) := by decide +kernel
theorem dX3_putLeastFirst_8 : decode cX3_putLeastFirst 8 = .ok (.aload_n 0, 1) := by decide +kernel
theorem dX3_putLeastFirst_9 : decode cX3_putLeastFirst 9 = .ok (.getfield 15, 3) := by decide +kernel
theorem dX3_putLeastFirst_12 : decode cX3_putLeastFirst 12 = .ok (.arraylength, 1) := by decide +kernel
theorem dX3_putLeastFirst_13 : decode cX3_putLeastFirst 13 = .ok (.invokestatic 45, 3) := by decide +kernel
theorem dX3_putLeastFirst_16 : decode cX3_putLeastFirst 16 = .ok (.istore_n 3, 1) := by decide +kernel
theorem dX3_putLeastFirst_17 : decode cX3_putLeastFirst 17 = .ok (.aload_n 0, 1) := by decide +kernel
theorem dX3_putLeastFirst_18 : decode cX3_putLeastFirst 18 = .ok (.getfield 22, 3) := by decide +kernel
theorem dX3_putLeastFirst_21 : decode cX3_putLeastFirst 21 = .ok (.iload_n 3, 1) := by decide +kernel
theorem dX3_putLeastFirst_22 : decode cX3_putLeastFirst 22 = .ok (.invokestatic 33, 3) := by decide +kernel
theorem dX3_putLeastFirst_25 : decode cX3_putLeastFirst 25 = .ok (.iconst 1, 1) := by decide +kernel
theorem dX3_putLeastFirst_26 : decode cX3_putLeastFirst 26 = .ok (.istore 4, 2) := by decide +kernel
theorem dX3_putLeastFirst_28 : decode cX3_putLeastFirst 28 = .ok (.iload 4, 2) := by decide +kernel
theorem dX3_putLeastFirst_30 : decode cX3_putLeastFirst 30 = .ok (.bipush 7, 2) := by decide +kernel
theorem dX3_putLeastFirst_32 : decode cX3_putLeastFirst 32 = .ok (.if_icmp .gt 24, 3) := by decide +kernel
theorem dX3_putLeastFirst_35 : decode cX3_putLeastFirst 35 = .ok (.aload_n 0, 1) := by decide +kernel
theorem dX3_putLeastFirst_36 : decode cX3_putLeastFirst 36 = .ok (.getfield 22, 3) := by decide +kernel
theorem dX3_putLeastFirst_39 : decode cX3_putLeastFirst 39 = .ok (.iload 4, 2) := by decide +kernel
theorem dX3_putLeastFirst_41 : decode cX3_putLeastFirst 41 = .ok (.aload_n 0, 1) := by decide +kernel
theorem dX3_putLeastFirst_42 : decode cX3_putLeastFirst 42 = .ok (.aload_n 1, 1) := by decide +kernel
theorem dX3_putLeastFirst_43 : decode cX3_putLeastFirst 43 = .ok (.iconst 0, 1) := by decide +kernel
theorem dX3_putLeastFirst_44 : decode cX3_putLeastFirst 44 = .ok (.iload 4, 2) := by decide +kernel
theorem dX3_putLeastFirst_46 : decode cX3_putLeastFirst 46 = .ok (.invokevirtual 65, 3) := by decide +kernel
theorem dX3_putLeastFirst_49 : decode cX3_putLeastFirst 49 = .ok (.iastore, 1) := by decide +kernel
theorem dX3_putLeastFirst_50 : decode cX3_putLeastFirst 50 = .ok (.iinc 4 1, 3) := by decide +kernel
theorem dX3_putLeastFirst_53 : decode cX3_putLeastFirst 53 = .ok (.goto (-25), 3) := by decide +kernel
theorem dX3_putLeastFirst_56 : decode cX3_putLeastFirst 56 = .ok (.iconst 0, 1) := by decide +kernel
theorem dX3_putLeastFirst_57 : decode cX3_putLeastFirst 57 = .ok (.istore 4, 2) := by decide +kernel
theorem dX3_putLeastFirst_59 : decode cX3_putLeastFirst 59 = .ok (.iload 4, 2) := by decide +kernel
theorem dX3_putLeastFirst_61 : decode cX3_putLeastFirst 61 = .ok (.iload_n 3, 1) := by decide +kernel
theorem dX3_putLeastFirst_62 : decode cX3_putLeastFirst 62 = .ok (.if_icmp .ge 63, 3) := by decide +kernel
theorem dX3_putLeastFirst_65 : decode cX3_putLeastFirst 65 = .ok (.aload_n 0, 1) := by decide +kernel
theorem dX3_putLeastFirst_66 : decode cX3_putLeastFirst 66 = .ok (.iload_n 3, 1) := by decide +kernel
theorem dX3_putLeastFirst_67 : decode cX3_putLeastFirst 67 = .ok (.invokevirtual 69, 3) := by decide +kernel
theorem dX3_putLeastFirst_70 : decode cX3_putLeastFirst 70 = .ok (.istore 5, 2) := by decide +kernel
theorem dX3_putLeastFirst_72 : decode cX3_putLeastFirst 72 = .ok (.iload 5, 2) := by decide +kernel
theorem dX3_putLeastFirst_74 : decode cX3_putLeastFirst 74 = .ok (.bipush (-6), 2) := by decide +kernel
theorem dX3_putLeastFirst_76 : decode cX3_putLeastFirst 76 = .ok (.if_icmp .ne 4, 3) := by decide +kernel
theorem dX3_putLeastFirst_79 : decode cX3_putLeastFirst 79 = .ok (.return_, 1) := by decide +kernel
theorem dX3_putLeastFirst_80 : decode cX3_putLeastFirst 80 = .ok (.aload_n 2, 1) := by decide +kernel
theorem dX3_putLeastFirst_81 : decode cX3_putLeastFirst 81 = .ok (.aload_n 1, 1) := by decide +kernel
theorem dX3_putLeastFirst_82 : decode cX3_putLeastFirst 82 = .ok (.aload_n 0, 1) := by decide +kernel
theorem dX3_putLeastFirst_83 : decode cX3_putLeastFirst 83 = .ok (.getfield 22, 3) := by decide +kernel
theorem dX3_putLeastFirst_86 : decode cX3_putLeastFirst 86 = .ok (.iload 5, 2) := by decide +kernel
theorem dX3_putLeastFirst_88 : decode cX3_putLeastFirst 88 = .ok (.iaload, 1) := by decide +kernel
theorem dX3_putLeastFirst_89 : decode cX3_putLeastFirst 89 = .ok (.invokevirtual 51, 3) := by decide +kernel
theorem dX3_putLeastFirst_92 : decode cX3_putLeastFirst 92 = .ok (.invokevirtual 72, 3) := by decide +kernel
theorem dX3_putLeastFirst_95 : decode cX3_putLeastFirst 95 = .ok (.pop, 1) := by decide +kernel
theorem dX3_putLeastFirst_96 : decode cX3_putLeastFirst 96 = .ok (.aload_n 0, 1) := by decide +kernel
theorem dX3_putLeastFirst_97 : decode cX3_putLeastFirst 97 = .ok (.getfield 22, 3) := by decide +kernel
theorem dX3_putLeastFirst_100 : decode cX3_putLeastFirst 100 = .ok (.iload 5, 2) := by decide +kernel
theorem dX3_putLeastFirst_102 : decode cX3_putLeastFirst 102 = .ok (.aload_n 0, 1) := by decide +kernel
theorem dX3_putLeastFirst_103 : decode cX3_putLeastFirst 103 = .ok (.aload_n 1, 1) := by decide +kernel
theorem dX3_putLeastFirst_104 : decode cX3_putLeastFirst 104 = .ok (.aload_n 0, 1) := by decide +kernel
theorem dX3_putLeastFirst_105 : decode cX3_putLeastFirst 105 = .ok (.getfield 22, 3) := by decide +kernel
theorem dX3_putLeastFirst_108 : decode cX3_putLeastFirst 108 = .ok (.iload 5, 2) := by decide +kernel
theorem dX3_putLeastFirst_110 : decode cX3_putLeastFirst 110 = .ok (.iaload, 1) := by decide +kernel
theorem dX3_putLeastFirst_111 : decode cX3_putLeastFirst 111 = .ok (.iconst 1, 1) := by decide +kernel
theorem dX3_putLeastFirst_112 : decode cX3_putLeastFirst 112 = .ok (.iadd, 1) := by decide +kernel
theorem dX3_putLeastFirst_113 : decode cX3_putLeastFirst 113 = .ok (.iload 5, 2) := by decide +kernel
theorem dX3_putLeastFirst_115 : decode cX3_putLeastFirst 115 = .ok (.invokevirtual 65, 3) := by decide +kernel
theorem dX3_putLeastFirst_118 : decode cX3_putLeastFirst 118 = .ok (.iastore, 1) := by decide +kernel
theorem dX3_putLeastFirst_119 : decode cX3_putLeastFirst 119 = .ok (.iinc 4 1, 3) := by decide +kernel
theorem dX3_putLeastFirst_122 : decode cX3_putLeastFirst 122 = .ok (.goto (-63), 3) := by decide +kernel
theorem dX3_putLeastFirst_125 : decode cX3_putLeastFirst 125 = .ok (.return_, 1) := by decide +kernel
theorem dX3_nextThatStays_0 : decode cX3_nextThatStays 0 = .ok (.aload_n 1, 1) := by decide +kernel
theorem dX3_nextThatStays_1 : decode cX3_nextThatStays 1 = .ok (.invokevirtual 39, 3) := by decide +kernel
theorem dX3_nextThatStays_4 : decode cX3_nextThatStays 4 = .ok (.aload_n 0, 1) := by decide +kernel
theorem dX3_nextThatStays_5 : decode cX3_nextThatStays 5 = .ok (.getfield 15, 3) := by decide +kernel
theorem dX3_nextThatStays_8 : decode cX3_nextThatStays 8 = .ok (.arraylength, 1) := by decide +kernel
theorem dX3_nextThatStays_9 : decode cX3_nextThatStays 9 = .ok (.invokestatic 45, 3) := by decide +kernel
theorem dX3_nextThatStays_12 : decode cX3_nextThatStays 12 = .ok (.istore 4, 2) := by decide +kernel
theorem dX3_nextThatStays_14 : decode cX3_nextThatStays 14 = .ok (.iload_n 2, 1) := by decide +kernel
theorem dX3_nextThatStays_15 : decode cX3_nextThatStays 15 = .ok (.iconst 0, 1) := by decide +kernel
theorem dX3_nextThatStays_16 : decode cX3_nextThatStays 16 = .ok (.invokestatic 75, 3) := by decide +kernel
theorem dX3_nextThatStays_19 : decode cX3_nextThatStays 19 = .ok (.istore 5, 2) := by decide +kernel
theorem dX3_nextThatStays_21 : decode cX3_nextThatStays 21 = .ok (.iload 5, 2) := by decide +kernel
theorem dX3_nextThatStays_23 : decode cX3_nextThatStays 23 = .ok (.iload 4, 2) := by decide +kernel
theorem dX3_nextThatStays_25 : decode cX3_nextThatStays 25 = .ok (.if_icmp .ge 37, 3) := by decide +kernel
theorem dX3_nextThatStays_28 : decode cX3_nextThatStays 28 = .ok (.aload_n 0, 1) := by decide +kernel
theorem dX3_nextThatStays_29 : decode cX3_nextThatStays 29 = .ok (.getfield 15, 3) := by decide +kernel
theorem dX3_nextThatStays_32 : decode cX3_nextThatStays 32 = .ok (.iload 5, 2) := by decide +kernel
theorem dX3_nextThatStays_34 : decode cX3_nextThatStays 34 = .ok (.baload, 1) := by decide +kernel
theorem dX3_nextThatStays_35 : decode cX3_nextThatStays 35 = .ok (.ifCond .eq 21, 3) := by decide +kernel
theorem dX3_nextThatStays_38 : decode cX3_nextThatStays 38 = .ok (.aload_n 1, 1) := by decide +kernel
theorem dX3_nextThatStays_39 : decode cX3_nextThatStays 39 = .ok (.iload 5, 2) := by decide +kernel
theorem dX3_nextThatStays_41 : decode cX3_nextThatStays 41 = .ok (.invokevirtual 51, 3) := by decide +kernel
theorem dX3_nextThatStays_44 : decode cX3_nextThatStays 44 = .ok (.invokestatic 55, 3) := by decide +kernel
theorem dX3_nextThatStays_47 : decode cX3_nextThatStays 47 = .ok (.iconst 1, 1) := by decide +kernel
theorem dX3_nextThatStays_48 : decode cX3_nextThatStays 48 = .ok (.iadd, 1) := by decide +kernel
theorem dX3_nextThatStays_49 : decode cX3_nextThatStays 49 = .ok (.iload_n 3, 1) := by decide +kernel
theorem dX3_nextThatStays_50 : decode cX3_nextThatStays 50 = .ok (.if_icmp .ne 6, 3) := by decide +kernel
theorem dX3_nextThatStays_53 : decode cX3_nextThatStays 53 = .ok (.iload 5, 2) := by decide +kernel
theorem dX3_nextThatStays_55 : decode cX3_nextThatStays 55 = .ok (.ireturn, 1) := by decide +kernel
theorem dX3_nextThatStays_56 : decode cX3_nextThatStays 56 = .ok (.iinc 5 1, 3) := by decide +kernel
theorem dX3_nextThatStays_59 : decode cX3_nextThatStays 59 = .ok (.goto (-38), 3) := by decide +kernel
theorem dX3_nextThatStays_62 : decode cX3_nextThatStays 62 = .ok (.iload 4, 2) := by decide +kernel
theorem dX3_nextThatStays_64 : decode cX3_nextThatStays 64 = .ok (.ireturn, 1) := by decide +kernel
theorem dX3_leastPlaceThatCanCome_0 : decode cX3_leastPlaceThatCanCome 0 = .ok (.iconst 1, 1) := by decide +kernel
theorem dX3_leastPlaceThatCanCome_1 : decode cX3_leastPlaceThatCanCome 1 = .ok (.istore_n 2, 1) := by decide +kernel
theorem dX3_leastPlaceThatCanCome_2 : decode cX3_leastPlaceThatCanCome 2 = .ok (.iload_n 2, 1) := by decide +kernel
theorem dX3_leastPlaceThatCanCome_3 : decode cX3_leastPlaceThatCanCome 3 = .ok (.bipush 7, 2) := by decide +kernel
theorem dX3_leastPlaceThatCanCome_5 : decode cX3_leastPlaceThatCanCome 5 = .ok (.if_icmp .gt 55, 3) := by decide +kernel
theorem dX3_leastPlaceThatCanCome_8 : decode cX3_leastPlaceThatCanCome 8 = .ok (.aload_n 0, 1) := by decide +kernel
theorem dX3_leastPlaceThatCanCome_9 : decode cX3_leastPlaceThatCanCome 9 = .ok (.getfield 22, 3) := by decide +kernel
theorem dX3_leastPlaceThatCanCome_12 : decode cX3_leastPlaceThatCanCome 12 = .ok (.iload_n 2, 1) := by decide +kernel
theorem dX3_leastPlaceThatCanCome_13 : decode cX3_leastPlaceThatCanCome 13 = .ok (.iaload, 1) := by decide +kernel
theorem dX3_leastPlaceThatCanCome_14 : decode cX3_leastPlaceThatCanCome 14 = .ok (.iload_n 1, 1) := by decide +kernel
theorem dX3_leastPlaceThatCanCome_15 : decode cX3_leastPlaceThatCanCome 15 = .ok (.if_icmp .ge 39, 3) := by decide +kernel
theorem dX3_leastPlaceThatCanCome_18 : decode cX3_leastPlaceThatCanCome 18 = .ok (.aload_n 0, 1) := by decide +kernel
theorem dX3_leastPlaceThatCanCome_19 : decode cX3_leastPlaceThatCanCome 19 = .ok (.getfield 22, 3) := by decide +kernel
theorem dX3_leastPlaceThatCanCome_22 : decode cX3_leastPlaceThatCanCome 22 = .ok (.iload_n 2, 1) := by decide +kernel
theorem dX3_leastPlaceThatCanCome_23 : decode cX3_leastPlaceThatCanCome 23 = .ok (.iaload, 1) := by decide +kernel
theorem dX3_leastPlaceThatCanCome_24 : decode cX3_leastPlaceThatCanCome 24 = .ok (.aload_n 0, 1) := by decide +kernel
theorem dX3_leastPlaceThatCanCome_25 : decode cX3_leastPlaceThatCanCome 25 = .ok (.getfield 22, 3) := by decide +kernel
theorem dX3_leastPlaceThatCanCome_28 : decode cX3_leastPlaceThatCanCome 28 = .ok (.iload_n 2, 1) := by decide +kernel
theorem dX3_leastPlaceThatCanCome_29 : decode cX3_leastPlaceThatCanCome 29 = .ok (.iconst 1, 1) := by decide +kernel
theorem dX3_leastPlaceThatCanCome_30 : decode cX3_leastPlaceThatCanCome 30 = .ok (.isub, 1) := by decide +kernel
theorem dX3_leastPlaceThatCanCome_31 : decode cX3_leastPlaceThatCanCome 31 = .ok (.iaload, 1) := by decide +kernel
theorem dX3_leastPlaceThatCanCome_32 : decode cX3_leastPlaceThatCanCome 32 = .ok (.if_icmp .ge 22, 3) := by decide +kernel
theorem dX3_leastPlaceThatCanCome_35 : decode cX3_leastPlaceThatCanCome 35 = .ok (.aload_n 0, 1) := by decide +kernel
theorem dX3_leastPlaceThatCanCome_36 : decode cX3_leastPlaceThatCanCome 36 = .ok (.getfield 22, 3) := by decide +kernel
theorem dX3_leastPlaceThatCanCome_39 : decode cX3_leastPlaceThatCanCome 39 = .ok (.iload_n 2, 1) := by decide +kernel
theorem dX3_leastPlaceThatCanCome_40 : decode cX3_leastPlaceThatCanCome 40 = .ok (.iaload, 1) := by decide +kernel
theorem dX3_leastPlaceThatCanCome_41 : decode cX3_leastPlaceThatCanCome 41 = .ok (.aload_n 0, 1) := by decide +kernel
theorem dX3_leastPlaceThatCanCome_42 : decode cX3_leastPlaceThatCanCome 42 = .ok (.getfield 22, 3) := by decide +kernel
theorem dX3_leastPlaceThatCanCome_45 : decode cX3_leastPlaceThatCanCome 45 = .ok (.iload_n 2, 1) := by decide +kernel
theorem dX3_leastPlaceThatCanCome_46 : decode cX3_leastPlaceThatCanCome 46 = .ok (.iconst 1, 1) := by decide +kernel
theorem dX3_leastPlaceThatCanCome_47 : decode cX3_leastPlaceThatCanCome 47 = .ok (.iadd, 1) := by decide +kernel
theorem dX3_leastPlaceThatCanCome_48 : decode cX3_leastPlaceThatCanCome 48 = .ok (.iaload, 1) := by decide +kernel
theorem dX3_leastPlaceThatCanCome_49 : decode cX3_leastPlaceThatCanCome 49 = .ok (.if_icmp .ge 5, 3) := by decide +kernel
theorem dX3_leastPlaceThatCanCome_52 : decode cX3_leastPlaceThatCanCome 52 = .ok (.iload_n 2, 1) := by decide +kernel
theorem dX3_leastPlaceThatCanCome_53 : decode cX3_leastPlaceThatCanCome 53 = .ok (.ireturn, 1) := by decide +kernel
theorem dX3_leastPlaceThatCanCome_54 : decode cX3_leastPlaceThatCanCome 54 = .ok (.iinc 2 1, 3) := by decide +kernel
theorem dX3_leastPlaceThatCanCome_57 : decode cX3_leastPlaceThatCanCome 57 = .ok (.goto (-55), 3) := by decide +kernel
theorem dX3_leastPlaceThatCanCome_60 : decode cX3_leastPlaceThatCanCome 60 = .ok (.bipush (-6), 2) := by decide +kernel
theorem dX3_leastPlaceThatCanCome_62 : decode cX3_leastPlaceThatCanCome 62 = .ok (.ireturn, 1) := by decide +kernel
theorem dX4_init_0 : decode cX4_init 0 = .ok (.aload_n 0, 1) := by decide +kernel
theorem dX4_init_1 : decode cX4_init 1 = .ok (.invokespecial 3, 3) := by decide +kernel
theorem dX4_init_4 : decode cX4_init 4 = .ok (.aload_n 0, 1) := by decide +kernel
theorem dX4_init_5 : decode cX4_init 5 = .ok (.iconst 4, 1) := by decide +kernel
theorem dX4_init_6 : decode cX4_init 6 = .ok (.anewarray 9, 3) := by decide +kernel
theorem dX4_init_9 : decode cX4_init 9 = .ok (.putfield 11, 3) := by decide +kernel
theorem dX4_init_12 : decode cX4_init 12 = .ok (.iconst 0, 1) := by decide +kernel
theorem dX4_init_13 : decode cX4_init 13 = .ok (.istore_n 1, 1) := by decide +kernel
theorem dX4_init_14 : decode cX4_init 14 = .ok (.iload_n 1, 1) := by decide +kernel
theorem dX4_init_15 : decode cX4_init 15 = .ok (.iconst 4, 1) := by decide +kernel
theorem dX4_init_16 : decode cX4_init 16 = .ok (.if_icmp .ge 24, 3) := by decide +kernel
theorem dX4_init_19 : decode cX4_init 19 = .ok (.aload_n 0, 1) := by decide +kernel
theorem dX4_init_20 : decode cX4_init 20 = .ok (.getfield 11, 3) := by decide +kernel
theorem dX4_init_23 : decode cX4_init 23 = .ok (.iload_n 1, 1) := by decide +kernel
theorem dX4_init_24 : decode cX4_init 24 = .ok (.new 9, 3) := by decide +kernel
theorem dX4_init_27 : decode cX4_init 27 = .ok (.dup, 1) := by decide +kernel
theorem dX4_init_28 : decode cX4_init 28 = .ok (.bipush 60, 2) := by decide +kernel
theorem dX4_init_30 : decode cX4_init 30 = .ok (.invokespecial 17, 3) := by decide +kernel
theorem dX4_init_33 : decode cX4_init 33 = .ok (.aastore, 1) := by decide +kernel
theorem dX4_init_34 : decode cX4_init 34 = .ok (.iinc 1 1, 3) := by decide +kernel
end
section
theorem dX4_init_37 : decode cX4_init 37 = .ok (.goto (-23), 3) := by decide +kernel
theorem dX4_init_40 : decode cX4_init 40 = .ok (.return_, 1) := by decide +kernel
theorem dX4_row_0 : decode cX4_row 0 = .ok (.iload_n 1, 1) := by decide +kernel
theorem dX4_row_1 : decode cX4_row 1 = .ok (.ifCond .lt 21, 3) := by decide +kernel
theorem dX4_row_4 : decode cX4_row 4 = .ok (.iload_n 1, 1) := by decide +kernel
theorem dX4_row_5 : decode cX4_row 5 = .ok (.aload_n 0, 1) := by decide +kernel
theorem dX4_row_6 : decode cX4_row 6 = .ok (.getfield 11, 3) := by decide +kernel
theorem dX4_row_9 : decode cX4_row 9 = .ok (.arraylength, 1) := by decide +kernel
theorem dX4_row_10 : decode cX4_row 10 = .ok (.if_icmp .ge 12, 3) := by decide +kernel
theorem dX4_row_13 : decode cX4_row 13 = .ok (.aload_n 0, 1) := by decide +kernel
theorem dX4_row_14 : decode cX4_row 14 = .ok (.getfield 11, 3) := by decide +kernel
theorem dX4_row_17 : decode cX4_row 17 = .ok (.iload_n 1, 1) := by decide +kernel
theorem dX4_row_18 : decode cX4_row 18 = .ok (.aaload, 1) := by decide +kernel
theorem dX4_row_19 : decode cX4_row 19 = .ok (.goto 4, 3) := by decide +kernel
theorem dX4_row_22 : decode cX4_row 22 = .ok (.aconst_null, 1) := by decide +kernel
theorem dX4_row_23 : decode cX4_row 23 = .ok (.areturn, 1) := by decide +kernel
theorem dX4_become_0 : decode cX4_become 0 = .ok (.iconst 0, 1) := by decide +kernel
theorem dX4_become_1 : decode cX4_become 1 = .ok (.istore_n 2, 1) := by decide +kernel
theorem dX4_become_2 : decode cX4_become 2 = .ok (.iload_n 2, 1) := by decide +kernel
theorem dX4_become_3 : decode cX4_become 3 = .ok (.aload_n 0, 1) := by decide +kernel
theorem dX4_become_4 : decode cX4_become 4 = .ok (.getfield 11, 3) := by decide +kernel
theorem dX4_become_7 : decode cX4_become 7 = .ok (.arraylength, 1) := by decide +kernel
theorem dX4_become_8 : decode cX4_become 8 = .ok (.if_icmp .ge 29, 3) := by decide +kernel
theorem dX4_become_11 : decode cX4_become 11 = .ok (.aload_n 1, 1) := by decide +kernel
theorem dX4_become_12 : decode cX4_become 12 = .ok (.iload_n 2, 1) := by decide +kernel
theorem dX4_become_13 : decode cX4_become 13 = .ok (.invokevirtual 20, 3) := by decide +kernel
theorem dX4_become_16 : decode cX4_become 16 = .ok (.astore_n 3, 1) := by decide +kernel
theorem dX4_become_17 : decode cX4_become 17 = .ok (.aload_n 3, 1) := by decide +kernel
theorem dX4_become_18 : decode cX4_become 18 = .ok (.ifnull 13, 3) := by decide +kernel
theorem dX4_become_21 : decode cX4_become 21 = .ok (.aload_n 0, 1) := by decide +kernel
theorem dX4_become_22 : decode cX4_become 22 = .ok (.getfield 11, 3) := by decide +kernel
theorem dX4_become_25 : decode cX4_become 25 = .ok (.iload_n 2, 1) := by decide +kernel
theorem dX4_become_26 : decode cX4_become 26 = .ok (.aaload, 1) := by decide +kernel
theorem dX4_become_27 : decode cX4_become 27 = .ok (.aload_n 3, 1) := by decide +kernel
theorem dX4_become_28 : decode cX4_become 28 = .ok (.invokevirtual 24, 3) := by decide +kernel
theorem dX4_become_31 : decode cX4_become 31 = .ok (.iinc 2 1, 3) := by decide +kernel
theorem dX4_become_34 : decode cX4_become 34 = .ok (.goto (-32), 3) := by decide +kernel
theorem dX4_become_37 : decode cX4_become 37 = .ok (.return_, 1) := by decide +kernel
theorem dX4_stepsInAll_0 : decode cX4_stepsInAll 0 = .ok (.iconst 0, 1) := by decide +kernel
theorem dX4_stepsInAll_1 : decode cX4_stepsInAll 1 = .ok (.istore_n 1, 1) := by decide +kernel
theorem dX4_stepsInAll_2 : decode cX4_stepsInAll 2 = .ok (.iconst 0, 1) := by decide +kernel
theorem dX4_stepsInAll_3 : decode cX4_stepsInAll 3 = .ok (.istore_n 2, 1) := by decide +kernel
theorem dX4_stepsInAll_4 : decode cX4_stepsInAll 4 = .ok (.iload_n 2, 1) := by decide +kernel
theorem dX4_stepsInAll_5 : decode cX4_stepsInAll 5 = .ok (.aload_n 0, 1) := by decide +kernel
theorem dX4_stepsInAll_6 : decode cX4_stepsInAll 6 = .ok (.getfield 11, 3) := by decide +kernel
theorem dX4_stepsInAll_9 : decode cX4_stepsInAll 9 = .ok (.arraylength, 1) := by decide +kernel
theorem dX4_stepsInAll_10 : decode cX4_stepsInAll 10 = .ok (.if_icmp .ge 21, 3) := by decide +kernel
theorem dX4_stepsInAll_13 : decode cX4_stepsInAll 13 = .ok (.iload_n 1, 1) := by decide +kernel
theorem dX4_stepsInAll_14 : decode cX4_stepsInAll 14 = .ok (.aload_n 0, 1) := by decide +kernel
theorem dX4_stepsInAll_15 : decode cX4_stepsInAll 15 = .ok (.getfield 11, 3) := by decide +kernel
theorem dX4_stepsInAll_18 : decode cX4_stepsInAll 18 = .ok (.iload_n 2, 1) := by decide +kernel
theorem dX4_stepsInAll_19 : decode cX4_stepsInAll 19 = .ok (.aaload, 1) := by decide +kernel
theorem dX4_stepsInAll_20 : decode cX4_stepsInAll 20 = .ok (.invokevirtual 28, 3) := by decide +kernel
theorem dX4_stepsInAll_23 : decode cX4_stepsInAll 23 = .ok (.iadd, 1) := by decide +kernel
theorem dX4_stepsInAll_24 : decode cX4_stepsInAll 24 = .ok (.istore_n 1, 1) := by decide +kernel
theorem dX4_stepsInAll_25 : decode cX4_stepsInAll 25 = .ok (.iinc 2 1, 3) := by decide +kernel
theorem dX4_stepsInAll_28 : decode cX4_stepsInAll 28 = .ok (.goto (-24), 3) := by decide +kernel
theorem dX4_stepsInAll_31 : decode cX4_stepsInAll 31 = .ok (.iload_n 1, 1) := by decide +kernel
theorem dX4_stepsInAll_32 : decode cX4_stepsInAll 32 = .ok (.ireturn, 1) := by decide +kernel
theorem dX5_init_0 : decode cX5_init 0 = .ok (.aload_n 0, 1) := by decide +kernel
theorem dX5_init_1 : decode cX5_init 1 = .ok (.invokespecial 3, 3) := by decide +kernel
theorem dX5_init_4 : decode cX5_init 4 = .ok (.aload_n 0, 1) := by decide +kernel
theorem dX5_init_5 : decode cX5_init 5 = .ok (.new 9, 3) := by decide +kernel
theorem dX5_init_8 : decode cX5_init 8 = .ok (.dup, 1) := by decide +kernel
theorem dX5_init_9 : decode cX5_init 9 = .ok (.bipush 40, 2) := by decide +kernel
theorem dX5_init_11 : decode cX5_init 11 = .ok (.invokespecial 11, 3) := by decide +kernel
theorem dX5_init_14 : decode cX5_init 14 = .ok (.putfield 14, 3) := by decide +kernel
theorem dX5_init_17 : decode cX5_init 17 = .ok (.aload_n 0, 1) := by decide +kernel
theorem dX5_init_18 : decode cX5_init 18 = .ok (.new 9, 3) := by decide +kernel
theorem dX5_init_21 : decode cX5_init 21 = .ok (.dup, 1) := by decide +kernel
theorem dX5_init_22 : decode cX5_init 22 = .ok (.bipush 60, 2) := by decide +kernel
theorem dX5_init_24 : decode cX5_init 24 = .ok (.invokespecial 11, 3) := by decide +kernel
theorem dX5_init_27 : decode cX5_init 27 = .ok (.putfield 18, 3) := by decide +kernel
theorem dX5_init_30 : decode cX5_init 30 = .ok (.aload_n 0, 1) := by decide +kernel
theorem dX5_init_31 : decode cX5_init 31 = .ok (.new 9, 3) := by decide +kernel
theorem dX5_init_34 : decode cX5_init 34 = .ok (.dup, 1) := by decide +kernel
theorem dX5_init_35 : decode cX5_init 35 = .ok (.bipush 120, 2) := by decide +kernel
theorem dX5_init_37 : decode cX5_init 37 = .ok (.invokespecial 11, 3) := by decide +kernel
theorem dX5_init_40 : decode cX5_init 40 = .ok (.putfield 21, 3) := by decide +kernel
theorem dX5_init_43 : decode cX5_init 43 = .ok (.aload_n 0, 1) := by decide +kernel
theorem dX5_init_44 : decode cX5_init 44 = .ok (.new 9, 3) := by decide +kernel
theorem dX5_init_47 : decode cX5_init 47 = .ok (.dup, 1) := by decide +kernel
theorem dX5_init_48 : decode cX5_init 48 = .ok (.bipush 120, 2) := by decide +kernel
theorem dX5_init_50 : decode cX5_init 50 = .ok (.invokespecial 11, 3) := by decide +kernel
theorem dX5_init_53 : decode cX5_init 53 = .ok (.putfield 24, 3) := by decide +kernel
theorem dX5_init_56 : decode cX5_init 56 = .ok (.aload_n 0, 1) := by decide +kernel
theorem dX5_init_57 : decode cX5_init 57 = .ok (.new 9, 3) := by decide +kernel
theorem dX5_init_60 : decode cX5_init 60 = .ok (.dup, 1) := by decide +kernel
theorem dX5_init_61 : decode cX5_init 61 = .ok (.bipush 120, 2) := by decide +kernel
theorem dX5_init_63 : decode cX5_init 63 = .ok (.invokespecial 11, 3) := by decide +kernel
theorem dX5_init_66 : decode cX5_init 66 = .ok (.putfield 27, 3) := by decide +kernel
theorem dX5_init_69 : decode cX5_init 69 = .ok (.aload_n 0, 1) := by decide +kernel
theorem dX5_init_70 : decode cX5_init 70 = .ok (.new 9, 3) := by decide +kernel
theorem dX5_init_73 : decode cX5_init 73 = .ok (.dup, 1) := by decide +kernel
theorem dX5_init_74 : decode cX5_init 74 = .ok (.bipush 120, 2) := by decide +kernel
theorem dX5_init_76 : decode cX5_init 76 = .ok (.invokespecial 11, 3) := by decide +kernel
theorem dX5_init_79 : decode cX5_init 79 = .ok (.putfield 30, 3) := by decide +kernel
theorem dX5_init_82 : decode cX5_init 82 = .ok (.aload_n 0, 1) := by decide +kernel
theorem dX5_init_83 : decode cX5_init 83 = .ok (.new 9, 3) := by decide +kernel
theorem dX5_init_86 : decode cX5_init 86 = .ok (.dup, 1) := by decide +kernel
theorem dX5_init_87 : decode cX5_init 87 = .ok (.bipush 120, 2) := by decide +kernel
theorem dX5_init_89 : decode cX5_init 89 = .ok (.invokespecial 11, 3) := by decide +kernel
theorem dX5_init_92 : decode cX5_init 92 = .ok (.putfield 33, 3) := by decide +kernel
theorem dX5_init_95 : decode cX5_init 95 = .ok (.aload_n 0, 1) := by decide +kernel
theorem dX5_init_96 : decode cX5_init 96 = .ok (.new 36, 3) := by decide +kernel
theorem dX5_init_99 : decode cX5_init 99 = .ok (.dup, 1) := by decide +kernel
theorem dX5_init_100 : decode cX5_init 100 = .ok (.invokespecial 38, 3) := by decide +kernel
theorem dX5_init_103 : decode cX5_init 103 = .ok (.putfield 39, 3) := by decide +kernel
theorem dX5_init_106 : decode cX5_init 106 = .ok (.aload_n 0, 1) := by decide +kernel
theorem dX5_init_107 : decode cX5_init 107 = .ok (.iconst 2, 1) := by decide +kernel
theorem dX5_init_108 : decode cX5_init 108 = .ok (.anewarray 36, 3) := by decide +kernel
theorem dX5_init_111 : decode cX5_init 111 = .ok (.putfield 43, 3) := by decide +kernel
theorem dX5_init_114 : decode cX5_init 114 = .ok (.iconst 0, 1) := by decide +kernel
theorem dX5_init_115 : decode cX5_init 115 = .ok (.istore_n 1, 1) := by decide +kernel
theorem dX5_init_116 : decode cX5_init 116 = .ok (.iload_n 1, 1) := by decide +kernel
theorem dX5_init_117 : decode cX5_init 117 = .ok (.iconst 2, 1) := by decide +kernel
theorem dX5_init_118 : decode cX5_init 118 = .ok (.if_icmp .ge 22, 3) := by decide +kernel
theorem dX5_init_121 : decode cX5_init 121 = .ok (.aload_n 0, 1) := by decide +kernel
theorem dX5_init_122 : decode cX5_init 122 = .ok (.getfield 43, 3) := by decide +kernel
theorem dX5_init_125 : decode cX5_init 125 = .ok (.iload_n 1, 1) := by decide +kernel
theorem dX5_init_126 : decode cX5_init 126 = .ok (.new 36, 3) := by decide +kernel
theorem dX5_init_129 : decode cX5_init 129 = .ok (.dup, 1) := by decide +kernel
theorem dX5_init_130 : decode cX5_init 130 = .ok (.invokespecial 38, 3) := by decide +kernel
theorem dX5_init_133 : decode cX5_init 133 = .ok (.aastore, 1) := by decide +kernel
theorem dX5_init_134 : decode cX5_init 134 = .ok (.iinc 1 1, 3) := by decide +kernel
theorem dX5_init_137 : decode cX5_init 137 = .ok (.goto (-21), 3) := by decide +kernel
theorem dX5_init_140 : decode cX5_init 140 = .ok (.aload_n 0, 1) := by decide +kernel
theorem dX5_init_141 : decode cX5_init 141 = .ok (.new 47, 3) := by decide +kernel
theorem dX5_init_144 : decode cX5_init 144 = .ok (.dup, 1) := by decide +kernel
theorem dX5_init_145 : decode cX5_init 145 = .ok (.aload_n 0, 1) := by decide +kernel
theorem dX5_init_146 : decode cX5_init 146 = .ok (.getfield 14, 3) := by decide +kernel
theorem dX5_init_149 : decode cX5_init 149 = .ok (.aload_n 0, 1) := by decide +kernel
theorem dX5_init_150 : decode cX5_init 150 = .ok (.getfield 18, 3) := by decide +kernel
theorem dX5_init_153 : decode cX5_init 153 = .ok (.invokespecial 49, 3) := by decide +kernel
theorem dX5_init_156 : decode cX5_init 156 = .ok (.putfield 52, 3) := by decide +kernel
theorem dX5_init_159 : decode cX5_init 159 = .ok (.aload_n 0, 1) := by decide +kernel
theorem dX5_init_160 : decode cX5_init 160 = .ok (.new 56, 3) := by decide +kernel
theorem dX5_init_163 : decode cX5_init 163 = .ok (.dup, 1) := by decide +kernel
theorem dX5_init_164 : decode cX5_init 164 = .ok (.invokespecial 58, 3) := by decide +kernel
theorem dX5_init_167 : decode cX5_init 167 = .ok (.putfield 59, 3) := by decide +kernel
theorem dX5_init_170 : decode cX5_init 170 = .ok (.aload_n 0, 1) := by decide +kernel
theorem dX5_init_171 : decode cX5_init 171 = .ok (.new 63, 3) := by decide +kernel
theorem dX5_init_174 : decode cX5_init 174 = .ok (.dup, 1) := by decide +kernel
theorem dX5_init_175 : decode cX5_init 175 = .ok (.invokespecial 65, 3) := by decide +kernel
theorem dX5_init_178 : decode cX5_init 178 = .ok (.putfield 66, 3) := by decide +kernel
theorem dX5_init_181 : decode cX5_init 181 = .ok (.aload_n 0, 1) := by decide +kernel
theorem dX5_init_182 : decode cX5_init 182 = .ok (.iconst 0, 1) := by decide +kernel
theorem dX5_init_183 : decode cX5_init 183 = .ok (.putfield 70, 3) := by decide +kernel
theorem dX5_init_186 : decode cX5_init 186 = .ok (.aload_n 0, 1) := by decide +kernel
theorem dX5_init_187 : decode cX5_init 187 = .ok (.bipush (-6), 2) := by decide +kernel
theorem dX5_init_189 : decode cX5_init 189 = .ok (.putfield 74, 3) := by decide +kernel
theorem dX5_init_192 : decode cX5_init 192 = .ok (.return_, 1) := by decide +kernel
theorem dX5_say_0 : decode cX5_say 0 = .ok (.iload_n 1, 1) := by decide +kernel
theorem dX5_say_1 : decode cX5_say 1 = .ok (.bipush 33, 2) := by decide +kernel
theorem dX5_say_3 : decode cX5_say 3 = .ok (.if_icmp .lt 9, 3) := by decide +kernel
theorem dX5_say_6 : decode cX5_say 6 = .ok (.iload_n 1, 1) := by decide +kernel
theorem dX5_say_7 : decode cX5_say 7 = .ok (.bipush 126, 2) := by decide +kernel
theorem dX5_say_9 : decode cX5_say 9 = .ok (.if_icmp .le 6, 3) := by decide +kernel
theorem dX5_say_12 : decode cX5_say 12 = .ok (.bipush (-2), 2) := by decide +kernel
theorem dX5_say_14 : decode cX5_say 14 = .ok (.ireturn, 1) := by decide +kernel
theorem dX5_say_15 : decode cX5_say 15 = .ok (.aload_n 0, 1) := by decide +kernel
theorem dX5_say_16 : decode cX5_say 16 = .ok (.getfield 14, 3) := by decide +kernel
theorem dX5_say_19 : decode cX5_say 19 = .ok (.iload_n 1, 1) := by decide +kernel
theorem dX5_say_20 : decode cX5_say 20 = .ok (.invokevirtual 77, 3) := by decide +kernel
theorem dX5_say_23 : decode cX5_say 23 = .ok (.ifCond .eq 13, 3) := by decide +kernel
theorem dX5_say_26 : decode cX5_say 26 = .ok (.aload_n 0, 1) := by decide +kernel
theorem dX5_say_27 : decode cX5_say 27 = .ok (.getfield 14, 3) := by decide +kernel
theorem dX5_say_30 : decode cX5_say 30 = .ok (.invokevirtual 81, 3) := by decide +kernel
theorem dX5_say_33 : decode cX5_say 33 = .ok (.goto 5, 3) := by decide +kernel
theorem dX5_say_36 : decode cX5_say 36 = .ok (.bipush (-4), 2) := by decide +kernel
theorem dX5_say_38 : decode cX5_say 38 = .ok (.ireturn, 1) := by decide +kernel
theorem dX5_wipe_0 : decode cX5_wipe 0 = .ok (.aload_n 0, 1) := by decide +kernel
theorem dX5_wipe_1 : decode cX5_wipe 1 = .ok (.getfield 14, 3) := by decide +kernel
theorem dX5_wipe_4 : decode cX5_wipe 4 = .ok (.invokevirtual 81, 3) := by decide +kernel
theorem dX5_wipe_7 : decode cX5_wipe 7 = .ok (.istore_n 1, 1) := by decide +kernel
theorem dX5_wipe_8 : decode cX5_wipe 8 = .ok (.aload_n 0, 1) := by decide +kernel
theorem dX5_wipe_9 : decode cX5_wipe 9 = .ok (.getfield 14, 3) := by decide +kernel
theorem dX5_wipe_12 : decode cX5_wipe 12 = .ok (.invokevirtual 85, 3) := by decide +kernel
theorem dX5_wipe_15 : decode cX5_wipe 15 = .ok (.iload_n 1, 1) := by decide +kernel
theorem dX5_wipe_16 : decode cX5_wipe 16 = .ok (.ireturn, 1) := by decide +kernel
theorem dX5_fault_0 : decode cX5_fault 0 = .ok (.aload_n 0, 1) := by decide +kernel
theorem dX5_fault_1 : decode cX5_fault 1 = .ok (.getfield 52, 3) := by decide +kernel
theorem dX5_fault_4 : decode cX5_fault 4 = .ok (.invokevirtual 88, 3) := by decide +kernel
theorem dX5_fault_7 : decode cX5_fault 7 = .ok (.ireturn, 1) := by decide +kernel
theorem dX5_work_0 : decode cX5_work 0 = .ok (.aload_n 0, 1) := by decide +kernel
theorem dX5_work_1 : decode cX5_work 1 = .ok (.getfield 39, 3) := by decide +kernel
theorem dX5_work_4 : decode cX5_work 4 = .ok (.iload_n 1, 1) := by decide +kernel
theorem dX5_work_5 : decode cX5_work 5 = .ok (.invokevirtual 91, 3) := by decide +kernel
theorem dX5_work_8 : decode cX5_work 8 = .ok (.astore_n 2, 1) := by decide +kernel
theorem dX5_work_9 : decode cX5_work 9 = .ok (.aload_n 2, 1) := by decide +kernel
theorem dX5_work_10 : decode cX5_work 10 = .ok (.ifnonnull 5, 3) := by decide +kernel
theorem dX5_work_13 : decode cX5_work 13 = .ok (.iconst (-1), 1) := by decide +kernel
theorem dX5_work_14 : decode cX5_work 14 = .ok (.ireturn, 1) := by decide +kernel
theorem dX5_work_15 : decode cX5_work 15 = .ok (.aload_n 0, 1) := by decide +kernel
theorem dX5_work_16 : decode cX5_work 16 = .ok (.getfield 52, 3) := by decide +kernel
theorem dX5_work_19 : decode cX5_work 19 = .ok (.invokevirtual 88, 3) := by decide +kernel
theorem dX5_work_22 : decode cX5_work 22 = .ok (.istore_n 3, 1) := by decide +kernel
theorem dX5_work_23 : decode cX5_work 23 = .ok (.iload_n 3, 1) := by decide +kernel
theorem dX5_work_24 : decode cX5_work 24 = .ok (.bipush (-6), 2) := by decide +kernel
theorem dX5_work_26 : decode cX5_work 26 = .ok (.if_icmp .eq 11, 3) := by decide +kernel
theorem dX5_work_29 : decode cX5_work 29 = .ok (.aload_n 0, 1) := by decide +kernel
theorem dX5_work_30 : decode cX5_work 30 = .ok (.iload_n 3, 1) := by decide +kernel
theorem dX5_work_31 : decode cX5_work 31 = .ok (.putfield 74, 3) := by decide +kernel
theorem dX5_work_34 : decode cX5_work 34 = .ok (.bipush (-7), 2) := by decide +kernel
theorem dX5_work_36 : decode cX5_work 36 = .ok (.ireturn, 1) := by decide +kernel
theorem dX5_work_37 : decode cX5_work 37 = .ok (.aload_n 0, 1) := by decide +kernel
theorem dX5_work_38 : decode cX5_work 38 = .ok (.getfield 52, 3) := by decide +kernel
theorem dX5_work_41 : decode cX5_work 41 = .ok (.invokevirtual 95, 3) := by decide +kernel
theorem dX5_work_44 : decode cX5_work 44 = .ok (.ifCond .ne 6, 3) := by decide +kernel
theorem dX5_work_47 : decode cX5_work 47 = .ok (.bipush (-4), 2) := by decide +kernel
theorem dX5_work_49 : decode cX5_work 49 = .ok (.ireturn, 1) := by decide +kernel
theorem dX5_work_50 : decode cX5_work 50 = .ok (.aload_n 2, 1) := by decide +kernel
theorem dX5_work_51 : decode cX5_work 51 = .ok (.aload_n 0, 1) := by decide +kernel
theorem dX5_work_52 : decode cX5_work 52 = .ok (.getfield 18, 3) := by decide +kernel
theorem dX5_work_55 : decode cX5_work 55 = .ok (.invokevirtual 99, 3) := by decide +kernel
theorem dX5_work_58 : decode cX5_work 58 = .ok (.aload_n 0, 1) := by decide +kernel
theorem dX5_work_59 : decode cX5_work 59 = .ok (.getfield 14, 3) := by decide +kernel
theorem dX5_work_62 : decode cX5_work 62 = .ok (.invokevirtual 85, 3) := by decide +kernel
theorem dX5_work_65 : decode cX5_work 65 = .ok (.aload_n 2, 1) := by decide +kernel
theorem dX5_work_66 : decode cX5_work 66 = .ok (.invokevirtual 81, 3) := by decide +kernel
theorem dX5_work_69 : decode cX5_work 69 = .ok (.ireturn, 1) := by decide +kernel
theorem dX5_join_0 : decode cX5_join 0 = .ok (.aload_n 0, 1) := by decide +kernel
theorem dX5_join_1 : decode cX5_join 1 = .ok (.getfield 39, 3) := by decide +kernel
theorem dX5_join_4 : decode cX5_join 4 = .ok (.iload_n 1, 1) := by decide +kernel
theorem dX5_join_5 : decode cX5_join 5 = .ok (.invokevirtual 91, 3) := by decide +kernel
theorem dX5_join_8 : decode cX5_join 8 = .ok (.astore 4, 2) := by decide +kernel
theorem dX5_join_10 : decode cX5_join 10 = .ok (.aload_n 0, 1) := by decide +kernel
theorem dX5_join_11 : decode cX5_join 11 = .ok (.getfield 39, 3) := by decide +kernel
theorem dX5_join_14 : decode cX5_join 14 = .ok (.iload_n 2, 1) := by decide +kernel
theorem dX5_join_15 : decode cX5_join 15 = .ok (.invokevirtual 91, 3) := by decide +kernel
theorem dX5_join_18 : decode cX5_join 18 = .ok (.astore 5, 2) := by decide +kernel
theorem dX5_join_20 : decode cX5_join 20 = .ok (.aload_n 0, 1) := by decide +kernel
theorem dX5_join_21 : decode cX5_join 21 = .ok (.getfield 39, 3) := by decide +kernel
theorem dX5_join_24 : decode cX5_join 24 = .ok (.iload_n 3, 1) := by decide +kernel
theorem dX5_join_25 : decode cX5_join 25 = .ok (.invokevirtual 91, 3) := by decide +kernel
theorem dX5_join_28 : decode cX5_join 28 = .ok (.astore 6, 2) := by decide +kernel
theorem dX5_join_30 : decode cX5_join 30 = .ok (.aload 4, 2) := by decide +kernel
theorem dX5_join_32 : decode cX5_join 32 = .ok (.ifnull 13, 3) := by decide +kernel
theorem dX5_join_35 : decode cX5_join 35 = .ok (.aload 5, 2) := by decide +kernel
theorem dX5_join_37 : decode cX5_join 37 = .ok (.ifnull 8, 3) := by decide +kernel
theorem dX5_join_40 : decode cX5_join 40 = .ok (.aload 6, 2) := by decide +kernel
theorem dX5_join_42 : decode cX5_join 42 = .ok (.ifnonnull 5, 3) := by decide +kernel
theorem dX5_join_45 : decode cX5_join 45 = .ok (.iconst (-1), 1) := by decide +kernel
theorem dX5_join_46 : decode cX5_join 46 = .ok (.ireturn, 1) := by decide +kernel
theorem dX5_join_47 : decode cX5_join 47 = .ok (.aload 5, 2) := by decide +kernel
theorem dX5_join_49 : decode cX5_join 49 = .ok (.invokevirtual 81, 3) := by decide +kernel
theorem dX5_join_52 : decode cX5_join 52 = .ok (.aload 6, 2) := by decide +kernel
theorem dX5_join_54 : decode cX5_join 54 = .ok (.invokevirtual 81, 3) := by decide +kernel
theorem dX5_join_57 : decode cX5_join 57 = .ok (.iadd, 1) := by decide +kernel
theorem dX5_join_58 : decode cX5_join 58 = .ok (.bipush 60, 2) := by decide +kernel
theorem dX5_join_60 : decode cX5_join 60 = .ok (.if_icmp .le 6, 3) := by decide +kernel
theorem dX5_join_63 : decode cX5_join 63 = .ok (.bipush (-4), 2) := by decide +kernel
theorem dX5_join_65 : decode cX5_join 65 = .ok (.ireturn, 1) := by decide +kernel
theorem dX5_join_66 : decode cX5_join 66 = .ok (.aload_n 0, 1) := by decide +kernel
theorem dX5_join_67 : decode cX5_join 67 = .ok (.getfield 18, 3) := by decide +kernel
theorem dX5_join_70 : decode cX5_join 70 = .ok (.aload 5, 2) := by decide +kernel
theorem dX5_join_72 : decode cX5_join 72 = .ok (.invokevirtual 99, 3) := by decide +kernel
theorem dX5_join_75 : decode cX5_join 75 = .ok (.aload_n 0, 1) := by decide +kernel
theorem dX5_join_76 : decode cX5_join 76 = .ok (.getfield 18, 3) := by decide +kernel
theorem dX5_join_79 : decode cX5_join 79 = .ok (.aload 6, 2) := by decide +kernel
theorem dX5_join_81 : decode cX5_join 81 = .ok (.invokevirtual 103, 3) := by decide +kernel
theorem dX5_join_84 : decode cX5_join 84 = .ok (.aload 4, 2) := by decide +kernel
theorem dX5_join_86 : decode cX5_join 86 = .ok (.aload_n 0, 1) := by decide +kernel
theorem dX5_join_87 : decode cX5_join 87 = .ok (.getfield 18, 3) := by decide +kernel
theorem dX5_join_90 : decode cX5_join 90 = .ok (.invokevirtual 99, 3) := by decide +kernel
theorem dX5_join_93 : decode cX5_join 93 = .ok (.aload 4, 2) := by decide +kernel
theorem dX5_join_95 : decode cX5_join 95 = .ok (.invokevirtual 81, 3) := by decide +kernel
theorem dX5_join_98 : decode cX5_join 98 = .ok (.ireturn, 1) := by decide +kernel
theorem dX5_undone_0 : decode cX5_undone 0 = .ok (.aload_n 0, 1) := by decide +kernel
theorem dX5_undone_1 : decode cX5_undone 1 = .ok (.getfield 39, 3) := by decide +kernel
theorem dX5_undone_4 : decode cX5_undone 4 = .ok (.iload_n 1, 1) := by decide +kernel
theorem dX5_undone_5 : decode cX5_undone 5 = .ok (.invokevirtual 91, 3) := by decide +kernel
theorem dX5_undone_8 : decode cX5_undone 8 = .ok (.astore_n 3, 1) := by decide +kernel
theorem dX5_undone_9 : decode cX5_undone 9 = .ok (.aload_n 0, 1) := by decide +kernel
theorem dX5_undone_10 : decode cX5_undone 10 = .ok (.getfield 39, 3) := by decide +kernel
theorem dX5_undone_13 : decode cX5_undone 13 = .ok (.iload_n 2, 1) := by decide +kernel
theorem dX5_undone_14 : decode cX5_undone 14 = .ok (.invokevirtual 91, 3) := by decide +kernel
theorem dX5_undone_17 : decode cX5_undone 17 = .ok (.astore 4, 2) := by decide +kernel
theorem dX5_undone_19 : decode cX5_undone 19 = .ok (.aload_n 3, 1) := by decide +kernel
theorem dX5_undone_20 : decode cX5_undone 20 = .ok (.ifnull 8, 3) := by decide +kernel
theorem dX5_undone_23 : decode cX5_undone 23 = .ok (.aload 4, 2) := by decide +kernel
theorem dX5_undone_25 : decode cX5_undone 25 = .ok (.ifnonnull 5, 3) := by decide +kernel
theorem dX5_undone_28 : decode cX5_undone 28 = .ok (.iconst (-1), 1) := by decide +kernel
theorem dX5_undone_29 : decode cX5_undone 29 = .ok (.ireturn, 1) := by decide +kernel
theorem dX5_undone_30 : decode cX5_undone 30 = .ok (.aload_n 0, 1) := by decide +kernel
theorem dX5_undone_31 : decode cX5_undone 31 = .ok (.getfield 18, 3) := by decide +kernel
theorem dX5_undone_34 : decode cX5_undone 34 = .ok (.invokevirtual 85, 3) := by decide +kernel
theorem dX5_undone_37 : decode cX5_undone 37 = .ok (.aload 4, 2) := by decide +kernel
theorem dX5_undone_39 : decode cX5_undone 39 = .ok (.invokevirtual 81, 3) := by decide +kernel
theorem dX5_undone_42 : decode cX5_undone 42 = .ok (.iconst 1, 1) := by decide +kernel
theorem dX5_undone_43 : decode cX5_undone 43 = .ok (.isub, 1) := by decide +kernel
theorem dX5_undone_44 : decode cX5_undone 44 = .ok (.istore 5, 2) := by decide +kernel
theorem dX5_undone_46 : decode cX5_undone 46 = .ok (.iload 5, 2) := by decide +kernel
theorem dX5_undone_48 : decode cX5_undone 48 = .ok (.ifCond .lt 27, 3) := by decide +kernel
theorem dX5_undone_51 : decode cX5_undone 51 = .ok (.aload_n 0, 1) := by decide +kernel
theorem dX5_undone_52 : decode cX5_undone 52 = .ok (.getfield 18, 3) := by decide +kernel
theorem dX5_undone_55 : decode cX5_undone 55 = .ok (.aload 4, 2) := by decide +kernel
theorem dX5_undone_57 : decode cX5_undone 57 = .ok (.iload 5, 2) := by decide +kernel
theorem dX5_undone_59 : decode cX5_undone 59 = .ok (.invokevirtual 106, 3) := by decide +kernel
theorem dX5_undone_62 : decode cX5_undone 62 = .ok (.invokestatic 110, 3) := by decide +kernel
theorem dX5_undone_65 : decode cX5_undone 65 = .ok (.invokevirtual 77, 3) := by decide +kernel
theorem dX5_undone_68 : decode cX5_undone 68 = .ok (.pop, 1) := by decide +kernel
theorem dX5_undone_69 : decode cX5_undone 69 = .ok (.iinc 5 (-1), 3) := by decide +kernel
theorem dX5_undone_72 : decode cX5_undone 72 = .ok (.goto (-26), 3) := by decide +kernel
theorem dX5_undone_75 : decode cX5_undone 75 = .ok (.aload_n 3, 1) := by decide +kernel
theorem dX5_undone_76 : decode cX5_undone 76 = .ok (.aload_n 0, 1) := by decide +kernel
theorem dX5_undone_77 : decode cX5_undone 77 = .ok (.getfield 18, 3) := by decide +kernel
theorem dX5_undone_80 : decode cX5_undone 80 = .ok (.invokevirtual 99, 3) := by decide +kernel
theorem dX5_undone_83 : decode cX5_undone 83 = .ok (.aload_n 3, 1) := by decide +kernel
theorem dX5_undone_84 : decode cX5_undone 84 = .ok (.invokevirtual 81, 3) := by decide +kernel
theorem dX5_undone_87 : decode cX5_undone 87 = .ok (.ireturn, 1) := by decide +kernel
theorem dX5_step_0 : decode cX5_step 0 = .ok (.aload_n 0, 1) := by decide +kernel
theorem dX5_step_1 : decode cX5_step 1 = .ok (.getfield 39, 3) := by decide +kernel
theorem dX5_step_4 : decode cX5_step 4 = .ok (.iload_n 1, 1) := by decide +kernel
theorem dX5_step_5 : decode cX5_step 5 = .ok (.invokevirtual 91, 3) := by decide +kernel
theorem dX5_step_8 : decode cX5_step 8 = .ok (.astore 4, 2) := by decide +kernel
theorem dX5_step_10 : decode cX5_step 10 = .ok (.aload 4, 2) := by decide +kernel
theorem dX5_step_12 : decode cX5_step 12 = .ok (.ifnonnull 5, 3) := by decide +kernel
theorem dX5_step_15 : decode cX5_step 15 = .ok (.iconst (-1), 1) := by decide +kernel
theorem dX5_step_16 : decode cX5_step 16 = .ok (.ireturn, 1) := by decide +kernel
theorem dX5_step_17 : decode cX5_step 17 = .ok (.iload_n 2, 1) := by decide +kernel
theorem dX5_step_18 : decode cX5_step 18 = .ok (.iconst (-1), 1) := by decide +kernel
theorem dX5_step_19 : decode cX5_step 19 = .ok (.if_icmp .lt 12, 3) := by decide +kernel
theorem dX5_step_22 : decode cX5_step 22 = .ok (.iload_n 3, 1) := by decide +kernel
theorem dX5_step_23 : decode cX5_step 23 = .ok (.ifCond .lt 8, 3) := by decide +kernel
theorem dX5_step_26 : decode cX5_step 26 = .ok (.iload_n 3, 1) := by decide +kernel
theorem dX5_step_27 : decode cX5_step 27 = .ok (.iconst 1, 1) := by decide +kernel
theorem dX5_step_28 : decode cX5_step 28 = .ok (.if_icmp .le 6, 3) := by decide +kernel
theorem dX5_step_31 : decode cX5_step 31 = .ok (.bipush (-2), 2) := by decide +kernel
theorem dX5_step_33 : decode cX5_step 33 = .ok (.ireturn, 1) := by decide +kernel
theorem dX5_step_34 : decode cX5_step 34 = .ok (.iload_n 2, 1) := by decide +kernel
theorem dX5_step_35 : decode cX5_step 35 = .ok (.iconst (-1), 1) := by decide +kernel
theorem dX5_step_36 : decode cX5_step 36 = .ok (.if_icmp .ne 9, 3) := by decide +kernel
theorem dX5_step_39 : decode cX5_step 39 = .ok (.aload 4, 2) := by decide +kernel
theorem dX5_step_41 : decode cX5_step 41 = .ok (.invokevirtual 81, 3) := by decide +kernel
theorem dX5_step_44 : decode cX5_step 44 = .ok (.ireturn, 1) := by decide +kernel
theorem dX5_step_45 : decode cX5_step 45 = .ok (.iload_n 2, 1) := by decide +kernel
theorem dX5_step_46 : decode cX5_step 46 = .ok (.aload 4, 2) := by decide +kernel
theorem dX5_step_48 : decode cX5_step 48 = .ok (.invokevirtual 81, 3) := by decide +kernel
theorem dX5_step_51 : decode cX5_step 51 = .ok (.if_icmp .lt 6, 3) := by decide +kernel
theorem dX5_step_54 : decode cX5_step 54 = .ok (.bipush (-6), 2) := by decide +kernel
theorem dX5_step_56 : decode cX5_step 56 = .ok (.ireturn, 1) := by decide +kernel
theorem dX5_step_57 : decode cX5_step 57 = .ok (.iload_n 3, 1) := by decide +kernel
theorem dX5_step_58 : decode cX5_step 58 = .ok (.ifCond .ne 15, 3) := by decide +kernel
theorem dX5_step_61 : decode cX5_step 61 = .ok (.aload 4, 2) := by decide +kernel
theorem dX5_step_63 : decode cX5_step 63 = .ok (.iload_n 2, 1) := by decide +kernel
theorem dX5_step_64 : decode cX5_step 64 = .ok (.invokevirtual 106, 3) := by decide +kernel
theorem dX5_step_67 : decode cX5_step 67 = .ok (.invokestatic 113, 3) := by decide +kernel
theorem dX5_step_70 : decode cX5_step 70 = .ok (.goto 12, 3) := by decide +kernel
theorem dX5_step_73 : decode cX5_step 73 = .ok (.aload 4, 2) := by decide +kernel
theorem dX5_step_75 : decode cX5_step 75 = .ok (.iload_n 2, 1) := by decide +kernel
theorem dX5_step_76 : decode cX5_step 76 = .ok (.invokevirtual 106, 3) := by decide +kernel
theorem dX5_step_79 : decode cX5_step 79 = .ok (.invokestatic 116, 3) := by decide +kernel
theorem dX5_step_82 : decode cX5_step 82 = .ok (.ireturn, 1) := by decide +kernel
theorem dX5_written_0 : decode cX5_written 0 = .ok (.aload_n 0, 1) := by decide +kernel
theorem dX5_written_1 : decode cX5_written 1 = .ok (.getfield 39, 3) := by decide +kernel
theorem dX5_written_4 : decode cX5_written 4 = .ok (.iload_n 1, 1) := by decide +kernel
theorem dX5_written_5 : decode cX5_written 5 = .ok (.invokevirtual 91, 3) := by decide +kernel
theorem dX5_written_8 : decode cX5_written 8 = .ok (.astore_n 3, 1) := by decide +kernel
theorem dX5_written_9 : decode cX5_written 9 = .ok (.aload_n 3, 1) := by decide +kernel
theorem dX5_written_10 : decode cX5_written 10 = .ok (.ifnonnull 5, 3) := by decide +kernel
theorem dX5_written_13 : decode cX5_written 13 = .ok (.iconst (-1), 1) := by decide +kernel
theorem dX5_written_14 : decode cX5_written 14 = .ok (.ireturn, 1) := by decide +kernel
theorem dX5_written_15 : decode cX5_written 15 = .ok (.iload_n 2, 1) := by decide +kernel
theorem dX5_written_16 : decode cX5_written 16 = .ok (.iconst (-1), 1) := by decide +kernel
theorem dX5_written_17 : decode cX5_written 17 = .ok (.if_icmp .ge 6, 3) := by decide +kernel
theorem dX5_written_20 : decode cX5_written 20 = .ok (.bipush (-2), 2) := by decide +kernel
theorem dX5_written_22 : decode cX5_written 22 = .ok (.ireturn, 1) := by decide +kernel
theorem dX5_written_23 : decode cX5_written 23 = .ok (.aload_n 0, 1) := by decide +kernel
theorem dX5_written_24 : decode cX5_written 24 = .ok (.aload_n 3, 1) := by decide +kernel
theorem dX5_written_25 : decode cX5_written 25 = .ok (.invokevirtual 119, 3) := by decide +kernel
theorem dX5_written_28 : decode cX5_written 28 = .ok (.aload_n 0, 1) := by decide +kernel
theorem dX5_written_29 : decode cX5_written 29 = .ok (.getfield 21, 3) := by decide +kernel
theorem dX5_written_32 : decode cX5_written 32 = .ok (.iload_n 2, 1) := by decide +kernel
theorem dX5_written_33 : decode cX5_written 33 = .ok (.invokestatic 122, 3) := by decide +kernel
theorem dX5_written_36 : decode cX5_written 36 = .ok (.ireturn, 1) := by decide +kernel
theorem dX5_at_0 : decode cX5_at 0 = .ok (.aload_n 0, 1) := by decide +kernel
theorem dX5_at_1 : decode cX5_at 1 = .ok (.getfield 39, 3) := by decide +kernel
theorem dX5_at_4 : decode cX5_at 4 = .ok (.iload_n 1, 1) := by decide +kernel
theorem dX5_at_5 : decode cX5_at 5 = .ok (.invokevirtual 91, 3) := by decide +kernel
theorem dX5_at_8 : decode cX5_at 8 = .ok (.astore 4, 2) := by decide +kernel
theorem dX5_at_10 : decode cX5_at 10 = .ok (.aload 4, 2) := by decide +kernel
theorem dX5_at_12 : decode cX5_at 12 = .ok (.ifnonnull 5, 3) := by decide +kernel
theorem dX5_at_15 : decode cX5_at 15 = .ok (.iconst (-1), 1) := by decide +kernel
theorem dX5_at_16 : decode cX5_at 16 = .ok (.ireturn, 1) := by decide +kernel
theorem dX5_at_17 : decode cX5_at 17 = .ok (.iload_n 2, 1) := by decide +kernel
theorem dX5_at_18 : decode cX5_at 18 = .ok (.ifCond .lt 19, 3) := by decide +kernel
theorem dX5_at_21 : decode cX5_at 21 = .ok (.iload_n 2, 1) := by decide +kernel
theorem dX5_at_22 : decode cX5_at 22 = .ok (.aload 4, 2) := by decide +kernel
theorem dX5_at_24 : decode cX5_at 24 = .ok (.invokevirtual 81, 3) := by decide +kernel
theorem dX5_at_27 : decode cX5_at 27 = .ok (.if_icmp .gt 10, 3) := by decide +kernel
theorem dX5_at_30 : decode cX5_at 30 = .ok (.iload_n 3, 1) := by decide +kernel
theorem dX5_at_31 : decode cX5_at 31 = .ok (.invokestatic 126, 3) := by decide +kernel
theorem dX5_at_34 : decode cX5_at 34 = .ok (.ifCond .ne 6, 3) := by decide +kernel
theorem dX5_at_37 : decode cX5_at 37 = .ok (.bipush (-2), 2) := by decide +kernel
theorem dX5_at_39 : decode cX5_at 39 = .ok (.ireturn, 1) := by decide +kernel
theorem dX5_at_40 : decode cX5_at 40 = .ok (.aload_n 0, 1) := by decide +kernel
theorem dX5_at_41 : decode cX5_at 41 = .ok (.aload 4, 2) := by decide +kernel
theorem dX5_at_43 : decode cX5_at 43 = .ok (.iload_n 2, 1) := by decide +kernel
theorem dX5_at_44 : decode cX5_at 44 = .ok (.invokevirtual 129, 3) := by decide +kernel
theorem dX5_at_47 : decode cX5_at 47 = .ok (.aload_n 0, 1) := by decide +kernel
theorem dX5_at_48 : decode cX5_at 48 = .ok (.getfield 66, 3) := by decide +kernel
theorem dX5_at_51 : decode cX5_at 51 = .ok (.aload_n 0, 1) := by decide +kernel
theorem dX5_at_52 : decode cX5_at 52 = .ok (.getfield 24, 3) := by decide +kernel
theorem dX5_at_55 : decode cX5_at 55 = .ok (.invokevirtual 133, 3) := by decide +kernel
theorem dX5_at_58 : decode cX5_at 58 = .ok (.aload_n 0, 1) := by decide +kernel
theorem dX5_at_59 : decode cX5_at 59 = .ok (.getfield 66, 3) := by decide +kernel
theorem dX5_at_62 : decode cX5_at 62 = .ok (.iload_n 3, 1) := by decide +kernel
theorem dX5_at_63 : decode cX5_at 63 = .ok (.invokevirtual 136, 3) := by decide +kernel
theorem dX5_at_66 : decode cX5_at 66 = .ok (.ireturn, 1) := by decide +kernel
theorem dX5_met_0 : decode cX5_met 0 = .ok (.aload_n 0, 1) := by decide +kernel
theorem dX5_met_1 : decode cX5_met 1 = .ok (.getfield 39, 3) := by decide +kernel
theorem dX5_met_4 : decode cX5_met 4 = .ok (.iload_n 1, 1) := by decide +kernel
theorem dX5_met_5 : decode cX5_met 5 = .ok (.invokevirtual 91, 3) := by decide +kernel
theorem dX5_met_8 : decode cX5_met 8 = .ok (.astore 5, 2) := by decide +kernel
theorem dX5_met_10 : decode cX5_met 10 = .ok (.aload 5, 2) := by decide +kernel
theorem dX5_met_12 : decode cX5_met 12 = .ok (.ifnonnull 5, 3) := by decide +kernel
theorem dX5_met_15 : decode cX5_met 15 = .ok (.iconst (-1), 1) := by decide +kernel
theorem dX5_met_16 : decode cX5_met 16 = .ok (.ireturn, 1) := by decide +kernel
theorem dX5_met_17 : decode cX5_met 17 = .ok (.iload_n 2, 1) := by decide +kernel
theorem dX5_met_18 : decode cX5_met 18 = .ok (.invokestatic 126, 3) := by decide +kernel
theorem dX5_met_21 : decode cX5_met 21 = .ok (.ifCond .eq 26, 3) := by decide +kernel
theorem dX5_met_24 : decode cX5_met 24 = .ok (.iload_n 3, 1) := by decide +kernel
theorem dX5_met_25 : decode cX5_met 25 = .ok (.invokestatic 126, 3) := by decide +kernel
theorem dX5_met_28 : decode cX5_met 28 = .ok (.ifCond .eq 19, 3) := by decide +kernel
theorem dX5_met_31 : decode cX5_met 31 = .ok (.iload_n 2, 1) := by decide +kernel
theorem dX5_met_32 : decode cX5_met 32 = .ok (.iload_n 3, 1) := by decide +kernel
theorem dX5_met_33 : decode cX5_met 33 = .ok (.if_icmp .eq 14, 3) := by decide +kernel
theorem dX5_met_36 : decode cX5_met 36 = .ok (.iload 4, 2) := by decide +kernel
theorem dX5_met_38 : decode cX5_met 38 = .ok (.ifCond .lt 9, 3) := by decide +kernel
theorem dX5_met_41 : decode cX5_met 41 = .ok (.iload 4, 2) := by decide +kernel
theorem dX5_met_43 : decode cX5_met 43 = .ok (.iconst 2, 1) := by decide +kernel
theorem dX5_met_44 : decode cX5_met 44 = .ok (.if_icmp .le 6, 3) := by decide +kernel
theorem dX5_met_47 : decode cX5_met 47 = .ok (.bipush (-2), 2) := by decide +kernel
theorem dX5_met_49 : decode cX5_met 49 = .ok (.ireturn, 1) := by decide +kernel
theorem dX5_met_50 : decode cX5_met 50 = .ok (.aload_n 0, 1) := by decide +kernel
theorem dX5_met_51 : decode cX5_met 51 = .ok (.aload 5, 2) := by decide +kernel
theorem dX5_met_53 : decode cX5_met 53 = .ok (.aload 5, 2) := by decide +kernel
theorem dX5_met_55 : decode cX5_met 55 = .ok (.invokevirtual 81, 3) := by decide +kernel
theorem dX5_met_58 : decode cX5_met 58 = .ok (.invokevirtual 129, 3) := by decide +kernel
theorem dX5_met_61 : decode cX5_met 61 = .ok (.aload_n 0, 1) := by decide +kernel
theorem dX5_met_62 : decode cX5_met 62 = .ok (.iload_n 2, 1) := by decide +kernel
theorem dX5_met_63 : decode cX5_met 63 = .ok (.iload_n 3, 1) := by decide +kernel
theorem dX5_met_64 : decode cX5_met 64 = .ok (.iload 4, 2) := by decide +kernel
theorem dX5_met_66 : decode cX5_met 66 = .ok (.invokevirtual 139, 3) := by decide +kernel
theorem dX5_met_69 : decode cX5_met 69 = .ok (.ireturn, 1) := by decide +kernel
theorem dX5_told_0 : decode cX5_told 0 = .ok (.aload_n 0, 1) := by decide +kernel
theorem dX5_told_1 : decode cX5_told 1 = .ok (.getfield 39, 3) := by decide +kernel
theorem dX5_told_4 : decode cX5_told 4 = .ok (.iload_n 1, 1) := by decide +kernel
theorem dX5_told_5 : decode cX5_told 5 = .ok (.invokevirtual 91, 3) := by decide +kernel
theorem dX5_told_8 : decode cX5_told 8 = .ok (.astore_n 3, 1) := by decide +kernel
theorem dX5_told_9 : decode cX5_told 9 = .ok (.aload_n 3, 1) := by decide +kernel
theorem dX5_told_10 : decode cX5_told 10 = .ok (.ifnonnull 5, 3) := by decide +kernel
theorem dX5_told_13 : decode cX5_told 13 = .ok (.iconst (-1), 1) := by decide +kernel
theorem dX5_told_14 : decode cX5_told 14 = .ok (.ireturn, 1) := by decide +kernel
theorem dX5_told_15 : decode cX5_told 15 = .ok (.aload_n 0, 1) := by decide +kernel
theorem dX5_told_16 : decode cX5_told 16 = .ok (.aload_n 3, 1) := by decide +kernel
theorem dX5_told_17 : decode cX5_told 17 = .ok (.aload_n 3, 1) := by decide +kernel
theorem dX5_told_18 : decode cX5_told 18 = .ok (.invokevirtual 81, 3) := by decide +kernel
theorem dX5_told_21 : decode cX5_told 21 = .ok (.invokevirtual 129, 3) := by decide +kernel
theorem dX5_told_24 : decode cX5_told 24 = .ok (.aload_n 0, 1) := by decide +kernel
theorem dX5_told_25 : decode cX5_told 25 = .ok (.getfield 66, 3) := by decide +kernel
theorem dX5_told_28 : decode cX5_told 28 = .ok (.aload_n 0, 1) := by decide +kernel
theorem dX5_told_29 : decode cX5_told 29 = .ok (.getfield 24, 3) := by decide +kernel
theorem dX5_told_32 : decode cX5_told 32 = .ok (.invokevirtual 133, 3) := by decide +kernel
theorem dX5_told_35 : decode cX5_told 35 = .ok (.iload_n 2, 1) := by decide +kernel
theorem dX5_told_36 : decode cX5_told 36 = .ok (.tableswitch 79 0 5 #[40, 45, 53, 58, 66, 74], 40) := by decide +kernel
theorem dX5_told_76 : decode cX5_told 76 = .ok (.aload_n 3, 1) := by decide +kernel
theorem dX5_told_77 : decode cX5_told 77 = .ok (.invokevirtual 81, 3) := by decide +kernel
theorem dX5_told_80 : decode cX5_told 80 = .ok (.ireturn, 1) := by decide +kernel
theorem dX5_told_81 : decode cX5_told 81 = .ok (.aload_n 0, 1) := by decide +kernel
theorem dX5_told_82 : decode cX5_told 82 = .ok (.getfield 24, 3) := by decide +kernel
theorem dX5_told_85 : decode cX5_told 85 = .ok (.invokevirtual 81, 3) := by decide +kernel
theorem dX5_told_88 : decode cX5_told 88 = .ok (.ireturn, 1) := by decide +kernel
theorem dX5_told_89 : decode cX5_told 89 = .ok (.aload_n 3, 1) := by decide +kernel
theorem dX5_told_90 : decode cX5_told 90 = .ok (.invokestatic 143, 3) := by decide +kernel
theorem dX5_told_93 : decode cX5_told 93 = .ok (.ireturn, 1) := by decide +kernel
theorem dX5_told_94 : decode cX5_told 94 = .ok (.aload_n 0, 1) := by decide +kernel
theorem dX5_told_95 : decode cX5_told 95 = .ok (.getfield 66, 3) := by decide +kernel
theorem dX5_told_98 : decode cX5_told 98 = .ok (.invokevirtual 147, 3) := by decide +kernel
theorem dX5_told_101 : decode cX5_told 101 = .ok (.ireturn, 1) := by decide +kernel
theorem dX5_told_102 : decode cX5_told 102 = .ok (.aload_n 0, 1) := by decide +kernel
theorem dX5_told_103 : decode cX5_told 103 = .ok (.getfield 66, 3) := by decide +kernel
theorem dX5_told_106 : decode cX5_told 106 = .ok (.invokevirtual 150, 3) := by decide +kernel
theorem dX5_told_109 : decode cX5_told 109 = .ok (.ireturn, 1) := by decide +kernel
theorem dX5_told_110 : decode cX5_told 110 = .ok (.aload_n 0, 1) := by decide +kernel
theorem dX5_told_111 : decode cX5_told 111 = .ok (.invokevirtual 153, 3) := by decide +kernel
theorem dX5_told_114 : decode cX5_told 114 = .ok (.ireturn, 1) := by decide +kernel
theorem dX5_told_115 : decode cX5_told 115 = .ok (.bipush (-2), 2) := by decide +kernel
theorem dX5_told_117 : decode cX5_told 117 = .ok (.ireturn, 1) := by decide +kernel
theorem dX5_pin_0 : decode cX5_pin 0 = .ok (.aload_n 0, 1) := by decide +kernel
theorem dX5_pin_1 : decode cX5_pin 1 = .ok (.getfield 39, 3) := by decide +kernel
theorem dX5_pin_4 : decode cX5_pin 4 = .ok (.iload_n 1, 1) := by decide +kernel
theorem dX5_pin_5 : decode cX5_pin 5 = .ok (.invokevirtual 91, 3) := by decide +kernel
theorem dX5_pin_8 : decode cX5_pin 8 = .ok (.astore 4, 2) := by decide +kernel
theorem dX5_pin_10 : decode cX5_pin 10 = .ok (.aload 4, 2) := by decide +kernel
theorem dX5_pin_12 : decode cX5_pin 12 = .ok (.ifnonnull 5, 3) := by decide +kernel
theorem dX5_pin_15 : decode cX5_pin 15 = .ok (.iconst (-1), 1) := by decide +kernel
theorem dX5_pin_16 : decode cX5_pin 16 = .ok (.ireturn, 1) := by decide +kernel
theorem dX5_pin_17 : decode cX5_pin 17 = .ok (.iload_n 3, 1) := by decide +kernel
theorem dX5_pin_18 : decode cX5_pin 18 = .ok (.ifCond .lt 8, 3) := by decide +kernel
theorem dX5_pin_21 : decode cX5_pin 21 = .ok (.iload_n 3, 1) := by decide +kernel
theorem dX5_pin_22 : decode cX5_pin 22 = .ok (.iconst 3, 1) := by decide +kernel
theorem dX5_pin_23 : decode cX5_pin 23 = .ok (.if_icmp .le 6, 3) := by decide +kernel
theorem dX5_pin_26 : decode cX5_pin 26 = .ok (.bipush (-2), 2) := by decide +kernel
theorem dX5_pin_28 : decode cX5_pin 28 = .ok (.ireturn, 1) := by decide +kernel
theorem dX5_pin_29 : decode cX5_pin 29 = .ok (.aload 4, 2) := by decide +kernel
theorem dX5_pin_31 : decode cX5_pin 31 = .ok (.iload_n 2, 1) := by decide +kernel
theorem dX5_pin_32 : decode cX5_pin 32 = .ok (.invokestatic 156, 3) := by decide +kernel
theorem dX5_pin_35 : decode cX5_pin 35 = .ok (.istore 5, 2) := by decide +kernel
theorem dX5_pin_37 : decode cX5_pin 37 = .ok (.iload 5, 2) := by decide +kernel
theorem dX5_pin_39 : decode cX5_pin 39 = .ok (.bipush (-6), 2) := by decide +kernel
theorem dX5_pin_41 : decode cX5_pin 41 = .ok (.if_icmp .eq 7, 3) := by decide +kernel
theorem dX5_pin_44 : decode cX5_pin 44 = .ok (.iload_n 3, 1) := by decide +kernel
theorem dX5_pin_45 : decode cX5_pin 45 = .ok (.ifCond .ne 6, 3) := by decide +kernel
theorem dX5_pin_48 : decode cX5_pin 48 = .ok (.iload 5, 2) := by decide +kernel
theorem dX5_pin_50 : decode cX5_pin 50 = .ok (.ireturn, 1) := by decide +kernel
theorem dX5_pin_51 : decode cX5_pin 51 = .ok (.aload 4, 2) := by decide +kernel
theorem dX5_pin_53 : decode cX5_pin 53 = .ok (.iload 5, 2) := by decide +kernel
theorem dX5_pin_55 : decode cX5_pin 55 = .ok (.invokevirtual 106, 3) := by decide +kernel
theorem dX5_pin_58 : decode cX5_pin 58 = .ok (.invokestatic 116, 3) := by decide +kernel
theorem dX5_pin_61 : decode cX5_pin 61 = .ok (.istore 6, 2) := by decide +kernel
theorem dX5_pin_63 : decode cX5_pin 63 = .ok (.iload_n 3, 1) := by decide +kernel
theorem dX5_pin_64 : decode cX5_pin 64 = .ok (.iconst 1, 1) := by decide +kernel
theorem dX5_pin_65 : decode cX5_pin 65 = .ok (.if_icmp .ne 6, 3) := by decide +kernel
theorem dX5_pin_68 : decode cX5_pin 68 = .ok (.iload 6, 2) := by decide +kernel
theorem dX5_pin_70 : decode cX5_pin 70 = .ok (.ireturn, 1) := by decide +kernel
theorem dX5_pin_71 : decode cX5_pin 71 = .ok (.aload_n 0, 1) := by decide +kernel
theorem dX5_pin_72 : decode cX5_pin 72 = .ok (.aload 4, 2) := by decide +kernel
theorem dX5_pin_74 : decode cX5_pin 74 = .ok (.iload 5, 2) := by decide +kernel
theorem dX5_pin_76 : decode cX5_pin 76 = .ok (.invokevirtual 129, 3) := by decide +kernel
theorem dX5_pin_79 : decode cX5_pin 79 = .ok (.aload_n 0, 1) := by decide +kernel
theorem dX5_pin_80 : decode cX5_pin 80 = .ok (.getfield 66, 3) := by decide +kernel
theorem dX5_pin_83 : decode cX5_pin 83 = .ok (.aload_n 0, 1) := by decide +kernel
theorem dX5_pin_84 : decode cX5_pin 84 = .ok (.getfield 24, 3) := by decide +kernel
theorem dX5_pin_87 : decode cX5_pin 87 = .ok (.invokevirtual 133, 3) := by decide +kernel
theorem dX5_pin_90 : decode cX5_pin 90 = .ok (.aload_n 0, 1) := by decide +kernel
theorem dX5_pin_91 : decode cX5_pin 91 = .ok (.getfield 66, 3) := by decide +kernel
theorem dX5_pin_94 : decode cX5_pin 94 = .ok (.iconst 2, 1) := by decide +kernel
theorem dX5_pin_95 : decode cX5_pin 95 = .ok (.iload 6, 2) := by decide +kernel
theorem dX5_pin_97 : decode cX5_pin 97 = .ok (.imul, 1) := by decide +kernel
theorem dX5_pin_98 : decode cX5_pin 98 = .ok (.iload_n 3, 1) := by decide +kernel
theorem dX5_pin_99 : decode cX5_pin 99 = .ok (.iconst 2, 1) := by decide +kernel
theorem dX5_pin_100 : decode cX5_pin 100 = .ok (.if_icmp .ne 7, 3) := by decide +kernel
theorem dX5_pin_103 : decode cX5_pin 103 = .ok (.iconst 1, 1) := by decide +kernel
theorem dX5_pin_104 : decode cX5_pin 104 = .ok (.goto 4, 3) := by decide +kernel
theorem dX5_pin_107 : decode cX5_pin 107 = .ok (.iconst 2, 1) := by decide +kernel
theorem dX5_pin_108 : decode cX5_pin 108 = .ok (.iadd, 1) := by decide +kernel
theorem dX5_pin_109 : decode cX5_pin 109 = .ok (.invokevirtual 136, 3) := by decide +kernel
theorem dX5_pin_112 : decode cX5_pin 112 = .ok (.ireturn, 1) := by decide +kernel
theorem dX5_letter_0 : decode cX5_letter 0 = .ok (.aload_n 0, 1) := by decide +kernel
theorem dX5_letter_1 : decode cX5_letter 1 = .ok (.getfield 39, 3) := by decide +kernel
theorem dX5_letter_4 : decode cX5_letter 4 = .ok (.iload_n 1, 1) := by decide +kernel
theorem dX5_letter_5 : decode cX5_letter 5 = .ok (.invokevirtual 91, 3) := by decide +kernel
theorem dX5_letter_8 : decode cX5_letter 8 = .ok (.astore_n 3, 1) := by decide +kernel
theorem dX5_letter_9 : decode cX5_letter 9 = .ok (.aload_n 3, 1) := by decide +kernel
theorem dX5_letter_10 : decode cX5_letter 10 = .ok (.ifnonnull 5, 3) := by decide +kernel
theorem dX5_letter_13 : decode cX5_letter 13 = .ok (.iconst (-1), 1) := by decide +kernel
theorem dX5_letter_14 : decode cX5_letter 14 = .ok (.ireturn, 1) := by decide +kernel
theorem dX5_letter_15 : decode cX5_letter 15 = .ok (.iload_n 2, 1) := by decide +kernel
theorem dX5_letter_16 : decode cX5_letter 16 = .ok (.iconst (-1), 1) := by decide +kernel
theorem dX5_letter_17 : decode cX5_letter 17 = .ok (.if_icmp .ge 6, 3) := by decide +kernel
theorem dX5_letter_20 : decode cX5_letter 20 = .ok (.bipush (-2), 2) := by decide +kernel
theorem dX5_letter_22 : decode cX5_letter 22 = .ok (.ireturn, 1) := by decide +kernel
theorem dX5_letter_23 : decode cX5_letter 23 = .ok (.aload_n 0, 1) := by decide +kernel
theorem dX5_letter_24 : decode cX5_letter 24 = .ok (.aload_n 3, 1) := by decide +kernel
theorem dX5_letter_25 : decode cX5_letter 25 = .ok (.aload_n 3, 1) := by decide +kernel
theorem dX5_letter_26 : decode cX5_letter 26 = .ok (.invokevirtual 81, 3) := by decide +kernel
theorem dX5_letter_29 : decode cX5_letter 29 = .ok (.invokevirtual 129, 3) := by decide +kernel
theorem dX5_letter_32 : decode cX5_letter 32 = .ok (.aload_n 0, 1) := by decide +kernel
theorem dX5_letter_33 : decode cX5_letter 33 = .ok (.getfield 24, 3) := by decide +kernel
theorem dX5_letter_36 : decode cX5_letter 36 = .ok (.iload_n 2, 1) := by decide +kernel
theorem dX5_letter_37 : decode cX5_letter 37 = .ok (.invokestatic 122, 3) := by decide +kernel
theorem dX5_letter_40 : decode cX5_letter 40 = .ok (.ireturn, 1) := by decide +kernel
theorem dX5_shortest_0 : decode cX5_shortest 0 = .ok (.aload_n 0, 1) := by decide +kernel
theorem dX5_shortest_1 : decode cX5_shortest 1 = .ok (.getfield 39, 3) := by decide +kernel
theorem dX5_shortest_4 : decode cX5_shortest 4 = .ok (.iload_n 1, 1) := by decide +kernel
theorem dX5_shortest_5 : decode cX5_shortest 5 = .ok (.invokevirtual 91, 3) := by decide +kernel
theorem dX5_shortest_8 : decode cX5_shortest 8 = .ok (.astore_n 3, 1) := by decide +kernel
theorem dX5_shortest_9 : decode cX5_shortest 9 = .ok (.aload_n 3, 1) := by decide +kernel
theorem dX5_shortest_10 : decode cX5_shortest 10 = .ok (.ifnonnull 5, 3) := by decide +kernel
theorem dX5_shortest_13 : decode cX5_shortest 13 = .ok (.iconst (-1), 1) := by decide +kernel
theorem dX5_shortest_14 : decode cX5_shortest 14 = .ok (.ireturn, 1) := by decide +kernel
theorem dX5_shortest_15 : decode cX5_shortest 15 = .ok (.iload_n 2, 1) := by decide +kernel
theorem dX5_shortest_16 : decode cX5_shortest 16 = .ok (.iconst (-1), 1) := by decide +kernel
theorem dX5_shortest_17 : decode cX5_shortest 17 = .ok (.if_icmp .ge 6, 3) := by decide +kernel
theorem dX5_shortest_20 : decode cX5_shortest 20 = .ok (.bipush (-2), 2) := by decide +kernel
theorem dX5_shortest_22 : decode cX5_shortest 22 = .ok (.ireturn, 1) := by decide +kernel
theorem dX5_shortest_23 : decode cX5_shortest 23 = .ok (.aload_n 0, 1) := by decide +kernel
theorem dX5_shortest_24 : decode cX5_shortest 24 = .ok (.aload_n 3, 1) := by decide +kernel
theorem dX5_shortest_25 : decode cX5_shortest 25 = .ok (.aload_n 0, 1) := by decide +kernel
theorem dX5_shortest_26 : decode cX5_shortest 26 = .ok (.getfield 30, 3) := by decide +kernel
theorem dX5_shortest_29 : decode cX5_shortest 29 = .ok (.invokevirtual 159, 3) := by decide +kernel
theorem dX5_shortest_32 : decode cX5_shortest 32 = .ok (.aload_n 0, 1) := by decide +kernel
theorem dX5_shortest_33 : decode cX5_shortest 33 = .ok (.getfield 30, 3) := by decide +kernel
theorem dX5_shortest_36 : decode cX5_shortest 36 = .ok (.iload_n 2, 1) := by decide +kernel
theorem dX5_shortest_37 : decode cX5_shortest 37 = .ok (.invokestatic 122, 3) := by decide +kernel
theorem dX5_shortest_40 : decode cX5_shortest 40 = .ok (.ireturn, 1) := by decide +kernel
theorem dX5_same_0 : decode cX5_same 0 = .ok (.aload_n 0, 1) := by decide +kernel
theorem dX5_same_1 : decode cX5_same 1 = .ok (.getfield 39, 3) := by decide +kernel
theorem dX5_same_4 : decode cX5_same 4 = .ok (.iload_n 1, 1) := by decide +kernel
theorem dX5_same_5 : decode cX5_same 5 = .ok (.invokevirtual 91, 3) := by decide +kernel
theorem dX5_same_8 : decode cX5_same 8 = .ok (.astore_n 3, 1) := by decide +kernel
theorem dX5_same_9 : decode cX5_same 9 = .ok (.aload_n 0, 1) := by decide +kernel
theorem dX5_same_10 : decode cX5_same 10 = .ok (.getfield 39, 3) := by decide +kernel
theorem dX5_same_13 : decode cX5_same 13 = .ok (.iload_n 2, 1) := by decide +kernel
theorem dX5_same_14 : decode cX5_same 14 = .ok (.invokevirtual 91, 3) := by decide +kernel
theorem dX5_same_17 : decode cX5_same 17 = .ok (.astore 4, 2) := by decide +kernel
theorem dX5_same_19 : decode cX5_same 19 = .ok (.aload_n 3, 1) := by decide +kernel
theorem dX5_same_20 : decode cX5_same 20 = .ok (.ifnull 8, 3) := by decide +kernel
theorem dX5_same_23 : decode cX5_same 23 = .ok (.aload 4, 2) := by decide +kernel
theorem dX5_same_25 : decode cX5_same 25 = .ok (.ifnonnull 5, 3) := by decide +kernel
theorem dX5_same_28 : decode cX5_same 28 = .ok (.iconst (-1), 1) := by decide +kernel
theorem dX5_same_29 : decode cX5_same 29 = .ok (.ireturn, 1) := by decide +kernel
theorem dX5_same_30 : decode cX5_same 30 = .ok (.aload_n 0, 1) := by decide +kernel
theorem dX5_same_31 : decode cX5_same 31 = .ok (.aload_n 3, 1) := by decide +kernel
theorem dX5_same_32 : decode cX5_same 32 = .ok (.aload_n 0, 1) := by decide +kernel
theorem dX5_same_33 : decode cX5_same 33 = .ok (.getfield 30, 3) := by decide +kernel
theorem dX5_same_36 : decode cX5_same 36 = .ok (.invokevirtual 159, 3) := by decide +kernel
theorem dX5_same_39 : decode cX5_same 39 = .ok (.aload_n 0, 1) := by decide +kernel
theorem dX5_same_40 : decode cX5_same 40 = .ok (.aload 4, 2) := by decide +kernel
theorem dX5_same_42 : decode cX5_same 42 = .ok (.aload_n 0, 1) := by decide +kernel
theorem dX5_same_43 : decode cX5_same 43 = .ok (.getfield 33, 3) := by decide +kernel
theorem dX5_same_46 : decode cX5_same 46 = .ok (.invokevirtual 159, 3) := by decide +kernel
theorem dX5_same_49 : decode cX5_same 49 = .ok (.aload_n 0, 1) := by decide +kernel
theorem dX5_same_50 : decode cX5_same 50 = .ok (.getfield 30, 3) := by decide +kernel
theorem dX5_same_53 : decode cX5_same 53 = .ok (.aload_n 0, 1) := by decide +kernel
theorem dX5_same_54 : decode cX5_same 54 = .ok (.getfield 33, 3) := by decide +kernel
theorem dX5_same_57 : decode cX5_same 57 = .ok (.invokevirtual 162, 3) := by decide +kernel
theorem dX5_same_60 : decode cX5_same 60 = .ok (.ifCond .eq 7, 3) := by decide +kernel
theorem dX5_same_63 : decode cX5_same 63 = .ok (.iconst 1, 1) := by decide +kernel
theorem dX5_same_64 : decode cX5_same 64 = .ok (.goto 4, 3) := by decide +kernel
theorem dX5_same_67 : decode cX5_same 67 = .ok (.iconst 0, 1) := by decide +kernel
theorem dX5_same_68 : decode cX5_same 68 = .ok (.ireturn, 1) := by decide +kernel
theorem dX5_part_0 : decode cX5_part 0 = .ok (.aload_n 0, 1) := by decide +kernel
theorem dX5_part_1 : decode cX5_part 1 = .ok (.getfield 39, 3) := by decide +kernel
theorem dX5_part_4 : decode cX5_part 4 = .ok (.iload_n 1, 1) := by decide +kernel
theorem dX5_part_5 : decode cX5_part 5 = .ok (.invokevirtual 91, 3) := by decide +kernel
theorem dX5_part_8 : decode cX5_part 8 = .ok (.astore_n 2, 1) := by decide +kernel
theorem dX5_part_9 : decode cX5_part 9 = .ok (.aload_n 2, 1) := by decide +kernel
theorem dX5_part_10 : decode cX5_part 10 = .ok (.ifnonnull 5, 3) := by decide +kernel
theorem dX5_part_13 : decode cX5_part 13 = .ok (.iconst (-1), 1) := by decide +kernel
theorem dX5_part_14 : decode cX5_part 14 = .ok (.ireturn, 1) := by decide +kernel
theorem dX5_part_15 : decode cX5_part 15 = .ok (.iconst 1, 1) := by decide +kernel
theorem dX5_part_16 : decode cX5_part 16 = .ok (.istore_n 3, 1) := by decide +kernel
theorem dX5_part_17 : decode cX5_part 17 = .ok (.iload_n 3, 1) := by decide +kernel
theorem dX5_part_18 : decode cX5_part 18 = .ok (.aload_n 2, 1) := by decide +kernel
theorem dX5_part_19 : decode cX5_part 19 = .ok (.invokevirtual 81, 3) := by decide +kernel
theorem dX5_part_22 : decode cX5_part 22 = .ok (.if_icmp .ge 28, 3) := by decide +kernel
theorem dX5_part_25 : decode cX5_part 25 = .ok (.aload_n 2, 1) := by decide +kernel
theorem dX5_part_26 : decode cX5_part 26 = .ok (.invokevirtual 81, 3) := by decide +kernel
theorem dX5_part_29 : decode cX5_part 29 = .ok (.iload_n 3, 1) := by decide +kernel
theorem dX5_part_30 : decode cX5_part 30 = .ok (.irem, 1) := by decide +kernel
theorem dX5_part_31 : decode cX5_part 31 = .ok (.ifCond .ne 13, 3) := by decide +kernel
theorem dX5_part_34 : decode cX5_part 34 = .ok (.aload_n 2, 1) := by decide +kernel
theorem dX5_part_35 : decode cX5_part 35 = .ok (.iload_n 3, 1) := by decide +kernel
theorem dX5_part_36 : decode cX5_part 36 = .ok (.invokevirtual 166, 3) := by decide +kernel
theorem dX5_part_39 : decode cX5_part 39 = .ok (.ifCond .eq 5, 3) := by decide +kernel
theorem dX5_part_42 : decode cX5_part 42 = .ok (.iload_n 3, 1) := by decide +kernel
theorem dX5_part_43 : decode cX5_part 43 = .ok (.ireturn, 1) := by decide +kernel
theorem dX5_part_44 : decode cX5_part 44 = .ok (.iinc 3 1, 3) := by decide +kernel
theorem dX5_part_47 : decode cX5_part 47 = .ok (.goto (-30), 3) := by decide +kernel
theorem dX5_part_50 : decode cX5_part 50 = .ok (.aload_n 2, 1) := by decide +kernel
theorem dX5_part_51 : decode cX5_part 51 = .ok (.invokevirtual 81, 3) := by decide +kernel
theorem dX5_part_54 : decode cX5_part 54 = .ok (.ireturn, 1) := by decide +kernel
theorem dX5_image_0 : decode cX5_image 0 = .ok (.iload_n 1, 1) := by decide +kernel
theorem dX5_image_1 : decode cX5_image 1 = .ok (.ifCond .lt 8, 3) := by decide +kernel
theorem dX5_image_4 : decode cX5_image 4 = .ok (.iload_n 1, 1) := by decide +kernel
theorem dX5_image_5 : decode cX5_image 5 = .ok (.iconst 2, 1) := by decide +kernel
theorem dX5_image_6 : decode cX5_image 6 = .ok (.if_icmp .lt 6, 3) := by decide +kernel
theorem dX5_image_9 : decode cX5_image 9 = .ok (.bipush (-2), 2) := by decide +kernel
theorem dX5_image_11 : decode cX5_image 11 = .ok (.ireturn, 1) := by decide +kernel
theorem dX5_image_12 : decode cX5_image 12 = .ok (.aload_n 0, 1) := by decide +kernel
theorem dX5_image_13 : decode cX5_image 13 = .ok (.getfield 43, 3) := by decide +kernel
theorem dX5_image_16 : decode cX5_image 16 = .ok (.iload_n 1, 1) := by decide +kernel
theorem dX5_image_17 : decode cX5_image 17 = .ok (.aaload, 1) := by decide +kernel
theorem dX5_image_18 : decode cX5_image 18 = .ok (.aload_n 0, 1) := by decide +kernel
theorem dX5_image_19 : decode cX5_image 19 = .ok (.getfield 39, 3) := by decide +kernel
theorem dX5_image_22 : decode cX5_image 22 = .ok (.invokevirtual 169, 3) := by decide +kernel
theorem dX5_image_25 : decode cX5_image 25 = .ok (.aload_n 0, 1) := by decide +kernel
theorem dX5_image_26 : decode cX5_image 26 = .ok (.dup, 1) := by decide +kernel
theorem dX5_image_27 : decode cX5_image 27 = .ok (.getfield 70, 3) := by decide +kernel
theorem dX5_image_30 : decode cX5_image 30 = .ok (.iconst 1, 1) := by decide +kernel
theorem dX5_image_31 : decode cX5_image 31 = .ok (.iload_n 1, 1) := by decide +kernel
theorem dX5_image_32 : decode cX5_image 32 = .ok (.ishl, 1) := by decide +kernel
theorem dX5_image_33 : decode cX5_image 33 = .ok (.ior, 1) := by decide +kernel
theorem dX5_image_34 : decode cX5_image 34 = .ok (.putfield 70, 3) := by decide +kernel
theorem dX5_image_37 : decode cX5_image 37 = .ok (.iconst 1, 1) := by decide +kernel
theorem dX5_image_38 : decode cX5_image 38 = .ok (.ireturn, 1) := by decide +kernel
theorem dX5_restore_0 : decode cX5_restore 0 = .ok (.iload_n 1, 1) := by decide +kernel
theorem dX5_restore_1 : decode cX5_restore 1 = .ok (.ifCond .lt 8, 3) := by decide +kernel
theorem dX5_restore_4 : decode cX5_restore 4 = .ok (.iload_n 1, 1) := by decide +kernel
theorem dX5_restore_5 : decode cX5_restore 5 = .ok (.iconst 2, 1) := by decide +kernel
theorem dX5_restore_6 : decode cX5_restore 6 = .ok (.if_icmp .lt 6, 3) := by decide +kernel
theorem dX5_restore_9 : decode cX5_restore 9 = .ok (.bipush (-2), 2) := by decide +kernel
theorem dX5_restore_11 : decode cX5_restore 11 = .ok (.ireturn, 1) := by decide +kernel
theorem dX5_restore_12 : decode cX5_restore 12 = .ok (.aload_n 0, 1) := by decide +kernel
theorem dX5_restore_13 : decode cX5_restore 13 = .ok (.getfield 70, 3) := by decide +kernel
theorem dX5_restore_16 : decode cX5_restore 16 = .ok (.iconst 1, 1) := by decide +kernel
theorem dX5_restore_17 : decode cX5_restore 17 = .ok (.iload_n 1, 1) := by decide +kernel
theorem dX5_restore_18 : decode cX5_restore 18 = .ok (.ishl, 1) := by decide +kernel
theorem dX5_restore_19 : decode cX5_restore 19 = .ok (.iand, 1) := by decide +kernel
theorem dX5_restore_20 : decode cX5_restore 20 = .ok (.ifCond .ne 6, 3) := by decide +kernel
theorem dX5_restore_23 : decode cX5_restore 23 = .ok (.bipush (-3), 2) := by decide +kernel
theorem dX5_restore_25 : decode cX5_restore 25 = .ok (.ireturn, 1) := by decide +kernel
theorem dX5_restore_26 : decode cX5_restore 26 = .ok (.aload_n 0, 1) := by decide +kernel
theorem dX5_restore_27 : decode cX5_restore 27 = .ok (.getfield 39, 3) := by decide +kernel
theorem dX5_restore_30 : decode cX5_restore 30 = .ok (.aload_n 0, 1) := by decide +kernel
theorem dX5_restore_31 : decode cX5_restore 31 = .ok (.getfield 43, 3) := by decide +kernel
theorem dX5_restore_34 : decode cX5_restore 34 = .ok (.iload_n 1, 1) := by decide +kernel
theorem dX5_restore_35 : decode cX5_restore 35 = .ok (.aaload, 1) := by decide +kernel
theorem dX5_restore_36 : decode cX5_restore 36 = .ok (.invokevirtual 169, 3) := by decide +kernel
theorem dX5_restore_39 : decode cX5_restore 39 = .ok (.iconst 1, 1) := by decide +kernel
theorem dX5_restore_40 : decode cX5_restore 40 = .ok (.ireturn, 1) := by decide +kernel
theorem dX5_count_0 : decode cX5_count 0 = .ok (.iload_n 1, 1) := by decide +kernel
theorem dX5_count_1 : decode cX5_count 1 = .ok (.tableswitch 57 0 3 #[31, 39, 47, 52], 31) := by decide +kernel
theorem dX5_count_32 : decode cX5_count 32 = .ok (.aload_n 0, 1) := by decide +kernel
theorem dX5_count_33 : decode cX5_count 33 = .ok (.getfield 14, 3) := by decide +kernel
theorem dX5_count_36 : decode cX5_count 36 = .ok (.invokevirtual 81, 3) := by decide +kernel
theorem dX5_count_39 : decode cX5_count 39 = .ok (.ireturn, 1) := by decide +kernel
theorem dX5_count_40 : decode cX5_count 40 = .ok (.aload_n 0, 1) := by decide +kernel
theorem dX5_count_41 : decode cX5_count 41 = .ok (.getfield 39, 3) := by decide +kernel
theorem dX5_count_44 : decode cX5_count 44 = .ok (.invokevirtual 172, 3) := by decide +kernel
theorem dX5_count_47 : decode cX5_count 47 = .ok (.ireturn, 1) := by decide +kernel
theorem dX5_count_48 : decode cX5_count 48 = .ok (.aload_n 0, 1) := by decide +kernel
theorem dX5_count_49 : decode cX5_count 49 = .ok (.getfield 74, 3) := by decide +kernel
theorem dX5_count_52 : decode cX5_count 52 = .ok (.ireturn, 1) := by decide +kernel
theorem dX5_count_53 : decode cX5_count 53 = .ok (.aload_n 0, 1) := by decide +kernel
theorem dX5_count_54 : decode cX5_count 54 = .ok (.getfield 70, 3) := by decide +kernel
theorem dX5_count_57 : decode cX5_count 57 = .ok (.ireturn, 1) := by decide +kernel
theorem dX5_count_58 : decode cX5_count 58 = .ok (.bipush (-2), 2) := by decide +kernel
theorem dX5_count_60 : decode cX5_count 60 = .ok (.ireturn, 1) := by decide +kernel
theorem dX5_stepOf_0 : decode cX5_stepOf 0 = .ok (.iconst 3, 1) := by decide +kernel
theorem dX5_stepOf_1 : decode cX5_stepOf 1 = .ok (.iload_n 0, 1) := by decide +kernel
theorem dX5_stepOf_2 : decode cX5_stepOf 2 = .ok (.imul, 1) := by decide +kernel
theorem dX5_stepOf_3 : decode cX5_stepOf 3 = .ok (.iload_n 1, 1) := by decide +kernel
theorem dX5_stepOf_4 : decode cX5_stepOf 4 = .ok (.iadd, 1) := by decide +kernel
theorem dX5_stepOf_5 : decode cX5_stepOf 5 = .ok (.ireturn, 1) := by decide +kernel
theorem dX5_kindOf_0 : decode cX5_kindOf 0 = .ok (.iload_n 0, 1) := by decide +kernel
theorem dX5_kindOf_1 : decode cX5_kindOf 1 = .ok (.iconst 3, 1) := by decide +kernel
theorem dX5_kindOf_2 : decode cX5_kindOf 2 = .ok (.idiv, 1) := by decide +kernel
theorem dX5_kindOf_3 : decode cX5_kindOf 3 = .ok (.ireturn, 1) := by decide +kernel
theorem dX5_spotOf_0 : decode cX5_spotOf 0 = .ok (.iload_n 0, 1) := by decide +kernel
theorem dX5_spotOf_1 : decode cX5_spotOf 1 = .ok (.iconst 3, 1) := by decide +kernel
theorem dX5_spotOf_2 : decode cX5_spotOf 2 = .ok (.irem, 1) := by decide +kernel
theorem dX5_spotOf_3 : decode cX5_spotOf 3 = .ok (.ireturn, 1) := by decide +kernel
theorem dX5_opposite_0 : decode cX5_opposite 0 = .ok (.iload_n 0, 1) := by decide +kernel
theorem dX5_opposite_1 : decode cX5_opposite 1 = .ok (.invokestatic 113, 3) := by decide +kernel
theorem dX5_opposite_4 : decode cX5_opposite 4 = .ok (.istore_n 1, 1) := by decide +kernel
theorem dX5_opposite_5 : decode cX5_opposite 5 = .ok (.iload_n 1, 1) := by decide +kernel
theorem dX5_opposite_6 : decode cX5_opposite 6 = .ok (.iconst 4, 1) := by decide +kernel
theorem dX5_opposite_7 : decode cX5_opposite 7 = .ok (.if_icmp .ne 7, 3) := by decide +kernel
theorem dX5_opposite_10 : decode cX5_opposite 10 = .ok (.iload_n 0, 1) := by decide +kernel
theorem dX5_opposite_11 : decode cX5_opposite 11 = .ok (.goto 13, 3) := by decide +kernel
theorem dX5_opposite_14 : decode cX5_opposite 14 = .ok (.iload_n 1, 1) := by decide +kernel
theorem dX5_opposite_15 : decode cX5_opposite 15 = .ok (.iconst 1, 1) := by decide +kernel
theorem dX5_opposite_16 : decode cX5_opposite 16 = .ok (.ixor, 1) := by decide +kernel
theorem dX5_opposite_17 : decode cX5_opposite 17 = .ok (.iload_n 0, 1) := by decide +kernel
theorem dX5_opposite_18 : decode cX5_opposite 18 = .ok (.invokestatic 116, 3) := by decide +kernel
theorem dX5_opposite_21 : decode cX5_opposite 21 = .ok (.invokestatic 175, 3) := by decide +kernel
theorem dX5_opposite_24 : decode cX5_opposite 24 = .ok (.ireturn, 1) := by decide +kernel
theorem dX5_changesIn_0 : decode cX5_changesIn 0 = .ok (.iload_n 0, 1) := by decide +kernel
theorem dX5_changesIn_1 : decode cX5_changesIn 1 = .ok (.invokestatic 113, 3) := by decide +kernel
theorem dX5_changesIn_4 : decode cX5_changesIn 4 = .ok (.istore_n 1, 1) := by decide +kernel
theorem dX5_changesIn_5 : decode cX5_changesIn 5 = .ok (.iload_n 1, 1) := by decide +kernel
theorem dX5_changesIn_6 : decode cX5_changesIn 6 = .ok (.iconst 4, 1) := by decide +kernel
theorem dX5_changesIn_7 : decode cX5_changesIn 7 = .ok (.if_icmp .ne 5, 3) := by decide +kernel
theorem dX5_changesIn_10 : decode cX5_changesIn 10 = .ok (.iconst 0, 1) := by decide +kernel
theorem dX5_changesIn_11 : decode cX5_changesIn 11 = .ok (.ireturn, 1) := by decide +kernel
theorem dX5_changesIn_12 : decode cX5_changesIn 12 = .ok (.iload_n 1, 1) := by decide +kernel
theorem dX5_changesIn_13 : decode cX5_changesIn 13 = .ok (.iconst 2, 1) := by decide +kernel
theorem dX5_changesIn_14 : decode cX5_changesIn 14 = .ok (.if_icmp .eq 8, 3) := by decide +kernel
theorem dX5_changesIn_17 : decode cX5_changesIn 17 = .ok (.iload_n 1, 1) := by decide +kernel
theorem dX5_changesIn_18 : decode cX5_changesIn 18 = .ok (.iconst 3, 1) := by decide +kernel
theorem dX5_changesIn_19 : decode cX5_changesIn 19 = .ok (.if_icmp .ne 7, 3) := by decide +kernel
theorem dX5_changesIn_22 : decode cX5_changesIn 22 = .ok (.iconst 2, 1) := by decide +kernel
theorem dX5_changesIn_23 : decode cX5_changesIn 23 = .ok (.goto 4, 3) := by decide +kernel
theorem dX5_changesIn_26 : decode cX5_changesIn 26 = .ok (.iconst 1, 1) := by decide +kernel
theorem dX5_changesIn_27 : decode cX5_changesIn 27 = .ok (.ireturn, 1) := by decide +kernel
theorem dX5_letterOf_0 : decode cX5_letterOf 0 = .ok (.iload_n 0, 1) := by decide +kernel
theorem dX5_letterOf_1 : decode cX5_letterOf 1 = .ok (.invokestatic 113, 3) := by decide +kernel
theorem dX5_letterOf_4 : decode cX5_letterOf 4 = .ok (.istore_n 2, 1) := by decide +kernel
theorem dX5_letterOf_5 : decode cX5_letterOf 5 = .ok (.iload_n 2, 1) := by decide +kernel
theorem dX5_letterOf_6 : decode cX5_letterOf 6 = .ok (.iconst 2, 1) := by decide +kernel
theorem dX5_letterOf_7 : decode cX5_letterOf 7 = .ok (.if_icmp .eq 8, 3) := by decide +kernel
theorem dX5_letterOf_10 : decode cX5_letterOf 10 = .ok (.iload_n 2, 1) := by decide +kernel
theorem dX5_letterOf_11 : decode cX5_letterOf 11 = .ok (.iconst 3, 1) := by decide +kernel
theorem dX5_letterOf_12 : decode cX5_letterOf 12 = .ok (.if_icmp .ne 7, 3) := by decide +kernel
theorem dX5_letterOf_15 : decode cX5_letterOf 15 = .ok (.iconst 1, 1) := by decide +kernel
theorem dX5_letterOf_16 : decode cX5_letterOf 16 = .ok (.goto 4, 3) := by decide +kernel
theorem dX5_letterOf_19 : decode cX5_letterOf 19 = .ok (.iconst 0, 1) := by decide +kernel
theorem dX5_letterOf_20 : decode cX5_letterOf 20 = .ok (.istore_n 3, 1) := by decide +kernel
theorem dX5_letterOf_21 : decode cX5_letterOf 21 = .ok (.iconst 2, 1) := by decide +kernel
theorem dX5_letterOf_22 : decode cX5_letterOf 22 = .ok (.iload_n 0, 1) := by decide +kernel
theorem dX5_letterOf_23 : decode cX5_letterOf 23 = .ok (.invokestatic 116, 3) := by decide +kernel
theorem dX5_letterOf_26 : decode cX5_letterOf 26 = .ok (.imul, 1) := by decide +kernel
theorem dX5_letterOf_27 : decode cX5_letterOf 27 = .ok (.iload_n 3, 1) := by decide +kernel
theorem dX5_letterOf_28 : decode cX5_letterOf 28 = .ok (.ifCond .eq 9, 3) := by decide +kernel
theorem dX5_letterOf_31 : decode cX5_letterOf 31 = .ok (.iconst 2, 1) := by decide +kernel
theorem dX5_letterOf_32 : decode cX5_letterOf 32 = .ok (.iload_n 1, 1) := by decide +kernel
theorem dX5_letterOf_33 : decode cX5_letterOf 33 = .ok (.imul, 1) := by decide +kernel
theorem dX5_letterOf_34 : decode cX5_letterOf 34 = .ok (.goto 4, 3) := by decide +kernel
theorem dX5_letterOf_37 : decode cX5_letterOf 37 = .ok (.iconst 1, 1) := by decide +kernel
theorem dX5_letterOf_38 : decode cX5_letterOf 38 = .ok (.iadd, 1) := by decide +kernel
theorem dX5_letterOf_39 : decode cX5_letterOf 39 = .ok (.istore 4, 2) := by decide +kernel
theorem dX5_letterOf_41 : decode cX5_letterOf 41 = .ok (.bipush 10, 2) := by decide +kernel
theorem dX5_letterOf_43 : decode cX5_letterOf 43 = .ok (.iload 4, 2) := by decide +kernel
theorem dX5_letterOf_45 : decode cX5_letterOf 45 = .ok (.imul, 1) := by decide +kernel
theorem dX5_letterOf_46 : decode cX5_letterOf 46 = .ok (.iload_n 2, 1) := by decide +kernel
theorem dX5_letterOf_47 : decode cX5_letterOf 47 = .ok (.iconst 1, 1) := by decide +kernel
theorem dX5_letterOf_48 : decode cX5_letterOf 48 = .ok (.if_icmp .eq 8, 3) := by decide +kernel
theorem dX5_letterOf_51 : decode cX5_letterOf 51 = .ok (.iload_n 2, 1) := by decide +kernel
theorem dX5_letterOf_52 : decode cX5_letterOf 52 = .ok (.iconst 2, 1) := by decide +kernel
theorem dX5_letterOf_53 : decode cX5_letterOf 53 = .ok (.if_icmp .ne 7, 3) := by decide +kernel
theorem dX5_letterOf_56 : decode cX5_letterOf 56 = .ok (.iconst 1, 1) := by decide +kernel
theorem dX5_letterOf_57 : decode cX5_letterOf 57 = .ok (.goto 4, 3) := by decide +kernel
theorem dX5_letterOf_60 : decode cX5_letterOf 60 = .ok (.iconst 0, 1) := by decide +kernel
theorem dX5_letterOf_61 : decode cX5_letterOf 61 = .ok (.iadd, 1) := by decide +kernel
theorem dX5_letterOf_62 : decode cX5_letterOf 62 = .ok (.ireturn, 1) := by decide +kernel
theorem dX5_placeOf_0 : decode cX5_placeOf 0 = .ok (.iload_n 0, 1) := by decide +kernel
theorem dX5_placeOf_1 : decode cX5_placeOf 1 = .ok (.bipush 10, 2) := by decide +kernel
theorem dX5_placeOf_3 : decode cX5_placeOf 3 = .ok (.idiv, 1) := by decide +kernel
theorem dX5_placeOf_4 : decode cX5_placeOf 4 = .ok (.ireturn, 1) := by decide +kernel
theorem dX5_isRightOver_0 : decode cX5_isRightOver 0 = .ok (.iload_n 0, 1) := by decide +kernel
theorem dX5_isRightOver_1 : decode cX5_isRightOver 1 = .ok (.bipush 10, 2) := by decide +kernel
theorem dX5_isRightOver_3 : decode cX5_isRightOver 3 = .ok (.irem, 1) := by decide +kernel
theorem dX5_isRightOver_4 : decode cX5_isRightOver 4 = .ok (.iconst 1, 1) := by decide +kernel
theorem dX5_isRightOver_5 : decode cX5_isRightOver 5 = .ok (.if_icmp .ne 7, 3) := by decide +kernel
theorem dX5_isRightOver_8 : decode cX5_isRightOver 8 = .ok (.iconst 1, 1) := by decide +kernel
theorem dX5_isRightOver_9 : decode cX5_isRightOver 9 = .ok (.goto 4, 3) := by decide +kernel
theorem dX5_isRightOver_12 : decode cX5_isRightOver 12 = .ok (.iconst 0, 1) := by decide +kernel
theorem dX5_isRightOver_13 : decode cX5_isRightOver 13 = .ok (.ireturn, 1) := by decide +kernel
theorem dX5_isPlace_0 : decode cX5_isPlace 0 = .ok (.iload_n 0, 1) := by decide +kernel
theorem dX5_isPlace_1 : decode cX5_isPlace 1 = .ok (.ifCond .lt 13, 3) := by decide +kernel
theorem dX5_isPlace_4 : decode cX5_isPlace 4 = .ok (.iload_n 0, 1) := by decide +kernel
theorem dX5_isPlace_5 : decode cX5_isPlace 5 = .ok (.bipush 8, 2) := by decide +kernel
theorem dX5_isPlace_7 : decode cX5_isPlace 7 = .ok (.if_icmp .ge 7, 3) := by decide +kernel
theorem dX5_isPlace_10 : decode cX5_isPlace 10 = .ok (.iconst 1, 1) := by decide +kernel
theorem dX5_isPlace_11 : decode cX5_isPlace 11 = .ok (.goto 4, 3) := by decide +kernel
theorem dX5_isPlace_14 : decode cX5_isPlace 14 = .ok (.iconst 0, 1) := by decide +kernel
theorem dX5_isPlace_15 : decode cX5_isPlace 15 = .ok (.ireturn, 1) := by decide +kernel
theorem dX5_sizeOrItem_0 : decode cX5_sizeOrItem 0 = .ok (.iload_n 1, 1) := by decide +kernel
theorem dX5_sizeOrItem_1 : decode cX5_sizeOrItem 1 = .ok (.iconst (-1), 1) := by decide +kernel
theorem dX5_sizeOrItem_2 : decode cX5_sizeOrItem 2 = .ok (.if_icmp .ne 10, 3) := by decide +kernel
theorem dX5_sizeOrItem_5 : decode cX5_sizeOrItem 5 = .ok (.aload_n 0, 1) := by decide +kernel
theorem dX5_sizeOrItem_6 : decode cX5_sizeOrItem 6 = .ok (.invokevirtual 81, 3) := by decide +kernel
theorem dX5_sizeOrItem_9 : decode cX5_sizeOrItem 9 = .ok (.goto 8, 3) := by decide +kernel
theorem dX5_sizeOrItem_12 : decode cX5_sizeOrItem 12 = .ok (.aload_n 0, 1) := by decide +kernel
theorem dX5_sizeOrItem_13 : decode cX5_sizeOrItem 13 = .ok (.iload_n 1, 1) := by decide +kernel
theorem dX5_sizeOrItem_14 : decode cX5_sizeOrItem 14 = .ok (.invokevirtual 106, 3) := by decide +kernel
theorem dX5_sizeOrItem_17 : decode cX5_sizeOrItem 17 = .ok (.ireturn, 1) := by decide +kernel
theorem dX5_writeOut_0 : decode cX5_writeOut 0 = .ok (.aload_n 0, 1) := by decide +kernel
theorem dX5_writeOut_1 : decode cX5_writeOut 1 = .ok (.getfield 21, 3) := by decide +kernel
theorem dX5_writeOut_4 : decode cX5_writeOut 4 = .ok (.invokevirtual 85, 3) := by decide +kernel
theorem dX5_writeOut_7 : decode cX5_writeOut 7 = .ok (.bipush (-6), 2) := by decide +kernel
theorem dX5_writeOut_9 : decode cX5_writeOut 9 = .ok (.istore_n 2, 1) := by decide +kernel
theorem dX5_writeOut_10 : decode cX5_writeOut 10 = .ok (.iconst 0, 1) := by decide +kernel
theorem dX5_writeOut_11 : decode cX5_writeOut 11 = .ok (.istore_n 3, 1) := by decide +kernel
theorem dX5_writeOut_12 : decode cX5_writeOut 12 = .ok (.iload_n 3, 1) := by decide +kernel
theorem dX5_writeOut_13 : decode cX5_writeOut 13 = .ok (.aload_n 1, 1) := by decide +kernel
theorem dX5_writeOut_14 : decode cX5_writeOut 14 = .ok (.invokevirtual 81, 3) := by decide +kernel
theorem dX5_writeOut_17 : decode cX5_writeOut 17 = .ok (.if_icmp .ge 59, 3) := by decide +kernel
theorem dX5_writeOut_20 : decode cX5_writeOut 20 = .ok (.aload_n 1, 1) := by decide +kernel
theorem dX5_writeOut_21 : decode cX5_writeOut 21 = .ok (.iload_n 3, 1) := by decide +kernel
theorem dX5_writeOut_22 : decode cX5_writeOut 22 = .ok (.invokevirtual 106, 3) := by decide +kernel
theorem dX5_writeOut_25 : decode cX5_writeOut 25 = .ok (.istore 4, 2) := by decide +kernel
theorem dX5_writeOut_27 : decode cX5_writeOut 27 = .ok (.iload 4, 2) := by decide +kernel
theorem dX5_writeOut_29 : decode cX5_writeOut 29 = .ok (.invokestatic 116, 3) := by decide +kernel
theorem dX5_writeOut_32 : decode cX5_writeOut 32 = .ok (.iload_n 2, 1) := by decide +kernel
theorem dX5_writeOut_33 : decode cX5_writeOut 33 = .ok (.if_icmp .eq 21, 3) := by decide +kernel
theorem dX5_writeOut_36 : decode cX5_writeOut 36 = .ok (.iload 4, 2) := by decide +kernel
theorem dX5_writeOut_38 : decode cX5_writeOut 38 = .ok (.invokestatic 116, 3) := by decide +kernel
theorem dX5_writeOut_41 : decode cX5_writeOut 41 = .ok (.istore_n 2, 1) := by decide +kernel
theorem dX5_writeOut_42 : decode cX5_writeOut 42 = .ok (.aload_n 0, 1) := by decide +kernel
theorem dX5_writeOut_43 : decode cX5_writeOut 43 = .ok (.getfield 21, 3) := by decide +kernel
theorem dX5_writeOut_46 : decode cX5_writeOut 46 = .ok (.bipush 48, 2) := by decide +kernel
theorem dX5_writeOut_48 : decode cX5_writeOut 48 = .ok (.iload_n 2, 1) := by decide +kernel
theorem dX5_writeOut_49 : decode cX5_writeOut 49 = .ok (.iadd, 1) := by decide +kernel
theorem dX5_writeOut_50 : decode cX5_writeOut 50 = .ok (.invokevirtual 77, 3) := by decide +kernel
theorem dX5_writeOut_53 : decode cX5_writeOut 53 = .ok (.pop, 1) := by decide +kernel
theorem dX5_writeOut_54 : decode cX5_writeOut 54 = .ok (.aload_n 0, 1) := by decide +kernel
theorem dX5_writeOut_55 : decode cX5_writeOut 55 = .ok (.getfield 21, 3) := by decide +kernel
theorem dX5_writeOut_58 : decode cX5_writeOut 58 = .ok (.iload 4, 2) := by decide +kernel
theorem dX5_writeOut_60 : decode cX5_writeOut 60 = .ok (.invokestatic 113, 3) := by decide +kernel
theorem dX5_writeOut_63 : decode cX5_writeOut 63 = .ok (.invokestatic 179, 3) := by decide +kernel
theorem dX5_writeOut_66 : decode cX5_writeOut 66 = .ok (.invokevirtual 77, 3) := by decide +kernel
theorem dX5_writeOut_69 : decode cX5_writeOut 69 = .ok (.pop, 1) := by decide +kernel
theorem dX5_writeOut_70 : decode cX5_writeOut 70 = .ok (.iinc 3 1, 3) := by decide +kernel
theorem dX5_writeOut_73 : decode cX5_writeOut 73 = .ok (.goto (-61), 3) := by decide +kernel
theorem dX5_writeOut_76 : decode cX5_writeOut 76 = .ok (.return_, 1) := by decide +kernel
theorem dX5_signOf_0 : decode cX5_signOf 0 = .ok (.iload_n 0, 1) := by decide +kernel
theorem dX5_signOf_1 : decode cX5_signOf 1 = .ok (.ifCond .lt 21, 3) := by decide +kernel
theorem dX5_signOf_4 : decode cX5_signOf 4 = .ok (.iload_n 0, 1) := by decide +kernel
theorem dX5_signOf_5 : decode cX5_signOf 5 = .ok (.ldc 182, 2) := by decide +kernel
theorem dX5_signOf_7 : decode cX5_signOf 7 = .ok (.invokevirtual 184, 3) := by decide +kernel
theorem dX5_signOf_10 : decode cX5_signOf 10 = .ok (.if_icmp .ge 12, 3) := by decide +kernel
theorem dX5_signOf_13 : decode cX5_signOf 13 = .ok (.ldc 182, 2) := by decide +kernel
theorem dX5_signOf_15 : decode cX5_signOf 15 = .ok (.iload_n 0, 1) := by decide +kernel
theorem dX5_signOf_16 : decode cX5_signOf 16 = .ok (.invokevirtual 189, 3) := by decide +kernel
theorem dX5_signOf_19 : decode cX5_signOf 19 = .ok (.goto 5, 3) := by decide +kernel
end
section
theorem dX5_signOf_22 : decode cX5_signOf 22 = .ok (.bipush (-6), 2) := by decide +kernel
theorem dX5_signOf_24 : decode cX5_signOf 24 = .ok (.ireturn, 1) := by decide +kernel
theorem dX5_spell_0 : decode cX5_spell 0 = .ok (.aload_n 0, 1) := by decide +kernel
theorem dX5_spell_1 : decode cX5_spell 1 = .ok (.getfield 24, 3) := by decide +kernel
theorem dX5_spell_4 : decode cX5_spell 4 = .ok (.invokevirtual 85, 3) := by decide +kernel
theorem dX5_spell_7 : decode cX5_spell 7 = .ok (.aload_n 0, 1) := by decide +kernel
theorem dX5_spell_8 : decode cX5_spell 8 = .ok (.getfield 27, 3) := by decide +kernel
theorem dX5_spell_11 : decode cX5_spell 11 = .ok (.invokevirtual 85, 3) := by decide +kernel
theorem dX5_spell_14 : decode cX5_spell 14 = .ok (.iconst 0, 1) := by decide +kernel
theorem dX5_spell_15 : decode cX5_spell 15 = .ok (.istore_n 3, 1) := by decide +kernel
theorem dX5_spell_16 : decode cX5_spell 16 = .ok (.iload_n 3, 1) := by decide +kernel
theorem dX5_spell_17 : decode cX5_spell 17 = .ok (.iload_n 2, 1) := by decide +kernel
theorem dX5_spell_18 : decode cX5_spell 18 = .ok (.if_icmp .ge 62, 3) := by decide +kernel
theorem dX5_spell_21 : decode cX5_spell 21 = .ok (.aload_n 1, 1) := by decide +kernel
theorem dX5_spell_22 : decode cX5_spell 22 = .ok (.iload_n 3, 1) := by decide +kernel
theorem dX5_spell_23 : decode cX5_spell 23 = .ok (.invokevirtual 106, 3) := by decide +kernel
theorem dX5_spell_26 : decode cX5_spell 26 = .ok (.invokestatic 193, 3) := by decide +kernel
theorem dX5_spell_29 : decode cX5_spell 29 = .ok (.istore 4, 2) := by decide +kernel
theorem dX5_spell_31 : decode cX5_spell 31 = .ok (.iconst 0, 1) := by decide +kernel
theorem dX5_spell_32 : decode cX5_spell 32 = .ok (.istore 5, 2) := by decide +kernel
theorem dX5_spell_34 : decode cX5_spell 34 = .ok (.iload 5, 2) := by decide +kernel
theorem dX5_spell_36 : decode cX5_spell 36 = .ok (.iload 4, 2) := by decide +kernel
theorem dX5_spell_38 : decode cX5_spell 38 = .ok (.if_icmp .ge 36, 3) := by decide +kernel
theorem dX5_spell_41 : decode cX5_spell 41 = .ok (.aload_n 0, 1) := by decide +kernel
theorem dX5_spell_42 : decode cX5_spell 42 = .ok (.getfield 24, 3) := by decide +kernel
theorem dX5_spell_45 : decode cX5_spell 45 = .ok (.aload_n 1, 1) := by decide +kernel
theorem dX5_spell_46 : decode cX5_spell 46 = .ok (.iload_n 3, 1) := by decide +kernel
theorem dX5_spell_47 : decode cX5_spell 47 = .ok (.invokevirtual 106, 3) := by decide +kernel
theorem dX5_spell_50 : decode cX5_spell 50 = .ok (.iload 5, 2) := by decide +kernel
theorem dX5_spell_52 : decode cX5_spell 52 = .ok (.invokestatic 196, 3) := by decide +kernel
theorem dX5_spell_55 : decode cX5_spell 55 = .ok (.invokevirtual 77, 3) := by decide +kernel
theorem dX5_spell_58 : decode cX5_spell 58 = .ok (.pop, 1) := by decide +kernel
theorem dX5_spell_59 : decode cX5_spell 59 = .ok (.aload_n 0, 1) := by decide +kernel
theorem dX5_spell_60 : decode cX5_spell 60 = .ok (.getfield 27, 3) := by decide +kernel
theorem dX5_spell_63 : decode cX5_spell 63 = .ok (.iload_n 3, 1) := by decide +kernel
theorem dX5_spell_64 : decode cX5_spell 64 = .ok (.invokevirtual 77, 3) := by decide +kernel
theorem dX5_spell_67 : decode cX5_spell 67 = .ok (.pop, 1) := by decide +kernel
theorem dX5_spell_68 : decode cX5_spell 68 = .ok (.iinc 5 1, 3) := by decide +kernel
theorem dX5_spell_71 : decode cX5_spell 71 = .ok (.goto (-37), 3) := by decide +kernel
theorem dX5_spell_74 : decode cX5_spell 74 = .ok (.iinc 3 1, 3) := by decide +kernel
theorem dX5_spell_77 : decode cX5_spell 77 = .ok (.goto (-61), 3) := by decide +kernel
theorem dX5_spell_80 : decode cX5_spell 80 = .ok (.return_, 1) := by decide +kernel
theorem dX5_shorten_0 : decode cX5_shorten 0 = .ok (.aload_n 0, 1) := by decide +kernel
theorem dX5_shorten_1 : decode cX5_shorten 1 = .ok (.aload_n 1, 1) := by decide +kernel
theorem dX5_shorten_2 : decode cX5_shorten 2 = .ok (.aload_n 1, 1) := by decide +kernel
theorem dX5_shorten_3 : decode cX5_shorten 3 = .ok (.invokevirtual 81, 3) := by decide +kernel
theorem dX5_shorten_6 : decode cX5_shorten 6 = .ok (.invokevirtual 129, 3) := by decide +kernel
theorem dX5_shorten_9 : decode cX5_shorten 9 = .ok (.aload_n 0, 1) := by decide +kernel
theorem dX5_shorten_10 : decode cX5_shorten 10 = .ok (.getfield 59, 3) := by decide +kernel
theorem dX5_shorten_13 : decode cX5_shorten 13 = .ok (.aload_n 0, 1) := by decide +kernel
theorem dX5_shorten_14 : decode cX5_shorten 14 = .ok (.getfield 24, 3) := by decide +kernel
theorem dX5_shorten_17 : decode cX5_shorten 17 = .ok (.aload_n 2, 1) := by decide +kernel
theorem dX5_shorten_18 : decode cX5_shorten 18 = .ok (.invokevirtual 199, 3) := by decide +kernel
theorem dX5_shorten_21 : decode cX5_shorten 21 = .ok (.return_, 1) := by decide +kernel
theorem dX5_meetings_0 : decode cX5_meetings 0 = .ok (.iconst 0, 1) := by decide +kernel
theorem dX5_meetings_1 : decode cX5_meetings 1 = .ok (.istore 4, 2) := by decide +kernel
theorem dX5_meetings_3 : decode cX5_meetings 3 = .ok (.iconst 0, 1) := by decide +kernel
theorem dX5_meetings_4 : decode cX5_meetings 4 = .ok (.istore 5, 2) := by decide +kernel
theorem dX5_meetings_6 : decode cX5_meetings 6 = .ok (.bipush (-6), 2) := by decide +kernel
theorem dX5_meetings_8 : decode cX5_meetings 8 = .ok (.istore 6, 2) := by decide +kernel
theorem dX5_meetings_10 : decode cX5_meetings 10 = .ok (.aload_n 0, 1) := by decide +kernel
theorem dX5_meetings_11 : decode cX5_meetings 11 = .ok (.getfield 66, 3) := by decide +kernel
theorem dX5_meetings_14 : decode cX5_meetings 14 = .ok (.invokevirtual 202, 3) := by decide +kernel
theorem dX5_meetings_17 : decode cX5_meetings 17 = .ok (.iconst 0, 1) := by decide +kernel
theorem dX5_meetings_18 : decode cX5_meetings 18 = .ok (.istore 7, 2) := by decide +kernel
theorem dX5_meetings_20 : decode cX5_meetings 20 = .ok (.iload 7, 2) := by decide +kernel
theorem dX5_meetings_22 : decode cX5_meetings 22 = .ok (.aload_n 0, 1) := by decide +kernel
theorem dX5_meetings_23 : decode cX5_meetings 23 = .ok (.getfield 24, 3) := by decide +kernel
theorem dX5_meetings_26 : decode cX5_meetings 26 = .ok (.invokevirtual 81, 3) := by decide +kernel
theorem dX5_meetings_29 : decode cX5_meetings 29 = .ok (.if_icmp .ge 131, 3) := by decide +kernel
theorem dX5_meetings_32 : decode cX5_meetings 32 = .ok (.aload_n 0, 1) := by decide +kernel
theorem dX5_meetings_33 : decode cX5_meetings 33 = .ok (.getfield 66, 3) := by decide +kernel
theorem dX5_meetings_36 : decode cX5_meetings 36 = .ok (.aload_n 0, 1) := by decide +kernel
theorem dX5_meetings_37 : decode cX5_meetings 37 = .ok (.getfield 24, 3) := by decide +kernel
theorem dX5_meetings_40 : decode cX5_meetings 40 = .ok (.iload 7, 2) := by decide +kernel
theorem dX5_meetings_42 : decode cX5_meetings 42 = .ok (.invokevirtual 106, 3) := by decide +kernel
theorem dX5_meetings_45 : decode cX5_meetings 45 = .ok (.invokevirtual 205, 3) := by decide +kernel
theorem dX5_meetings_48 : decode cX5_meetings 48 = .ok (.istore 8, 2) := by decide +kernel
theorem dX5_meetings_50 : decode cX5_meetings 50 = .ok (.aload_n 0, 1) := by decide +kernel
theorem dX5_meetings_51 : decode cX5_meetings 51 = .ok (.getfield 66, 3) := by decide +kernel
theorem dX5_meetings_54 : decode cX5_meetings 54 = .ok (.aload_n 0, 1) := by decide +kernel
theorem dX5_meetings_55 : decode cX5_meetings 55 = .ok (.getfield 24, 3) := by decide +kernel
theorem dX5_meetings_58 : decode cX5_meetings 58 = .ok (.iload 7, 2) := by decide +kernel
theorem dX5_meetings_60 : decode cX5_meetings 60 = .ok (.invokevirtual 106, 3) := by decide +kernel
theorem dX5_meetings_63 : decode cX5_meetings 63 = .ok (.invokevirtual 208, 3) := by decide +kernel
theorem dX5_meetings_66 : decode cX5_meetings 66 = .ok (.istore 9, 2) := by decide +kernel
theorem dX5_meetings_68 : decode cX5_meetings 68 = .ok (.iload 4, 2) := by decide +kernel
theorem dX5_meetings_70 : decode cX5_meetings 70 = .ok (.iload 8, 2) := by decide +kernel
theorem dX5_meetings_72 : decode cX5_meetings 72 = .ok (.iload_n 1, 1) := by decide +kernel
theorem dX5_meetings_73 : decode cX5_meetings 73 = .ok (.if_icmp .ne 13, 3) := by decide +kernel
theorem dX5_meetings_76 : decode cX5_meetings 76 = .ok (.iload 9, 2) := by decide +kernel
theorem dX5_meetings_78 : decode cX5_meetings 78 = .ok (.iload_n 2, 1) := by decide +kernel
theorem dX5_meetings_79 : decode cX5_meetings 79 = .ok (.if_icmp .ne 7, 3) := by decide +kernel
theorem dX5_meetings_82 : decode cX5_meetings 82 = .ok (.iconst 1, 1) := by decide +kernel
theorem dX5_meetings_83 : decode cX5_meetings 83 = .ok (.goto 4, 3) := by decide +kernel
theorem dX5_meetings_86 : decode cX5_meetings 86 = .ok (.iconst 0, 1) := by decide +kernel
theorem dX5_meetings_87 : decode cX5_meetings 87 = .ok (.iadd, 1) := by decide +kernel
theorem dX5_meetings_88 : decode cX5_meetings 88 = .ok (.istore 4, 2) := by decide +kernel
theorem dX5_meetings_90 : decode cX5_meetings 90 = .ok (.iload 5, 2) := by decide +kernel
theorem dX5_meetings_92 : decode cX5_meetings 92 = .ok (.iload 8, 2) := by decide +kernel
theorem dX5_meetings_94 : decode cX5_meetings 94 = .ok (.iload_n 2, 1) := by decide +kernel
theorem dX5_meetings_95 : decode cX5_meetings 95 = .ok (.if_icmp .ne 13, 3) := by decide +kernel
theorem dX5_meetings_98 : decode cX5_meetings 98 = .ok (.iload 9, 2) := by decide +kernel
theorem dX5_meetings_100 : decode cX5_meetings 100 = .ok (.iload_n 1, 1) := by decide +kernel
theorem dX5_meetings_101 : decode cX5_meetings 101 = .ok (.if_icmp .ne 7, 3) := by decide +kernel
theorem dX5_meetings_104 : decode cX5_meetings 104 = .ok (.iconst 1, 1) := by decide +kernel
theorem dX5_meetings_105 : decode cX5_meetings 105 = .ok (.goto 4, 3) := by decide +kernel
theorem dX5_meetings_108 : decode cX5_meetings 108 = .ok (.iconst 0, 1) := by decide +kernel
theorem dX5_meetings_109 : decode cX5_meetings 109 = .ok (.iadd, 1) := by decide +kernel
theorem dX5_meetings_110 : decode cX5_meetings 110 = .ok (.istore 5, 2) := by decide +kernel
theorem dX5_meetings_112 : decode cX5_meetings 112 = .ok (.iload 6, 2) := by decide +kernel
theorem dX5_meetings_114 : decode cX5_meetings 114 = .ok (.bipush (-6), 2) := by decide +kernel
theorem dX5_meetings_116 : decode cX5_meetings 116 = .ok (.if_icmp .ne 22, 3) := by decide +kernel
theorem dX5_meetings_119 : decode cX5_meetings 119 = .ok (.iload 4, 2) := by decide +kernel
theorem dX5_meetings_121 : decode cX5_meetings 121 = .ok (.iload 5, 2) := by decide +kernel
theorem dX5_meetings_123 : decode cX5_meetings 123 = .ok (.iadd, 1) := by decide +kernel
theorem dX5_meetings_124 : decode cX5_meetings 124 = .ok (.ifCond .le 14, 3) := by decide +kernel
theorem dX5_meetings_127 : decode cX5_meetings 127 = .ok (.aload_n 0, 1) := by decide +kernel
theorem dX5_meetings_128 : decode cX5_meetings 128 = .ok (.getfield 27, 3) := by decide +kernel
theorem dX5_meetings_131 : decode cX5_meetings 131 = .ok (.iload 7, 2) := by decide +kernel
theorem dX5_meetings_133 : decode cX5_meetings 133 = .ok (.invokevirtual 106, 3) := by decide +kernel
theorem dX5_meetings_136 : decode cX5_meetings 136 = .ok (.istore 6, 2) := by decide +kernel
theorem dX5_meetings_138 : decode cX5_meetings 138 = .ok (.aload_n 0, 1) := by decide +kernel
theorem dX5_meetings_139 : decode cX5_meetings 139 = .ok (.getfield 66, 3) := by decide +kernel
theorem dX5_meetings_142 : decode cX5_meetings 142 = .ok (.aload_n 0, 1) := by decide +kernel
theorem dX5_meetings_143 : decode cX5_meetings 143 = .ok (.getfield 24, 3) := by decide +kernel
theorem dX5_meetings_146 : decode cX5_meetings 146 = .ok (.iload 7, 2) := by decide +kernel
theorem dX5_meetings_148 : decode cX5_meetings 148 = .ok (.invokevirtual 106, 3) := by decide +kernel
theorem dX5_meetings_151 : decode cX5_meetings 151 = .ok (.invokevirtual 211, 3) := by decide +kernel
theorem dX5_meetings_154 : decode cX5_meetings 154 = .ok (.iinc 7 1, 3) := by decide +kernel
theorem dX5_meetings_157 : decode cX5_meetings 157 = .ok (.goto (-137), 3) := by decide +kernel
theorem dX5_meetings_160 : decode cX5_meetings 160 = .ok (.iload_n 3, 1) := by decide +kernel
theorem dX5_meetings_161 : decode cX5_meetings 161 = .ok (.ifCond .ne 9, 3) := by decide +kernel
theorem dX5_meetings_164 : decode cX5_meetings 164 = .ok (.iload 4, 2) := by decide +kernel
theorem dX5_meetings_166 : decode cX5_meetings 166 = .ok (.iload 5, 2) := by decide +kernel
theorem dX5_meetings_168 : decode cX5_meetings 168 = .ok (.iadd, 1) := by decide +kernel
theorem dX5_meetings_169 : decode cX5_meetings 169 = .ok (.ireturn, 1) := by decide +kernel
theorem dX5_meetings_170 : decode cX5_meetings 170 = .ok (.iload_n 3, 1) := by decide +kernel
theorem dX5_meetings_171 : decode cX5_meetings 171 = .ok (.iconst 1, 1) := by decide +kernel
theorem dX5_meetings_172 : decode cX5_meetings 172 = .ok (.if_icmp .ne 8, 3) := by decide +kernel
theorem dX5_meetings_175 : decode cX5_meetings 175 = .ok (.iload 4, 2) := by decide +kernel
theorem dX5_meetings_177 : decode cX5_meetings 177 = .ok (.goto 5, 3) := by decide +kernel
theorem dX5_meetings_180 : decode cX5_meetings 180 = .ok (.iload 6, 2) := by decide +kernel
theorem dX5_meetings_182 : decode cX5_meetings 182 = .ok (.ireturn, 1) := by decide +kernel
theorem dX5_neverChanged_0 : decode cX5_neverChanged 0 = .ok (.sipush 255, 3) := by decide +kernel
theorem dX5_neverChanged_3 : decode cX5_neverChanged 3 = .ok (.istore_n 1, 1) := by decide +kernel
theorem dX5_neverChanged_4 : decode cX5_neverChanged 4 = .ok (.iconst 0, 1) := by decide +kernel
theorem dX5_neverChanged_5 : decode cX5_neverChanged 5 = .ok (.istore_n 2, 1) := by decide +kernel
theorem dX5_neverChanged_6 : decode cX5_neverChanged 6 = .ok (.iload_n 2, 1) := by decide +kernel
theorem dX5_neverChanged_7 : decode cX5_neverChanged 7 = .ok (.aload_n 0, 1) := by decide +kernel
theorem dX5_neverChanged_8 : decode cX5_neverChanged 8 = .ok (.getfield 24, 3) := by decide +kernel
theorem dX5_neverChanged_11 : decode cX5_neverChanged 11 = .ok (.invokevirtual 81, 3) := by decide +kernel
theorem dX5_neverChanged_14 : decode cX5_neverChanged 14 = .ok (.if_icmp .ge 27, 3) := by decide +kernel
theorem dX5_neverChanged_17 : decode cX5_neverChanged 17 = .ok (.iload_n 1, 1) := by decide +kernel
theorem dX5_neverChanged_18 : decode cX5_neverChanged 18 = .ok (.iconst 3, 1) := by decide +kernel
theorem dX5_neverChanged_19 : decode cX5_neverChanged 19 = .ok (.aload_n 0, 1) := by decide +kernel
theorem dX5_neverChanged_20 : decode cX5_neverChanged 20 = .ok (.getfield 24, 3) := by decide +kernel
theorem dX5_neverChanged_23 : decode cX5_neverChanged 23 = .ok (.iload_n 2, 1) := by decide +kernel
theorem dX5_neverChanged_24 : decode cX5_neverChanged 24 = .ok (.invokevirtual 106, 3) := by decide +kernel
theorem dX5_neverChanged_27 : decode cX5_neverChanged 27 = .ok (.invokestatic 214, 3) := by decide +kernel
theorem dX5_neverChanged_30 : decode cX5_neverChanged 30 = .ok (.ishl, 1) := by decide +kernel
theorem dX5_neverChanged_31 : decode cX5_neverChanged 31 = .ok (.iconst (-1), 1) := by decide +kernel
theorem dX5_neverChanged_32 : decode cX5_neverChanged 32 = .ok (.ixor, 1) := by decide +kernel
theorem dX5_neverChanged_33 : decode cX5_neverChanged 33 = .ok (.iand, 1) := by decide +kernel
theorem dX5_neverChanged_34 : decode cX5_neverChanged 34 = .ok (.istore_n 1, 1) := by decide +kernel
theorem dX5_neverChanged_35 : decode cX5_neverChanged 35 = .ok (.iinc 2 1, 3) := by decide +kernel
theorem dX5_neverChanged_38 : decode cX5_neverChanged 38 = .ok (.goto (-32), 3) := by decide +kernel
theorem dX5_neverChanged_41 : decode cX5_neverChanged 41 = .ok (.iload_n 1, 1) := by decide +kernel
theorem dX5_neverChanged_42 : decode cX5_neverChanged 42 = .ok (.ireturn, 1) := by decide +kernel
theorem dX5_pinsIn_0 : decode cX5_pinsIn 0 = .ok (.iconst 0, 1) := by decide +kernel
theorem dX5_pinsIn_1 : decode cX5_pinsIn 1 = .ok (.istore_n 1, 1) := by decide +kernel
theorem dX5_pinsIn_2 : decode cX5_pinsIn 2 = .ok (.iconst 0, 1) := by decide +kernel
theorem dX5_pinsIn_3 : decode cX5_pinsIn 3 = .ok (.istore_n 2, 1) := by decide +kernel
theorem dX5_pinsIn_4 : decode cX5_pinsIn 4 = .ok (.iload_n 2, 1) := by decide +kernel
theorem dX5_pinsIn_5 : decode cX5_pinsIn 5 = .ok (.aload_n 0, 1) := by decide +kernel
theorem dX5_pinsIn_6 : decode cX5_pinsIn 6 = .ok (.invokevirtual 81, 3) := by decide +kernel
theorem dX5_pinsIn_9 : decode cX5_pinsIn 9 = .ok (.if_icmp .ge 29, 3) := by decide +kernel
theorem dX5_pinsIn_12 : decode cX5_pinsIn 12 = .ok (.iload_n 1, 1) := by decide +kernel
theorem dX5_pinsIn_13 : decode cX5_pinsIn 13 = .ok (.aload_n 0, 1) := by decide +kernel
theorem dX5_pinsIn_14 : decode cX5_pinsIn 14 = .ok (.iload_n 2, 1) := by decide +kernel
theorem dX5_pinsIn_15 : decode cX5_pinsIn 15 = .ok (.invokevirtual 106, 3) := by decide +kernel
theorem dX5_pinsIn_18 : decode cX5_pinsIn 18 = .ok (.invokestatic 113, 3) := by decide +kernel
theorem dX5_pinsIn_21 : decode cX5_pinsIn 21 = .ok (.iconst 4, 1) := by decide +kernel
theorem dX5_pinsIn_22 : decode cX5_pinsIn 22 = .ok (.if_icmp .ne 7, 3) := by decide +kernel
theorem dX5_pinsIn_25 : decode cX5_pinsIn 25 = .ok (.iconst 1, 1) := by decide +kernel
theorem dX5_pinsIn_26 : decode cX5_pinsIn 26 = .ok (.goto 4, 3) := by decide +kernel
theorem dX5_pinsIn_29 : decode cX5_pinsIn 29 = .ok (.iconst 0, 1) := by decide +kernel
theorem dX5_pinsIn_30 : decode cX5_pinsIn 30 = .ok (.iadd, 1) := by decide +kernel
theorem dX5_pinsIn_31 : decode cX5_pinsIn 31 = .ok (.istore_n 1, 1) := by decide +kernel
theorem dX5_pinsIn_32 : decode cX5_pinsIn 32 = .ok (.iinc 2 1, 3) := by decide +kernel
theorem dX5_pinsIn_35 : decode cX5_pinsIn 35 = .ok (.goto (-31), 3) := by decide +kernel
theorem dX5_pinsIn_38 : decode cX5_pinsIn 38 = .ok (.iload_n 1, 1) := by decide +kernel
theorem dX5_pinsIn_39 : decode cX5_pinsIn 39 = .ok (.ireturn, 1) := by decide +kernel
theorem dX5_pinStep_0 : decode cX5_pinStep 0 = .ok (.iconst 0, 1) := by decide +kernel
theorem dX5_pinStep_1 : decode cX5_pinStep 1 = .ok (.istore_n 2, 1) := by decide +kernel
theorem dX5_pinStep_2 : decode cX5_pinStep 2 = .ok (.iconst 0, 1) := by decide +kernel
theorem dX5_pinStep_3 : decode cX5_pinStep 3 = .ok (.istore_n 3, 1) := by decide +kernel
theorem dX5_pinStep_4 : decode cX5_pinStep 4 = .ok (.iload_n 3, 1) := by decide +kernel
theorem dX5_pinStep_5 : decode cX5_pinStep 5 = .ok (.aload_n 0, 1) := by decide +kernel
theorem dX5_pinStep_6 : decode cX5_pinStep 6 = .ok (.invokevirtual 81, 3) := by decide +kernel
theorem dX5_pinStep_9 : decode cX5_pinStep 9 = .ok (.if_icmp .ge 31, 3) := by decide +kernel
theorem dX5_pinStep_12 : decode cX5_pinStep 12 = .ok (.aload_n 0, 1) := by decide +kernel
theorem dX5_pinStep_13 : decode cX5_pinStep 13 = .ok (.iload_n 3, 1) := by decide +kernel
theorem dX5_pinStep_14 : decode cX5_pinStep 14 = .ok (.invokevirtual 106, 3) := by decide +kernel
theorem dX5_pinStep_17 : decode cX5_pinStep 17 = .ok (.invokestatic 113, 3) := by decide +kernel
theorem dX5_pinStep_20 : decode cX5_pinStep 20 = .ok (.iconst 4, 1) := by decide +kernel
theorem dX5_pinStep_21 : decode cX5_pinStep 21 = .ok (.if_icmp .ne 13, 3) := by decide +kernel
theorem dX5_pinStep_24 : decode cX5_pinStep 24 = .ok (.iload_n 2, 1) := by decide +kernel
theorem dX5_pinStep_25 : decode cX5_pinStep 25 = .ok (.iload_n 1, 1) := by decide +kernel
theorem dX5_pinStep_26 : decode cX5_pinStep 26 = .ok (.if_icmp .ne 5, 3) := by decide +kernel
theorem dX5_pinStep_29 : decode cX5_pinStep 29 = .ok (.iload_n 3, 1) := by decide +kernel
theorem dX5_pinStep_30 : decode cX5_pinStep 30 = .ok (.ireturn, 1) := by decide +kernel
theorem dX5_pinStep_31 : decode cX5_pinStep 31 = .ok (.iinc 2 1, 3) := by decide +kernel
theorem dX5_pinStep_34 : decode cX5_pinStep 34 = .ok (.iinc 3 1, 3) := by decide +kernel
theorem dX5_pinStep_37 : decode cX5_pinStep 37 = .ok (.goto (-33), 3) := by decide +kernel
theorem dX5_pinStep_40 : decode cX5_pinStep 40 = .ok (.bipush (-6), 2) := by decide +kernel
theorem dX5_pinStep_42 : decode cX5_pinStep 42 = .ok (.ireturn, 1) := by decide +kernel
theorem dX6_init_0 : decode cX6_init 0 = .ok (.aload_n 0, 1) := by decide +kernel
theorem dX6_init_1 : decode cX6_init 1 = .ok (.invokespecial 1, 3) := by decide +kernel
theorem dX6_init_4 : decode cX6_init 4 = .ok (.aload_n 0, 1) := by decide +kernel
theorem dX6_init_5 : decode cX6_init 5 = .ok (.sipush 244, 3) := by decide +kernel
theorem dX6_init_8 : decode cX6_init 8 = .ok (.newarray .int, 2) := by decide +kernel
theorem dX6_init_10 : decode cX6_init 10 = .ok (.putfield 7, 3) := by decide +kernel
theorem dX6_init_13 : decode cX6_init 13 = .ok (.aload_n 0, 1) := by decide +kernel
theorem dX6_init_14 : decode cX6_init 14 = .ok (.sipush 488, 3) := by decide +kernel
theorem dX6_init_17 : decode cX6_init 17 = .ok (.newarray .int, 2) := by decide +kernel
theorem dX6_init_19 : decode cX6_init 19 = .ok (.putfield 13, 3) := by decide +kernel
theorem dX6_init_22 : decode cX6_init 22 = .ok (.aload_n 0, 1) := by decide +kernel
theorem dX6_init_23 : decode cX6_init 23 = .ok (.iconst 2, 1) := by decide +kernel
theorem dX6_init_24 : decode cX6_init 24 = .ok (.newarray .boolean, 2) := by decide +kernel
theorem dX6_init_26 : decode cX6_init 26 = .ok (.putfield 16, 3) := by decide +kernel
theorem dX6_init_29 : decode cX6_init 29 = .ok (.aload_n 0, 1) := by decide +kernel
theorem dX6_init_30 : decode cX6_init 30 = .ok (.bipush 40, 2) := by decide +kernel
theorem dX6_init_32 : decode cX6_init 32 = .ok (.newarray .int, 2) := by decide +kernel
theorem dX6_init_34 : decode cX6_init 34 = .ok (.putfield 20, 3) := by decide +kernel
theorem dX6_init_37 : decode cX6_init 37 = .ok (.aload_n 0, 1) := by decide +kernel
theorem dX6_init_38 : decode cX6_init 38 = .ok (.bipush (-6), 2) := by decide +kernel
theorem dX6_init_40 : decode cX6_init 40 = .ok (.putfield 23, 3) := by decide +kernel
theorem dX6_init_43 : decode cX6_init 43 = .ok (.aload_n 0, 1) := by decide +kernel
theorem dX6_init_44 : decode cX6_init 44 = .ok (.iconst 3, 1) := by decide +kernel
theorem dX6_init_45 : decode cX6_init 45 = .ok (.newarray .int, 2) := by decide +kernel
theorem dX6_init_47 : decode cX6_init 47 = .ok (.putfield 27, 3) := by decide +kernel
theorem dX6_init_50 : decode cX6_init 50 = .ok (.aload_n 0, 1) := by decide +kernel
theorem dX6_init_51 : decode cX6_init 51 = .ok (.iconst 3, 1) := by decide +kernel
theorem dX6_init_52 : decode cX6_init 52 = .ok (.newarray .int, 2) := by decide +kernel
theorem dX6_init_54 : decode cX6_init 54 = .ok (.putfield 30, 3) := by decide +kernel
theorem dX6_init_57 : decode cX6_init 57 = .ok (.aload_n 0, 1) := by decide +kernel
theorem dX6_init_58 : decode cX6_init 58 = .ok (.bipush 60, 2) := by decide +kernel
theorem dX6_init_60 : decode cX6_init 60 = .ok (.newarray .int, 2) := by decide +kernel
theorem dX6_init_62 : decode cX6_init 62 = .ok (.putfield 33, 3) := by decide +kernel
theorem dX6_init_65 : decode cX6_init 65 = .ok (.aload_n 0, 1) := by decide +kernel
theorem dX6_init_66 : decode cX6_init 66 = .ok (.bipush 120, 2) := by decide +kernel
theorem dX6_init_68 : decode cX6_init 68 = .ok (.newarray .int, 2) := by decide +kernel
theorem dX6_init_70 : decode cX6_init 70 = .ok (.putfield 36, 3) := by decide +kernel
theorem dX6_init_73 : decode cX6_init 73 = .ok (.aload_n 0, 1) := by decide +kernel
theorem dX6_init_74 : decode cX6_init 74 = .ok (.bipush 120, 2) := by decide +kernel
theorem dX6_init_76 : decode cX6_init 76 = .ok (.newarray .int, 2) := by decide +kernel
theorem dX6_init_78 : decode cX6_init 78 = .ok (.putfield 39, 3) := by decide +kernel
theorem dX6_init_81 : decode cX6_init 81 = .ok (.aload_n 0, 1) := by decide +kernel
theorem dX6_init_82 : decode cX6_init 82 = .ok (.bipush 120, 2) := by decide +kernel
theorem dX6_init_84 : decode cX6_init 84 = .ok (.newarray .int, 2) := by decide +kernel
theorem dX6_init_86 : decode cX6_init 86 = .ok (.putfield 42, 3) := by decide +kernel
theorem dX6_init_89 : decode cX6_init 89 = .ok (.aload_n 0, 1) := by decide +kernel
theorem dX6_init_90 : decode cX6_init 90 = .ok (.bipush 8, 2) := by decide +kernel
theorem dX6_init_92 : decode cX6_init 92 = .ok (.newarray .int, 2) := by decide +kernel
theorem dX6_init_94 : decode cX6_init 94 = .ok (.putfield 45, 3) := by decide +kernel
theorem dX6_init_97 : decode cX6_init 97 = .ok (.aload_n 0, 1) := by decide +kernel
theorem dX6_init_98 : decode cX6_init 98 = .ok (.bipush 120, 2) := by decide +kernel
theorem dX6_init_100 : decode cX6_init 100 = .ok (.newarray .int, 2) := by decide +kernel
theorem dX6_init_102 : decode cX6_init 102 = .ok (.putfield 48, 3) := by decide +kernel
theorem dX6_init_105 : decode cX6_init 105 = .ok (.aload_n 0, 1) := by decide +kernel
theorem dX6_init_106 : decode cX6_init 106 = .ok (.bipush 120, 2) := by decide +kernel
theorem dX6_init_108 : decode cX6_init 108 = .ok (.newarray .int, 2) := by decide +kernel
theorem dX6_init_110 : decode cX6_init 110 = .ok (.putfield 51, 3) := by decide +kernel
theorem dX6_init_113 : decode cX6_init 113 = .ok (.aload_n 0, 1) := by decide +kernel
theorem dX6_init_114 : decode cX6_init 114 = .ok (.bipush 120, 2) := by decide +kernel
theorem dX6_init_116 : decode cX6_init 116 = .ok (.newarray .int, 2) := by decide +kernel
theorem dX6_init_118 : decode cX6_init 118 = .ok (.putfield 54, 3) := by decide +kernel
theorem dX6_init_121 : decode cX6_init 121 = .ok (.return_, 1) := by decide +kernel
theorem dX6_in_0 : decode cX6_in 0 = .ok (.iload_n 0, 1) := by decide +kernel
theorem dX6_in_1 : decode cX6_in 1 = .ok (.iload_n 1, 1) := by decide +kernel
theorem dX6_in_2 : decode cX6_in 2 = .ok (.if_icmp .lt 12, 3) := by decide +kernel
theorem dX6_in_5 : decode cX6_in 5 = .ok (.iload_n 0, 1) := by decide +kernel
theorem dX6_in_6 : decode cX6_in 6 = .ok (.iload_n 2, 1) := by decide +kernel
theorem dX6_in_7 : decode cX6_in 7 = .ok (.if_icmp .gt 7, 3) := by decide +kernel
theorem dX6_in_10 : decode cX6_in 10 = .ok (.iconst 1, 1) := by decide +kernel
theorem dX6_in_11 : decode cX6_in 11 = .ok (.goto 4, 3) := by decide +kernel
theorem dX6_in_14 : decode cX6_in 14 = .ok (.iconst 0, 1) := by decide +kernel
theorem dX6_in_15 : decode cX6_in 15 = .ok (.ireturn, 1) := by decide +kernel
theorem dX6_isWork_0 : decode cX6_isWork 0 = .ok (.iload_n 0, 1) := by decide +kernel
theorem dX6_isWork_1 : decode cX6_isWork 1 = .ok (.iconst 0, 1) := by decide +kernel
theorem dX6_isWork_2 : decode cX6_isWork 2 = .ok (.iconst 3, 1) := by decide +kernel
theorem dX6_isWork_3 : decode cX6_isWork 3 = .ok (.invokestatic 57, 3) := by decide +kernel
theorem dX6_isWork_6 : decode cX6_isWork 6 = .ok (.ireturn, 1) := by decide +kernel
theorem dX6_many_0 : decode cX6_many 0 = .ok (.aload_n 0, 1) := by decide +kernel
theorem dX6_many_1 : decode cX6_many 1 = .ok (.getfield 7, 3) := by decide +kernel
theorem dX6_many_4 : decode cX6_many 4 = .ok (.sipush 240, 3) := by decide +kernel
theorem dX6_many_7 : decode cX6_many 7 = .ok (.iload_n 1, 1) := by decide +kernel
theorem dX6_many_8 : decode cX6_many 8 = .ok (.iadd, 1) := by decide +kernel
theorem dX6_many_9 : decode cX6_many 9 = .ok (.iaload, 1) := by decide +kernel
theorem dX6_many_10 : decode cX6_many 10 = .ok (.ireturn, 1) := by decide +kernel
theorem dX6_kindOf_0 : decode cX6_kindOf 0 = .ok (.aload_n 0, 1) := by decide +kernel
theorem dX6_kindOf_1 : decode cX6_kindOf 1 = .ok (.getfield 7, 3) := by decide +kernel
theorem dX6_kindOf_4 : decode cX6_kindOf 4 = .ok (.bipush 60, 2) := by decide +kernel
theorem dX6_kindOf_6 : decode cX6_kindOf 6 = .ok (.iload_n 1, 1) := by decide +kernel
theorem dX6_kindOf_7 : decode cX6_kindOf 7 = .ok (.imul, 1) := by decide +kernel
theorem dX6_kindOf_8 : decode cX6_kindOf 8 = .ok (.iload_n 2, 1) := by decide +kernel
theorem dX6_kindOf_9 : decode cX6_kindOf 9 = .ok (.iadd, 1) := by decide +kernel
theorem dX6_kindOf_10 : decode cX6_kindOf 10 = .ok (.iaload, 1) := by decide +kernel
theorem dX6_kindOf_11 : decode cX6_kindOf 11 = .ok (.iconst 3, 1) := by decide +kernel
theorem dX6_kindOf_12 : decode cX6_kindOf 12 = .ok (.idiv, 1) := by decide +kernel
theorem dX6_kindOf_13 : decode cX6_kindOf 13 = .ok (.ireturn, 1) := by decide +kernel
theorem dX6_spotOf_0 : decode cX6_spotOf 0 = .ok (.aload_n 0, 1) := by decide +kernel
theorem dX6_spotOf_1 : decode cX6_spotOf 1 = .ok (.getfield 7, 3) := by decide +kernel
theorem dX6_spotOf_4 : decode cX6_spotOf 4 = .ok (.bipush 60, 2) := by decide +kernel
theorem dX6_spotOf_6 : decode cX6_spotOf 6 = .ok (.iload_n 1, 1) := by decide +kernel
theorem dX6_spotOf_7 : decode cX6_spotOf 7 = .ok (.imul, 1) := by decide +kernel
theorem dX6_spotOf_8 : decode cX6_spotOf 8 = .ok (.iload_n 2, 1) := by decide +kernel
theorem dX6_spotOf_9 : decode cX6_spotOf 9 = .ok (.iadd, 1) := by decide +kernel
theorem dX6_spotOf_10 : decode cX6_spotOf 10 = .ok (.iaload, 1) := by decide +kernel
theorem dX6_spotOf_11 : decode cX6_spotOf 11 = .ok (.iconst 3, 1) := by decide +kernel
theorem dX6_spotOf_12 : decode cX6_spotOf 12 = .ok (.irem, 1) := by decide +kernel
theorem dX6_spotOf_13 : decode cX6_spotOf 13 = .ok (.ireturn, 1) := by decide +kernel
theorem dX6_say_0 : decode cX6_say 0 = .ok (.iload_n 1, 1) := by decide +kernel
theorem dX6_say_1 : decode cX6_say 1 = .ok (.bipush 33, 2) := by decide +kernel
theorem dX6_say_3 : decode cX6_say 3 = .ok (.bipush 126, 2) := by decide +kernel
theorem dX6_say_5 : decode cX6_say 5 = .ok (.invokestatic 57, 3) := by decide +kernel
theorem dX6_say_8 : decode cX6_say 8 = .ok (.ifCond .ne 6, 3) := by decide +kernel
theorem dX6_say_11 : decode cX6_say 11 = .ok (.bipush (-2), 2) := by decide +kernel
theorem dX6_say_13 : decode cX6_say 13 = .ok (.ireturn, 1) := by decide +kernel
theorem dX6_say_14 : decode cX6_say 14 = .ok (.aload_n 0, 1) := by decide +kernel
theorem dX6_say_15 : decode cX6_say 15 = .ok (.getfield 61, 3) := by decide +kernel
theorem dX6_say_18 : decode cX6_say 18 = .ok (.bipush 40, 2) := by decide +kernel
theorem dX6_say_20 : decode cX6_say 20 = .ok (.if_icmp .ne 6, 3) := by decide +kernel
theorem dX6_say_23 : decode cX6_say 23 = .ok (.bipush (-4), 2) := by decide +kernel
theorem dX6_say_25 : decode cX6_say 25 = .ok (.ireturn, 1) := by decide +kernel
theorem dX6_say_26 : decode cX6_say 26 = .ok (.aload_n 0, 1) := by decide +kernel
theorem dX6_say_27 : decode cX6_say 27 = .ok (.getfield 20, 3) := by decide +kernel
theorem dX6_say_30 : decode cX6_say 30 = .ok (.aload_n 0, 1) := by decide +kernel
theorem dX6_say_31 : decode cX6_say 31 = .ok (.getfield 61, 3) := by decide +kernel
theorem dX6_say_34 : decode cX6_say 34 = .ok (.iload_n 1, 1) := by decide +kernel
theorem dX6_say_35 : decode cX6_say 35 = .ok (.iastore, 1) := by decide +kernel
theorem dX6_say_36 : decode cX6_say 36 = .ok (.aload_n 0, 1) := by decide +kernel
theorem dX6_say_37 : decode cX6_say 37 = .ok (.dup, 1) := by decide +kernel
theorem dX6_say_38 : decode cX6_say 38 = .ok (.getfield 61, 3) := by decide +kernel
theorem dX6_say_41 : decode cX6_say 41 = .ok (.iconst 1, 1) := by decide +kernel
theorem dX6_say_42 : decode cX6_say 42 = .ok (.iadd, 1) := by decide +kernel
theorem dX6_say_43 : decode cX6_say 43 = .ok (.putfield 61, 3) := by decide +kernel
theorem dX6_say_46 : decode cX6_say 46 = .ok (.aload_n 0, 1) := by decide +kernel
theorem dX6_say_47 : decode cX6_say 47 = .ok (.getfield 61, 3) := by decide +kernel
theorem dX6_say_50 : decode cX6_say 50 = .ok (.ireturn, 1) := by decide +kernel
theorem dX6_wipe_0 : decode cX6_wipe 0 = .ok (.aload_n 0, 1) := by decide +kernel
theorem dX6_wipe_1 : decode cX6_wipe 1 = .ok (.getfield 61, 3) := by decide +kernel
theorem dX6_wipe_4 : decode cX6_wipe 4 = .ok (.istore_n 1, 1) := by decide +kernel
theorem dX6_wipe_5 : decode cX6_wipe 5 = .ok (.aload_n 0, 1) := by decide +kernel
theorem dX6_wipe_6 : decode cX6_wipe 6 = .ok (.iconst 0, 1) := by decide +kernel
theorem dX6_wipe_7 : decode cX6_wipe 7 = .ok (.putfield 61, 3) := by decide +kernel
theorem dX6_wipe_10 : decode cX6_wipe 10 = .ok (.iload_n 1, 1) := by decide +kernel
theorem dX6_wipe_11 : decode cX6_wipe 11 = .ok (.ireturn, 1) := by decide +kernel
theorem dX6_kindBy_0 : decode cX6_kindBy 0 = .ok (.iload_n 0, 1) := by decide +kernel
theorem dX6_kindBy_1 : decode cX6_kindBy 1 = .ok (.bipush 67, 2) := by decide +kernel
theorem dX6_kindBy_3 : decode cX6_kindBy 3 = .ok (.if_icmp .ne 7, 3) := by decide +kernel
theorem dX6_kindBy_6 : decode cX6_kindBy 6 = .ok (.iconst 0, 1) := by decide +kernel
theorem dX6_kindBy_7 : decode cX6_kindBy 7 = .ok (.goto 45, 3) := by decide +kernel
theorem dX6_kindBy_10 : decode cX6_kindBy 10 = .ok (.iload_n 0, 1) := by decide +kernel
theorem dX6_kindBy_11 : decode cX6_kindBy 11 = .ok (.bipush 68, 2) := by decide +kernel
theorem dX6_kindBy_13 : decode cX6_kindBy 13 = .ok (.if_icmp .ne 7, 3) := by decide +kernel
theorem dX6_kindBy_16 : decode cX6_kindBy 16 = .ok (.iconst 1, 1) := by decide +kernel
theorem dX6_kindBy_17 : decode cX6_kindBy 17 = .ok (.goto 35, 3) := by decide +kernel
theorem dX6_kindBy_20 : decode cX6_kindBy 20 = .ok (.iload_n 0, 1) := by decide +kernel
theorem dX6_kindBy_21 : decode cX6_kindBy 21 = .ok (.bipush 84, 2) := by decide +kernel
theorem dX6_kindBy_23 : decode cX6_kindBy 23 = .ok (.if_icmp .ne 7, 3) := by decide +kernel
theorem dX6_kindBy_26 : decode cX6_kindBy 26 = .ok (.iconst 2, 1) := by decide +kernel
theorem dX6_kindBy_27 : decode cX6_kindBy 27 = .ok (.goto 25, 3) := by decide +kernel
theorem dX6_kindBy_30 : decode cX6_kindBy 30 = .ok (.iload_n 0, 1) := by decide +kernel
theorem dX6_kindBy_31 : decode cX6_kindBy 31 = .ok (.bipush 85, 2) := by decide +kernel
theorem dX6_kindBy_33 : decode cX6_kindBy 33 = .ok (.if_icmp .ne 7, 3) := by decide +kernel
theorem dX6_kindBy_36 : decode cX6_kindBy 36 = .ok (.iconst 3, 1) := by decide +kernel
theorem dX6_kindBy_37 : decode cX6_kindBy 37 = .ok (.goto 15, 3) := by decide +kernel
theorem dX6_kindBy_40 : decode cX6_kindBy 40 = .ok (.iload_n 0, 1) := by decide +kernel
theorem dX6_kindBy_41 : decode cX6_kindBy 41 = .ok (.bipush 80, 2) := by decide +kernel
theorem dX6_kindBy_43 : decode cX6_kindBy 43 = .ok (.if_icmp .ne 7, 3) := by decide +kernel
theorem dX6_kindBy_46 : decode cX6_kindBy 46 = .ok (.iconst 4, 1) := by decide +kernel
theorem dX6_kindBy_47 : decode cX6_kindBy 47 = .ok (.goto 5, 3) := by decide +kernel
theorem dX6_kindBy_50 : decode cX6_kindBy 50 = .ok (.bipush (-6), 2) := by decide +kernel
theorem dX6_kindBy_52 : decode cX6_kindBy 52 = .ok (.ireturn, 1) := by decide +kernel
theorem dX6_fault_0 : decode cX6_fault 0 = .ok (.iconst 0, 1) := by decide +kernel
theorem dX6_fault_1 : decode cX6_fault 1 = .ok (.istore_n 1, 1) := by decide +kernel
theorem dX6_fault_2 : decode cX6_fault 2 = .ok (.iconst 0, 1) := by decide +kernel
theorem dX6_fault_3 : decode cX6_fault 3 = .ok (.istore_n 2, 1) := by decide +kernel
theorem dX6_fault_4 : decode cX6_fault 4 = .ok (.iconst 0, 1) := by decide +kernel
theorem dX6_fault_5 : decode cX6_fault 5 = .ok (.istore_n 3, 1) := by decide +kernel
theorem dX6_fault_6 : decode cX6_fault 6 = .ok (.iload_n 3, 1) := by decide +kernel
theorem dX6_fault_7 : decode cX6_fault 7 = .ok (.aload_n 0, 1) := by decide +kernel
theorem dX6_fault_8 : decode cX6_fault 8 = .ok (.getfield 61, 3) := by decide +kernel
theorem dX6_fault_11 : decode cX6_fault 11 = .ok (.if_icmp .ge 103, 3) := by decide +kernel
theorem dX6_fault_14 : decode cX6_fault 14 = .ok (.aload_n 0, 1) := by decide +kernel
theorem dX6_fault_15 : decode cX6_fault 15 = .ok (.getfield 20, 3) := by decide +kernel
theorem dX6_fault_18 : decode cX6_fault 18 = .ok (.iload_n 3, 1) := by decide +kernel
theorem dX6_fault_19 : decode cX6_fault 19 = .ok (.iaload, 1) := by decide +kernel
theorem dX6_fault_20 : decode cX6_fault 20 = .ok (.istore 4, 2) := by decide +kernel
theorem dX6_fault_22 : decode cX6_fault 22 = .ok (.iload_n 2, 1) := by decide +kernel
theorem dX6_fault_23 : decode cX6_fault 23 = .ok (.ifCond .eq 22, 3) := by decide +kernel
theorem dX6_fault_26 : decode cX6_fault 26 = .ok (.iload 4, 2) := by decide +kernel
theorem dX6_fault_28 : decode cX6_fault 28 = .ok (.bipush 49, 2) := by decide +kernel
theorem dX6_fault_30 : decode cX6_fault 30 = .ok (.bipush 57, 2) := by decide +kernel
theorem dX6_fault_32 : decode cX6_fault 32 = .ok (.invokestatic 57, 3) := by decide +kernel
theorem dX6_fault_35 : decode cX6_fault 35 = .ok (.ifCond .ne 5, 3) := by decide +kernel
theorem dX6_fault_38 : decode cX6_fault 38 = .ok (.iload_n 3, 1) := by decide +kernel
theorem dX6_fault_39 : decode cX6_fault 39 = .ok (.ireturn, 1) := by decide +kernel
theorem dX6_fault_40 : decode cX6_fault 40 = .ok (.iconst 0, 1) := by decide +kernel
theorem dX6_fault_41 : decode cX6_fault 41 = .ok (.istore_n 2, 1) := by decide +kernel
theorem dX6_fault_42 : decode cX6_fault 42 = .ok (.goto 66, 3) := by decide +kernel
theorem dX6_fault_45 : decode cX6_fault 45 = .ok (.iload 4, 2) := by decide +kernel
theorem dX6_fault_47 : decode cX6_fault 47 = .ok (.bipush 40, 2) := by decide +kernel
theorem dX6_fault_49 : decode cX6_fault 49 = .ok (.if_icmp .ne 16, 3) := by decide +kernel
theorem dX6_fault_52 : decode cX6_fault 52 = .ok (.iload_n 1, 1) := by decide +kernel
theorem dX6_fault_53 : decode cX6_fault 53 = .ok (.iconst 3, 1) := by decide +kernel
theorem dX6_fault_54 : decode cX6_fault 54 = .ok (.if_icmp .ne 5, 3) := by decide +kernel
theorem dX6_fault_57 : decode cX6_fault 57 = .ok (.iload_n 3, 1) := by decide +kernel
theorem dX6_fault_58 : decode cX6_fault 58 = .ok (.ireturn, 1) := by decide +kernel
theorem dX6_fault_59 : decode cX6_fault 59 = .ok (.iinc 1 1, 3) := by decide +kernel
theorem dX6_fault_62 : decode cX6_fault 62 = .ok (.goto 46, 3) := by decide +kernel
theorem dX6_fault_65 : decode cX6_fault 65 = .ok (.iload 4, 2) := by decide +kernel
theorem dX6_fault_67 : decode cX6_fault 67 = .ok (.bipush 41, 2) := by decide +kernel
theorem dX6_fault_69 : decode cX6_fault 69 = .ok (.if_icmp .ne 17, 3) := by decide +kernel
theorem dX6_fault_72 : decode cX6_fault 72 = .ok (.iload_n 1, 1) := by decide +kernel
theorem dX6_fault_73 : decode cX6_fault 73 = .ok (.ifCond .ne 5, 3) := by decide +kernel
theorem dX6_fault_76 : decode cX6_fault 76 = .ok (.iload_n 3, 1) := by decide +kernel
theorem dX6_fault_77 : decode cX6_fault 77 = .ok (.ireturn, 1) := by decide +kernel
theorem dX6_fault_78 : decode cX6_fault 78 = .ok (.iinc 1 (-1), 3) := by decide +kernel
theorem dX6_fault_81 : decode cX6_fault 81 = .ok (.iconst 1, 1) := by decide +kernel
theorem dX6_fault_82 : decode cX6_fault 82 = .ok (.istore_n 2, 1) := by decide +kernel
theorem dX6_fault_83 : decode cX6_fault 83 = .ok (.goto 25, 3) := by decide +kernel
theorem dX6_fault_86 : decode cX6_fault 86 = .ok (.iload 4, 2) := by decide +kernel
theorem dX6_fault_88 : decode cX6_fault 88 = .ok (.invokestatic 64, 3) := by decide +kernel
theorem dX6_fault_91 : decode cX6_fault 91 = .ok (.ifCond .ge 17, 3) := by decide +kernel
theorem dX6_fault_94 : decode cX6_fault 94 = .ok (.iload 4, 2) := by decide +kernel
theorem dX6_fault_96 : decode cX6_fault 96 = .ok (.bipush 48, 2) := by decide +kernel
theorem dX6_fault_98 : decode cX6_fault 98 = .ok (.bipush 50, 2) := by decide +kernel
theorem dX6_fault_100 : decode cX6_fault 100 = .ok (.invokestatic 57, 3) := by decide +kernel
theorem dX6_fault_103 : decode cX6_fault 103 = .ok (.ifCond .ne 5, 3) := by decide +kernel
theorem dX6_fault_106 : decode cX6_fault 106 = .ok (.iload_n 3, 1) := by decide +kernel
theorem dX6_fault_107 : decode cX6_fault 107 = .ok (.ireturn, 1) := by decide +kernel
theorem dX6_fault_108 : decode cX6_fault 108 = .ok (.iinc 3 1, 3) := by decide +kernel
theorem dX6_fault_111 : decode cX6_fault 111 = .ok (.goto (-105), 3) := by decide +kernel
theorem dX6_fault_114 : decode cX6_fault 114 = .ok (.iload_n 1, 1) := by decide +kernel
theorem dX6_fault_115 : decode cX6_fault 115 = .ok (.ifCond .gt 7, 3) := by decide +kernel
theorem dX6_fault_118 : decode cX6_fault 118 = .ok (.iload_n 2, 1) := by decide +kernel
theorem dX6_fault_119 : decode cX6_fault 119 = .ok (.ifCond .eq 10, 3) := by decide +kernel
theorem dX6_fault_122 : decode cX6_fault 122 = .ok (.aload_n 0, 1) := by decide +kernel
theorem dX6_fault_123 : decode cX6_fault 123 = .ok (.getfield 61, 3) := by decide +kernel
theorem dX6_fault_126 : decode cX6_fault 126 = .ok (.goto 5, 3) := by decide +kernel
theorem dX6_fault_129 : decode cX6_fault 129 = .ok (.bipush (-6), 2) := by decide +kernel
theorem dX6_fault_131 : decode cX6_fault 131 = .ok (.ireturn, 1) := by decide +kernel
theorem dX6_endOf_0 : decode cX6_endOf 0 = .ok (.iconst 0, 1) := by decide +kernel
theorem dX6_endOf_1 : decode cX6_endOf 1 = .ok (.istore_n 2, 1) := by decide +kernel
theorem dX6_endOf_2 : decode cX6_endOf 2 = .ok (.iload_n 1, 1) := by decide +kernel
theorem dX6_endOf_3 : decode cX6_endOf 3 = .ok (.istore_n 3, 1) := by decide +kernel
theorem dX6_endOf_4 : decode cX6_endOf 4 = .ok (.iconst 1, 1) := by decide +kernel
theorem dX6_endOf_5 : decode cX6_endOf 5 = .ok (.istore 4, 2) := by decide +kernel
theorem dX6_endOf_7 : decode cX6_endOf 7 = .ok (.iload 4, 2) := by decide +kernel
theorem dX6_endOf_9 : decode cX6_endOf 9 = .ok (.ifCond .eq 64, 3) := by decide +kernel
theorem dX6_endOf_12 : decode cX6_endOf 12 = .ok (.iload_n 2, 1) := by decide +kernel
theorem dX6_endOf_13 : decode cX6_endOf 13 = .ok (.aload_n 0, 1) := by decide +kernel
theorem dX6_endOf_14 : decode cX6_endOf 14 = .ok (.getfield 20, 3) := by decide +kernel
theorem dX6_endOf_17 : decode cX6_endOf 17 = .ok (.iload_n 3, 1) := by decide +kernel
theorem dX6_endOf_18 : decode cX6_endOf 18 = .ok (.iaload, 1) := by decide +kernel
theorem dX6_endOf_19 : decode cX6_endOf 19 = .ok (.bipush 40, 2) := by decide +kernel
theorem dX6_endOf_21 : decode cX6_endOf 21 = .ok (.if_icmp .ne 7, 3) := by decide +kernel
theorem dX6_endOf_24 : decode cX6_endOf 24 = .ok (.iconst 1, 1) := by decide +kernel
theorem dX6_endOf_25 : decode cX6_endOf 25 = .ok (.goto 19, 3) := by decide +kernel
theorem dX6_endOf_28 : decode cX6_endOf 28 = .ok (.aload_n 0, 1) := by decide +kernel
theorem dX6_endOf_29 : decode cX6_endOf 29 = .ok (.getfield 20, 3) := by decide +kernel
theorem dX6_endOf_32 : decode cX6_endOf 32 = .ok (.iload_n 3, 1) := by decide +kernel
theorem dX6_endOf_33 : decode cX6_endOf 33 = .ok (.iaload, 1) := by decide +kernel
theorem dX6_endOf_34 : decode cX6_endOf 34 = .ok (.bipush 41, 2) := by decide +kernel
theorem dX6_endOf_36 : decode cX6_endOf 36 = .ok (.if_icmp .ne 7, 3) := by decide +kernel
theorem dX6_endOf_39 : decode cX6_endOf 39 = .ok (.iconst (-1), 1) := by decide +kernel
theorem dX6_endOf_40 : decode cX6_endOf 40 = .ok (.goto 4, 3) := by decide +kernel
theorem dX6_endOf_43 : decode cX6_endOf 43 = .ok (.iconst 0, 1) := by decide +kernel
theorem dX6_endOf_44 : decode cX6_endOf 44 = .ok (.iadd, 1) := by decide +kernel
theorem dX6_endOf_45 : decode cX6_endOf 45 = .ok (.istore_n 2, 1) := by decide +kernel
theorem dX6_endOf_46 : decode cX6_endOf 46 = .ok (.iload_n 2, 1) := by decide +kernel
theorem dX6_endOf_47 : decode cX6_endOf 47 = .ok (.ifCond .le 7, 3) := by decide +kernel
theorem dX6_endOf_50 : decode cX6_endOf 50 = .ok (.iconst 1, 1) := by decide +kernel
theorem dX6_endOf_51 : decode cX6_endOf 51 = .ok (.goto 4, 3) := by decide +kernel
theorem dX6_endOf_54 : decode cX6_endOf 54 = .ok (.iconst 0, 1) := by decide +kernel
theorem dX6_endOf_55 : decode cX6_endOf 55 = .ok (.istore 4, 2) := by decide +kernel
theorem dX6_endOf_57 : decode cX6_endOf 57 = .ok (.iload_n 3, 1) := by decide +kernel
theorem dX6_endOf_58 : decode cX6_endOf 58 = .ok (.iload 4, 2) := by decide +kernel
theorem dX6_endOf_60 : decode cX6_endOf 60 = .ok (.ifCond .eq 7, 3) := by decide +kernel
theorem dX6_endOf_63 : decode cX6_endOf 63 = .ok (.iconst 1, 1) := by decide +kernel
theorem dX6_endOf_64 : decode cX6_endOf 64 = .ok (.goto 4, 3) := by decide +kernel
theorem dX6_endOf_67 : decode cX6_endOf 67 = .ok (.iconst 0, 1) := by decide +kernel
theorem dX6_endOf_68 : decode cX6_endOf 68 = .ok (.iadd, 1) := by decide +kernel
theorem dX6_endOf_69 : decode cX6_endOf 69 = .ok (.istore_n 3, 1) := by decide +kernel
theorem dX6_endOf_70 : decode cX6_endOf 70 = .ok (.goto (-63), 3) := by decide +kernel
theorem dX6_endOf_73 : decode cX6_endOf 73 = .ok (.iload_n 3, 1) := by decide +kernel
theorem dX6_endOf_74 : decode cX6_endOf 74 = .ok (.ireturn, 1) := by decide +kernel
theorem dX6_unfold_0 : decode cX6_unfold 0 = .ok (.iconst 0, 1) := by decide +kernel
theorem dX6_unfold_1 : decode cX6_unfold 1 = .ok (.istore_n 1, 1) := by decide +kernel
theorem dX6_unfold_2 : decode cX6_unfold 2 = .ok (.iconst 0, 1) := by decide +kernel
theorem dX6_unfold_3 : decode cX6_unfold 3 = .ok (.istore_n 2, 1) := by decide +kernel
theorem dX6_unfold_4 : decode cX6_unfold 4 = .ok (.iconst 0, 1) := by decide +kernel
theorem dX6_unfold_5 : decode cX6_unfold 5 = .ok (.istore_n 3, 1) := by decide +kernel
theorem dX6_unfold_6 : decode cX6_unfold 6 = .ok (.iconst 0, 1) := by decide +kernel
theorem dX6_unfold_7 : decode cX6_unfold 7 = .ok (.istore 4, 2) := by decide +kernel
theorem dX6_unfold_9 : decode cX6_unfold 9 = .ok (.iload 4, 2) := by decide +kernel
theorem dX6_unfold_11 : decode cX6_unfold 11 = .ok (.aload_n 0, 1) := by decide +kernel
theorem dX6_unfold_12 : decode cX6_unfold 12 = .ok (.getfield 61, 3) := by decide +kernel
theorem dX6_unfold_15 : decode cX6_unfold 15 = .ok (.if_icmp .ge 166, 3) := by decide +kernel
theorem dX6_unfold_18 : decode cX6_unfold 18 = .ok (.aload_n 0, 1) := by decide +kernel
theorem dX6_unfold_19 : decode cX6_unfold 19 = .ok (.getfield 20, 3) := by decide +kernel
theorem dX6_unfold_22 : decode cX6_unfold 22 = .ok (.iload 4, 2) := by decide +kernel
theorem dX6_unfold_24 : decode cX6_unfold 24 = .ok (.iaload, 1) := by decide +kernel
theorem dX6_unfold_25 : decode cX6_unfold 25 = .ok (.istore 5, 2) := by decide +kernel
theorem dX6_unfold_27 : decode cX6_unfold 27 = .ok (.iload 5, 2) := by decide +kernel
theorem dX6_unfold_29 : decode cX6_unfold 29 = .ok (.bipush 40, 2) := by decide +kernel
theorem dX6_unfold_31 : decode cX6_unfold 31 = .ok (.if_icmp .ne 44, 3) := by decide +kernel
theorem dX6_unfold_34 : decode cX6_unfold 34 = .ok (.aload_n 0, 1) := by decide +kernel
theorem dX6_unfold_35 : decode cX6_unfold 35 = .ok (.getfield 27, 3) := by decide +kernel
theorem dX6_unfold_38 : decode cX6_unfold 38 = .ok (.iload_n 3, 1) := by decide +kernel
theorem dX6_unfold_39 : decode cX6_unfold 39 = .ok (.iload 4, 2) := by decide +kernel
theorem dX6_unfold_41 : decode cX6_unfold 41 = .ok (.iconst 1, 1) := by decide +kernel
theorem dX6_unfold_42 : decode cX6_unfold 42 = .ok (.iadd, 1) := by decide +kernel
theorem dX6_unfold_43 : decode cX6_unfold 43 = .ok (.iastore, 1) := by decide +kernel
theorem dX6_unfold_44 : decode cX6_unfold 44 = .ok (.aload_n 0, 1) := by decide +kernel
theorem dX6_unfold_45 : decode cX6_unfold 45 = .ok (.getfield 30, 3) := by decide +kernel
theorem dX6_unfold_48 : decode cX6_unfold 48 = .ok (.iload_n 3, 1) := by decide +kernel
theorem dX6_unfold_49 : decode cX6_unfold 49 = .ok (.aload_n 0, 1) := by decide +kernel
theorem dX6_unfold_50 : decode cX6_unfold 50 = .ok (.getfield 20, 3) := by decide +kernel
theorem dX6_unfold_53 : decode cX6_unfold 53 = .ok (.aload_n 0, 1) := by decide +kernel
theorem dX6_unfold_54 : decode cX6_unfold 54 = .ok (.iload 4, 2) := by decide +kernel
theorem dX6_unfold_56 : decode cX6_unfold 56 = .ok (.invokevirtual 68, 3) := by decide +kernel
theorem dX6_unfold_59 : decode cX6_unfold 59 = .ok (.iconst 1, 1) := by decide +kernel
theorem dX6_unfold_60 : decode cX6_unfold 60 = .ok (.iadd, 1) := by decide +kernel
theorem dX6_unfold_61 : decode cX6_unfold 61 = .ok (.iaload, 1) := by decide +kernel
theorem dX6_unfold_62 : decode cX6_unfold 62 = .ok (.bipush 48, 2) := by decide +kernel
theorem dX6_unfold_64 : decode cX6_unfold 64 = .ok (.isub, 1) := by decide +kernel
theorem dX6_unfold_65 : decode cX6_unfold 65 = .ok (.iastore, 1) := by decide +kernel
theorem dX6_unfold_66 : decode cX6_unfold 66 = .ok (.iinc 3 1, 3) := by decide +kernel
theorem dX6_unfold_69 : decode cX6_unfold 69 = .ok (.iinc 4 1, 3) := by decide +kernel
theorem dX6_unfold_72 : decode cX6_unfold 72 = .ok (.goto 106, 3) := by decide +kernel
theorem dX6_unfold_75 : decode cX6_unfold 75 = .ok (.iload 5, 2) := by decide +kernel
theorem dX6_unfold_77 : decode cX6_unfold 77 = .ok (.bipush 41, 2) := by decide +kernel
theorem dX6_unfold_79 : decode cX6_unfold 79 = .ok (.if_icmp .ne 48, 3) := by decide +kernel
theorem dX6_unfold_82 : decode cX6_unfold 82 = .ok (.aload_n 0, 1) := by decide +kernel
theorem dX6_unfold_83 : decode cX6_unfold 83 = .ok (.getfield 30, 3) := by decide +kernel
theorem dX6_unfold_86 : decode cX6_unfold 86 = .ok (.iload_n 3, 1) := by decide +kernel
theorem dX6_unfold_87 : decode cX6_unfold 87 = .ok (.iconst 1, 1) := by decide +kernel
theorem dX6_unfold_88 : decode cX6_unfold 88 = .ok (.isub, 1) := by decide +kernel
theorem dX6_unfold_89 : decode cX6_unfold 89 = .ok (.dup2, 1) := by decide +kernel
theorem dX6_unfold_90 : decode cX6_unfold 90 = .ok (.iaload, 1) := by decide +kernel
theorem dX6_unfold_91 : decode cX6_unfold 91 = .ok (.iconst 1, 1) := by decide +kernel
theorem dX6_unfold_92 : decode cX6_unfold 92 = .ok (.isub, 1) := by decide +kernel
theorem dX6_unfold_93 : decode cX6_unfold 93 = .ok (.iastore, 1) := by decide +kernel
theorem dX6_unfold_94 : decode cX6_unfold 94 = .ok (.aload_n 0, 1) := by decide +kernel
theorem dX6_unfold_95 : decode cX6_unfold 95 = .ok (.getfield 30, 3) := by decide +kernel
theorem dX6_unfold_98 : decode cX6_unfold 98 = .ok (.iload_n 3, 1) := by decide +kernel
theorem dX6_unfold_99 : decode cX6_unfold 99 = .ok (.iconst 1, 1) := by decide +kernel
theorem dX6_unfold_100 : decode cX6_unfold 100 = .ok (.isub, 1) := by decide +kernel
theorem dX6_unfold_101 : decode cX6_unfold 101 = .ok (.iaload, 1) := by decide +kernel
theorem dX6_unfold_102 : decode cX6_unfold 102 = .ok (.ifCond .le 16, 3) := by decide +kernel
theorem dX6_unfold_105 : decode cX6_unfold 105 = .ok (.aload_n 0, 1) := by decide +kernel
theorem dX6_unfold_106 : decode cX6_unfold 106 = .ok (.getfield 27, 3) := by decide +kernel
theorem dX6_unfold_109 : decode cX6_unfold 109 = .ok (.iload_n 3, 1) := by decide +kernel
theorem dX6_unfold_110 : decode cX6_unfold 110 = .ok (.iconst 1, 1) := by decide +kernel
theorem dX6_unfold_111 : decode cX6_unfold 111 = .ok (.isub, 1) := by decide +kernel
theorem dX6_unfold_112 : decode cX6_unfold 112 = .ok (.iaload, 1) := by decide +kernel
theorem dX6_unfold_113 : decode cX6_unfold 113 = .ok (.istore 4, 2) := by decide +kernel
theorem dX6_unfold_115 : decode cX6_unfold 115 = .ok (.goto 63, 3) := by decide +kernel
theorem dX6_unfold_118 : decode cX6_unfold 118 = .ok (.iinc 3 (-1), 3) := by decide +kernel
theorem dX6_unfold_121 : decode cX6_unfold 121 = .ok (.iinc 4 2, 3) := by decide +kernel
theorem dX6_unfold_124 : decode cX6_unfold 124 = .ok (.goto 54, 3) := by decide +kernel
theorem dX6_unfold_127 : decode cX6_unfold 127 = .ok (.iload 5, 2) := by decide +kernel
theorem dX6_unfold_129 : decode cX6_unfold 129 = .ok (.bipush 48, 2) := by decide +kernel
theorem dX6_unfold_131 : decode cX6_unfold 131 = .ok (.bipush 50, 2) := by decide +kernel
theorem dX6_unfold_133 : decode cX6_unfold 133 = .ok (.invokestatic 57, 3) := by decide +kernel
theorem dX6_unfold_136 : decode cX6_unfold 136 = .ok (.ifCond .eq 12, 3) := by decide +kernel
theorem dX6_unfold_139 : decode cX6_unfold 139 = .ok (.iload 5, 2) := by decide +kernel
theorem dX6_unfold_141 : decode cX6_unfold 141 = .ok (.bipush 48, 2) := by decide +kernel
theorem dX6_unfold_143 : decode cX6_unfold 143 = .ok (.isub, 1) := by decide +kernel
theorem dX6_unfold_144 : decode cX6_unfold 144 = .ok (.istore_n 2, 1) := by decide +kernel
theorem dX6_unfold_145 : decode cX6_unfold 145 = .ok (.goto 30, 3) := by decide +kernel
theorem dX6_unfold_148 : decode cX6_unfold 148 = .ok (.iload_n 1, 1) := by decide +kernel
theorem dX6_unfold_149 : decode cX6_unfold 149 = .ok (.bipush 60, 2) := by decide +kernel
theorem dX6_unfold_151 : decode cX6_unfold 151 = .ok (.if_icmp .ne 6, 3) := by decide +kernel
theorem dX6_unfold_154 : decode cX6_unfold 154 = .ok (.bipush (-6), 2) := by decide +kernel
theorem dX6_unfold_156 : decode cX6_unfold 156 = .ok (.ireturn, 1) := by decide +kernel
theorem dX6_unfold_157 : decode cX6_unfold 157 = .ok (.aload_n 0, 1) := by decide +kernel
theorem dX6_unfold_158 : decode cX6_unfold 158 = .ok (.getfield 33, 3) := by decide +kernel
theorem dX6_unfold_161 : decode cX6_unfold 161 = .ok (.iload_n 1, 1) := by decide +kernel
theorem dX6_unfold_162 : decode cX6_unfold 162 = .ok (.iconst 3, 1) := by decide +kernel
theorem dX6_unfold_163 : decode cX6_unfold 163 = .ok (.iload 5, 2) := by decide +kernel
theorem dX6_unfold_165 : decode cX6_unfold 165 = .ok (.invokestatic 64, 3) := by decide +kernel
theorem dX6_unfold_168 : decode cX6_unfold 168 = .ok (.imul, 1) := by decide +kernel
theorem dX6_unfold_169 : decode cX6_unfold 169 = .ok (.iload_n 2, 1) := by decide +kernel
theorem dX6_unfold_170 : decode cX6_unfold 170 = .ok (.iadd, 1) := by decide +kernel
theorem dX6_unfold_171 : decode cX6_unfold 171 = .ok (.iastore, 1) := by decide +kernel
theorem dX6_unfold_172 : decode cX6_unfold 172 = .ok (.iinc 1 1, 3) := by decide +kernel
theorem dX6_unfold_175 : decode cX6_unfold 175 = .ok (.iinc 4 1, 3) := by decide +kernel
theorem dX6_unfold_178 : decode cX6_unfold 178 = .ok (.goto (-169), 3) := by decide +kernel
theorem dX6_unfold_181 : decode cX6_unfold 181 = .ok (.iload_n 1, 1) := by decide +kernel
theorem dX6_unfold_182 : decode cX6_unfold 182 = .ok (.ireturn, 1) := by decide +kernel
theorem dX6_take_0 : decode cX6_take 0 = .ok (.iconst 0, 1) := by decide +kernel
theorem dX6_take_1 : decode cX6_take 1 = .ok (.istore_n 3, 1) := by decide +kernel
theorem dX6_take_2 : decode cX6_take 2 = .ok (.iload_n 3, 1) := by decide +kernel
theorem dX6_take_3 : decode cX6_take 3 = .ok (.iload_n 2, 1) := by decide +kernel
theorem dX6_take_4 : decode cX6_take 4 = .ok (.if_icmp .ge 26, 3) := by decide +kernel
theorem dX6_take_7 : decode cX6_take 7 = .ok (.aload_n 0, 1) := by decide +kernel
theorem dX6_take_8 : decode cX6_take 8 = .ok (.getfield 7, 3) := by decide +kernel
theorem dX6_take_11 : decode cX6_take 11 = .ok (.bipush 60, 2) := by decide +kernel
theorem dX6_take_13 : decode cX6_take 13 = .ok (.iload_n 1, 1) := by decide +kernel
theorem dX6_take_14 : decode cX6_take 14 = .ok (.imul, 1) := by decide +kernel
theorem dX6_take_15 : decode cX6_take 15 = .ok (.iload_n 3, 1) := by decide +kernel
theorem dX6_take_16 : decode cX6_take 16 = .ok (.iadd, 1) := by decide +kernel
theorem dX6_take_17 : decode cX6_take 17 = .ok (.aload_n 0, 1) := by decide +kernel
theorem dX6_take_18 : decode cX6_take 18 = .ok (.getfield 33, 3) := by decide +kernel
theorem dX6_take_21 : decode cX6_take 21 = .ok (.iload_n 3, 1) := by decide +kernel
theorem dX6_take_22 : decode cX6_take 22 = .ok (.iaload, 1) := by decide +kernel
theorem dX6_take_23 : decode cX6_take 23 = .ok (.iastore, 1) := by decide +kernel
theorem dX6_take_24 : decode cX6_take 24 = .ok (.iinc 3 1, 3) := by decide +kernel
theorem dX6_take_27 : decode cX6_take 27 = .ok (.goto (-25), 3) := by decide +kernel
theorem dX6_take_30 : decode cX6_take 30 = .ok (.aload_n 0, 1) := by decide +kernel
theorem dX6_take_31 : decode cX6_take 31 = .ok (.getfield 7, 3) := by decide +kernel
theorem dX6_take_34 : decode cX6_take 34 = .ok (.sipush 240, 3) := by decide +kernel
theorem dX6_take_37 : decode cX6_take 37 = .ok (.iload_n 1, 1) := by decide +kernel
theorem dX6_take_38 : decode cX6_take 38 = .ok (.iadd, 1) := by decide +kernel
theorem dX6_take_39 : decode cX6_take 39 = .ok (.iload_n 2, 1) := by decide +kernel
theorem dX6_take_40 : decode cX6_take 40 = .ok (.iastore, 1) := by decide +kernel
theorem dX6_take_41 : decode cX6_take 41 = .ok (.iload_n 2, 1) := by decide +kernel
theorem dX6_take_42 : decode cX6_take 42 = .ok (.ireturn, 1) := by decide +kernel
theorem dX6_work_0 : decode cX6_work 0 = .ok (.iload_n 1, 1) := by decide +kernel
theorem dX6_work_1 : decode cX6_work 1 = .ok (.invokestatic 71, 3) := by decide +kernel
theorem dX6_work_4 : decode cX6_work 4 = .ok (.ifCond .ne 5, 3) := by decide +kernel
theorem dX6_work_7 : decode cX6_work 7 = .ok (.iconst (-1), 1) := by decide +kernel
theorem dX6_work_8 : decode cX6_work 8 = .ok (.ireturn, 1) := by decide +kernel
theorem dX6_work_9 : decode cX6_work 9 = .ok (.aload_n 0, 1) := by decide +kernel
theorem dX6_work_10 : decode cX6_work 10 = .ok (.invokevirtual 75, 3) := by decide +kernel
theorem dX6_work_13 : decode cX6_work 13 = .ok (.istore_n 2, 1) := by decide +kernel
theorem dX6_work_14 : decode cX6_work 14 = .ok (.iload_n 2, 1) := by decide +kernel
theorem dX6_work_15 : decode cX6_work 15 = .ok (.ifCond .lt 11, 3) := by decide +kernel
theorem dX6_work_18 : decode cX6_work 18 = .ok (.aload_n 0, 1) := by decide +kernel
theorem dX6_work_19 : decode cX6_work 19 = .ok (.iload_n 2, 1) := by decide +kernel
theorem dX6_work_20 : decode cX6_work 20 = .ok (.putfield 23, 3) := by decide +kernel
theorem dX6_work_23 : decode cX6_work 23 = .ok (.bipush (-7), 2) := by decide +kernel
theorem dX6_work_25 : decode cX6_work 25 = .ok (.ireturn, 1) := by decide +kernel
theorem dX6_work_26 : decode cX6_work 26 = .ok (.aload_n 0, 1) := by decide +kernel
theorem dX6_work_27 : decode cX6_work 27 = .ok (.invokevirtual 79, 3) := by decide +kernel
theorem dX6_work_30 : decode cX6_work 30 = .ok (.istore_n 3, 1) := by decide +kernel
theorem dX6_work_31 : decode cX6_work 31 = .ok (.iload_n 3, 1) := by decide +kernel
theorem dX6_work_32 : decode cX6_work 32 = .ok (.ifCond .ge 6, 3) := by decide +kernel
theorem dX6_work_35 : decode cX6_work 35 = .ok (.bipush (-4), 2) := by decide +kernel
theorem dX6_work_37 : decode cX6_work 37 = .ok (.ireturn, 1) := by decide +kernel
theorem dX6_work_38 : decode cX6_work 38 = .ok (.aload_n 0, 1) := by decide +kernel
theorem dX6_work_39 : decode cX6_work 39 = .ok (.iconst 0, 1) := by decide +kernel
theorem dX6_work_40 : decode cX6_work 40 = .ok (.putfield 61, 3) := by decide +kernel
theorem dX6_work_43 : decode cX6_work 43 = .ok (.aload_n 0, 1) := by decide +kernel
theorem dX6_work_44 : decode cX6_work 44 = .ok (.iload_n 1, 1) := by decide +kernel
theorem dX6_work_45 : decode cX6_work 45 = .ok (.iload_n 3, 1) := by decide +kernel
theorem dX6_work_46 : decode cX6_work 46 = .ok (.invokevirtual 82, 3) := by decide +kernel
theorem dX6_work_49 : decode cX6_work 49 = .ok (.ireturn, 1) := by decide +kernel
theorem dX6_join_0 : decode cX6_join 0 = .ok (.iload_n 1, 1) := by decide +kernel
theorem dX6_join_1 : decode cX6_join 1 = .ok (.invokestatic 71, 3) := by decide +kernel
theorem dX6_join_4 : decode cX6_join 4 = .ok (.ifCond .eq 17, 3) := by decide +kernel
theorem dX6_join_7 : decode cX6_join 7 = .ok (.iload_n 2, 1) := by decide +kernel
theorem dX6_join_8 : decode cX6_join 8 = .ok (.invokestatic 71, 3) := by decide +kernel
theorem dX6_join_11 : decode cX6_join 11 = .ok (.ifCond .eq 10, 3) := by decide +kernel
theorem dX6_join_14 : decode cX6_join 14 = .ok (.iload_n 3, 1) := by decide +kernel
theorem dX6_join_15 : decode cX6_join 15 = .ok (.invokestatic 71, 3) := by decide +kernel
theorem dX6_join_18 : decode cX6_join 18 = .ok (.ifCond .ne 5, 3) := by decide +kernel
theorem dX6_join_21 : decode cX6_join 21 = .ok (.iconst (-1), 1) := by decide +kernel
theorem dX6_join_22 : decode cX6_join 22 = .ok (.ireturn, 1) := by decide +kernel
theorem dX6_join_23 : decode cX6_join 23 = .ok (.aload_n 0, 1) := by decide +kernel
theorem dX6_join_24 : decode cX6_join 24 = .ok (.iload_n 2, 1) := by decide +kernel
theorem dX6_join_25 : decode cX6_join 25 = .ok (.invokevirtual 86, 3) := by decide +kernel
theorem dX6_join_28 : decode cX6_join 28 = .ok (.aload_n 0, 1) := by decide +kernel
theorem dX6_join_29 : decode cX6_join 29 = .ok (.iload_n 3, 1) := by decide +kernel
theorem dX6_join_30 : decode cX6_join 30 = .ok (.invokevirtual 86, 3) := by decide +kernel
theorem dX6_join_33 : decode cX6_join 33 = .ok (.iadd, 1) := by decide +kernel
theorem dX6_join_34 : decode cX6_join 34 = .ok (.bipush 60, 2) := by decide +kernel
theorem dX6_join_36 : decode cX6_join 36 = .ok (.if_icmp .le 6, 3) := by decide +kernel
theorem dX6_join_39 : decode cX6_join 39 = .ok (.bipush (-4), 2) := by decide +kernel
theorem dX6_join_41 : decode cX6_join 41 = .ok (.ireturn, 1) := by decide +kernel
theorem dX6_join_42 : decode cX6_join 42 = .ok (.iconst 0, 1) := by decide +kernel
theorem dX6_join_43 : decode cX6_join 43 = .ok (.istore 4, 2) := by decide +kernel
theorem dX6_join_45 : decode cX6_join 45 = .ok (.iconst 0, 1) := by decide +kernel
theorem dX6_join_46 : decode cX6_join 46 = .ok (.istore 5, 2) := by decide +kernel
theorem dX6_join_48 : decode cX6_join 48 = .ok (.iload 5, 2) := by decide +kernel
theorem dX6_join_50 : decode cX6_join 50 = .ok (.aload_n 0, 1) := by decide +kernel
theorem dX6_join_51 : decode cX6_join 51 = .ok (.iload_n 2, 1) := by decide +kernel
theorem dX6_join_52 : decode cX6_join 52 = .ok (.invokevirtual 86, 3) := by decide +kernel
theorem dX6_join_55 : decode cX6_join 55 = .ok (.if_icmp .ge 31, 3) := by decide +kernel
theorem dX6_join_58 : decode cX6_join 58 = .ok (.aload_n 0, 1) := by decide +kernel
theorem dX6_join_59 : decode cX6_join 59 = .ok (.getfield 33, 3) := by decide +kernel
theorem dX6_join_62 : decode cX6_join 62 = .ok (.iload 4, 2) := by decide +kernel
theorem dX6_join_64 : decode cX6_join 64 = .ok (.aload_n 0, 1) := by decide +kernel
theorem dX6_join_65 : decode cX6_join 65 = .ok (.getfield 7, 3) := by decide +kernel
theorem dX6_join_68 : decode cX6_join 68 = .ok (.bipush 60, 2) := by decide +kernel
theorem dX6_join_70 : decode cX6_join 70 = .ok (.iload_n 2, 1) := by decide +kernel
theorem dX6_join_71 : decode cX6_join 71 = .ok (.imul, 1) := by decide +kernel
theorem dX6_join_72 : decode cX6_join 72 = .ok (.iload 5, 2) := by decide +kernel
theorem dX6_join_74 : decode cX6_join 74 = .ok (.iadd, 1) := by decide +kernel
theorem dX6_join_75 : decode cX6_join 75 = .ok (.iaload, 1) := by decide +kernel
theorem dX6_join_76 : decode cX6_join 76 = .ok (.iastore, 1) := by decide +kernel
theorem dX6_join_77 : decode cX6_join 77 = .ok (.iinc 4 1, 3) := by decide +kernel
theorem dX6_join_80 : decode cX6_join 80 = .ok (.iinc 5 1, 3) := by decide +kernel
theorem dX6_join_83 : decode cX6_join 83 = .ok (.goto (-35), 3) := by decide +kernel
theorem dX6_join_86 : decode cX6_join 86 = .ok (.iconst 0, 1) := by decide +kernel
theorem dX6_join_87 : decode cX6_join 87 = .ok (.istore 5, 2) := by decide +kernel
theorem dX6_join_89 : decode cX6_join 89 = .ok (.iload 5, 2) := by decide +kernel
theorem dX6_join_91 : decode cX6_join 91 = .ok (.aload_n 0, 1) := by decide +kernel
theorem dX6_join_92 : decode cX6_join 92 = .ok (.iload_n 3, 1) := by decide +kernel
theorem dX6_join_93 : decode cX6_join 93 = .ok (.invokevirtual 86, 3) := by decide +kernel
theorem dX6_join_96 : decode cX6_join 96 = .ok (.if_icmp .ge 31, 3) := by decide +kernel
theorem dX6_join_99 : decode cX6_join 99 = .ok (.aload_n 0, 1) := by decide +kernel
theorem dX6_join_100 : decode cX6_join 100 = .ok (.getfield 33, 3) := by decide +kernel
theorem dX6_join_103 : decode cX6_join 103 = .ok (.iload 4, 2) := by decide +kernel
theorem dX6_join_105 : decode cX6_join 105 = .ok (.aload_n 0, 1) := by decide +kernel
theorem dX6_join_106 : decode cX6_join 106 = .ok (.getfield 7, 3) := by decide +kernel
theorem dX6_join_109 : decode cX6_join 109 = .ok (.bipush 60, 2) := by decide +kernel
theorem dX6_join_111 : decode cX6_join 111 = .ok (.iload_n 3, 1) := by decide +kernel
theorem dX6_join_112 : decode cX6_join 112 = .ok (.imul, 1) := by decide +kernel
theorem dX6_join_113 : decode cX6_join 113 = .ok (.iload 5, 2) := by decide +kernel
theorem dX6_join_115 : decode cX6_join 115 = .ok (.iadd, 1) := by decide +kernel
theorem dX6_join_116 : decode cX6_join 116 = .ok (.iaload, 1) := by decide +kernel
theorem dX6_join_117 : decode cX6_join 117 = .ok (.iastore, 1) := by decide +kernel
theorem dX6_join_118 : decode cX6_join 118 = .ok (.iinc 4 1, 3) := by decide +kernel
theorem dX6_join_121 : decode cX6_join 121 = .ok (.iinc 5 1, 3) := by decide +kernel
theorem dX6_join_124 : decode cX6_join 124 = .ok (.goto (-35), 3) := by decide +kernel
theorem dX6_join_127 : decode cX6_join 127 = .ok (.aload_n 0, 1) := by decide +kernel
theorem dX6_join_128 : decode cX6_join 128 = .ok (.iload_n 1, 1) := by decide +kernel
theorem dX6_join_129 : decode cX6_join 129 = .ok (.iload 4, 2) := by decide +kernel
theorem dX6_join_131 : decode cX6_join 131 = .ok (.invokevirtual 82, 3) := by decide +kernel
theorem dX6_join_134 : decode cX6_join 134 = .ok (.ireturn, 1) := by decide +kernel
theorem dX6_undone_0 : decode cX6_undone 0 = .ok (.iload_n 1, 1) := by decide +kernel
theorem dX6_undone_1 : decode cX6_undone 1 = .ok (.invokestatic 71, 3) := by decide +kernel
theorem dX6_undone_4 : decode cX6_undone 4 = .ok (.ifCond .eq 10, 3) := by decide +kernel
theorem dX6_undone_7 : decode cX6_undone 7 = .ok (.iload_n 2, 1) := by decide +kernel
theorem dX6_undone_8 : decode cX6_undone 8 = .ok (.invokestatic 71, 3) := by decide +kernel
theorem dX6_undone_11 : decode cX6_undone 11 = .ok (.ifCond .ne 5, 3) := by decide +kernel
theorem dX6_undone_14 : decode cX6_undone 14 = .ok (.iconst (-1), 1) := by decide +kernel
theorem dX6_undone_15 : decode cX6_undone 15 = .ok (.ireturn, 1) := by decide +kernel
theorem dX6_undone_16 : decode cX6_undone 16 = .ok (.aload_n 0, 1) := by decide +kernel
theorem dX6_undone_17 : decode cX6_undone 17 = .ok (.iload_n 2, 1) := by decide +kernel
theorem dX6_undone_18 : decode cX6_undone 18 = .ok (.invokevirtual 86, 3) := by decide +kernel
theorem dX6_undone_21 : decode cX6_undone 21 = .ok (.istore_n 3, 1) := by decide +kernel
theorem dX6_undone_22 : decode cX6_undone 22 = .ok (.iconst 0, 1) := by decide +kernel
theorem dX6_undone_23 : decode cX6_undone 23 = .ok (.istore 4, 2) := by decide +kernel
theorem dX6_undone_25 : decode cX6_undone 25 = .ok (.iload 4, 2) := by decide +kernel
theorem dX6_undone_27 : decode cX6_undone 27 = .ok (.iload_n 3, 1) := by decide +kernel
theorem dX6_undone_28 : decode cX6_undone 28 = .ok (.if_icmp .ge 75, 3) := by decide +kernel
theorem dX6_undone_31 : decode cX6_undone 31 = .ok (.aload_n 0, 1) := by decide +kernel
theorem dX6_undone_32 : decode cX6_undone 32 = .ok (.iload_n 2, 1) := by decide +kernel
theorem dX6_undone_33 : decode cX6_undone 33 = .ok (.iload_n 3, 1) := by decide +kernel
theorem dX6_undone_34 : decode cX6_undone 34 = .ok (.iconst 1, 1) := by decide +kernel
theorem dX6_undone_35 : decode cX6_undone 35 = .ok (.isub, 1) := by decide +kernel
theorem dX6_undone_36 : decode cX6_undone 36 = .ok (.iload 4, 2) := by decide +kernel
theorem dX6_undone_38 : decode cX6_undone 38 = .ok (.isub, 1) := by decide +kernel
theorem dX6_undone_39 : decode cX6_undone 39 = .ok (.invokevirtual 89, 3) := by decide +kernel
theorem dX6_undone_42 : decode cX6_undone 42 = .ok (.istore 5, 2) := by decide +kernel
theorem dX6_undone_44 : decode cX6_undone 44 = .ok (.iload 5, 2) := by decide +kernel
theorem dX6_undone_46 : decode cX6_undone 46 = .ok (.iconst 4, 1) := by decide +kernel
theorem dX6_undone_47 : decode cX6_undone 47 = .ok (.if_icmp .ne 7, 3) := by decide +kernel
theorem dX6_undone_50 : decode cX6_undone 50 = .ok (.iconst 4, 1) := by decide +kernel
theorem dX6_undone_51 : decode cX6_undone 51 = .ok (.goto 21, 3) := by decide +kernel
theorem dX6_undone_54 : decode cX6_undone 54 = .ok (.iload 5, 2) := by decide +kernel
theorem dX6_undone_56 : decode cX6_undone 56 = .ok (.iconst 2, 1) := by decide +kernel
theorem dX6_undone_57 : decode cX6_undone 57 = .ok (.irem, 1) := by decide +kernel
theorem dX6_undone_58 : decode cX6_undone 58 = .ok (.ifCond .ne 10, 3) := by decide +kernel
theorem dX6_undone_61 : decode cX6_undone 61 = .ok (.iload 5, 2) := by decide +kernel
theorem dX6_undone_63 : decode cX6_undone 63 = .ok (.iconst 1, 1) := by decide +kernel
theorem dX6_undone_64 : decode cX6_undone 64 = .ok (.iadd, 1) := by decide +kernel
theorem dX6_undone_65 : decode cX6_undone 65 = .ok (.goto 7, 3) := by decide +kernel
theorem dX6_undone_68 : decode cX6_undone 68 = .ok (.iload 5, 2) := by decide +kernel
theorem dX6_undone_70 : decode cX6_undone 70 = .ok (.iconst 1, 1) := by decide +kernel
theorem dX6_undone_71 : decode cX6_undone 71 = .ok (.isub, 1) := by decide +kernel
theorem dX6_undone_72 : decode cX6_undone 72 = .ok (.istore 6, 2) := by decide +kernel
theorem dX6_undone_74 : decode cX6_undone 74 = .ok (.aload_n 0, 1) := by decide +kernel
theorem dX6_undone_75 : decode cX6_undone 75 = .ok (.getfield 33, 3) := by decide +kernel
theorem dX6_undone_78 : decode cX6_undone 78 = .ok (.iload 4, 2) := by decide +kernel
theorem dX6_undone_80 : decode cX6_undone 80 = .ok (.iconst 3, 1) := by decide +kernel
theorem dX6_undone_81 : decode cX6_undone 81 = .ok (.iload 6, 2) := by decide +kernel
theorem dX6_undone_83 : decode cX6_undone 83 = .ok (.imul, 1) := by decide +kernel
theorem dX6_undone_84 : decode cX6_undone 84 = .ok (.aload_n 0, 1) := by decide +kernel
theorem dX6_undone_85 : decode cX6_undone 85 = .ok (.iload_n 2, 1) := by decide +kernel
theorem dX6_undone_86 : decode cX6_undone 86 = .ok (.iload_n 3, 1) := by decide +kernel
theorem dX6_undone_87 : decode cX6_undone 87 = .ok (.iconst 1, 1) := by decide +kernel
theorem dX6_undone_88 : decode cX6_undone 88 = .ok (.isub, 1) := by decide +kernel
theorem dX6_undone_89 : decode cX6_undone 89 = .ok (.iload 4, 2) := by decide +kernel
theorem dX6_undone_91 : decode cX6_undone 91 = .ok (.isub, 1) := by decide +kernel
theorem dX6_undone_92 : decode cX6_undone 92 = .ok (.invokevirtual 92, 3) := by decide +kernel
theorem dX6_undone_95 : decode cX6_undone 95 = .ok (.iadd, 1) := by decide +kernel
theorem dX6_undone_96 : decode cX6_undone 96 = .ok (.iastore, 1) := by decide +kernel
theorem dX6_undone_97 : decode cX6_undone 97 = .ok (.iinc 4 1, 3) := by decide +kernel
theorem dX6_undone_100 : decode cX6_undone 100 = .ok (.goto (-75), 3) := by decide +kernel
theorem dX6_undone_103 : decode cX6_undone 103 = .ok (.aload_n 0, 1) := by decide +kernel
theorem dX6_undone_104 : decode cX6_undone 104 = .ok (.iload_n 1, 1) := by decide +kernel
theorem dX6_undone_105 : decode cX6_undone 105 = .ok (.iload_n 3, 1) := by decide +kernel
theorem dX6_undone_106 : decode cX6_undone 106 = .ok (.invokevirtual 82, 3) := by decide +kernel
theorem dX6_undone_109 : decode cX6_undone 109 = .ok (.ireturn, 1) := by decide +kernel
theorem dX6_step_0 : decode cX6_step 0 = .ok (.iload_n 1, 1) := by decide +kernel
theorem dX6_step_1 : decode cX6_step 1 = .ok (.invokestatic 71, 3) := by decide +kernel
theorem dX6_step_4 : decode cX6_step 4 = .ok (.ifCond .ne 5, 3) := by decide +kernel
theorem dX6_step_7 : decode cX6_step 7 = .ok (.iconst (-1), 1) := by decide +kernel
theorem dX6_step_8 : decode cX6_step 8 = .ok (.ireturn, 1) := by decide +kernel
theorem dX6_step_9 : decode cX6_step 9 = .ok (.iload_n 2, 1) := by decide +kernel
theorem dX6_step_10 : decode cX6_step 10 = .ok (.iconst (-1), 1) := by decide +kernel
theorem dX6_step_11 : decode cX6_step 11 = .ok (.if_icmp .lt 12, 3) := by decide +kernel
theorem dX6_step_14 : decode cX6_step 14 = .ok (.iload_n 3, 1) := by decide +kernel
theorem dX6_step_15 : decode cX6_step 15 = .ok (.iconst 0, 1) := by decide +kernel
theorem dX6_step_16 : decode cX6_step 16 = .ok (.iconst 1, 1) := by decide +kernel
theorem dX6_step_17 : decode cX6_step 17 = .ok (.invokestatic 57, 3) := by decide +kernel
theorem dX6_step_20 : decode cX6_step 20 = .ok (.ifCond .ne 6, 3) := by decide +kernel
theorem dX6_step_23 : decode cX6_step 23 = .ok (.bipush (-2), 2) := by decide +kernel
theorem dX6_step_25 : decode cX6_step 25 = .ok (.ireturn, 1) := by decide +kernel
theorem dX6_step_26 : decode cX6_step 26 = .ok (.iload_n 2, 1) := by decide +kernel
theorem dX6_step_27 : decode cX6_step 27 = .ok (.iconst (-1), 1) := by decide +kernel
theorem dX6_step_28 : decode cX6_step 28 = .ok (.if_icmp .ne 9, 3) := by decide +kernel
theorem dX6_step_31 : decode cX6_step 31 = .ok (.aload_n 0, 1) := by decide +kernel
theorem dX6_step_32 : decode cX6_step 32 = .ok (.iload_n 1, 1) := by decide +kernel
theorem dX6_step_33 : decode cX6_step 33 = .ok (.invokevirtual 86, 3) := by decide +kernel
theorem dX6_step_36 : decode cX6_step 36 = .ok (.ireturn, 1) := by decide +kernel
theorem dX6_step_37 : decode cX6_step 37 = .ok (.iload_n 2, 1) := by decide +kernel
theorem dX6_step_38 : decode cX6_step 38 = .ok (.aload_n 0, 1) := by decide +kernel
theorem dX6_step_39 : decode cX6_step 39 = .ok (.iload_n 1, 1) := by decide +kernel
theorem dX6_step_40 : decode cX6_step 40 = .ok (.invokevirtual 86, 3) := by decide +kernel
theorem dX6_step_43 : decode cX6_step 43 = .ok (.if_icmp .lt 8, 3) := by decide +kernel
theorem dX6_step_46 : decode cX6_step 46 = .ok (.bipush (-6), 2) := by decide +kernel
theorem dX6_step_48 : decode cX6_step 48 = .ok (.goto 22, 3) := by decide +kernel
theorem dX6_step_51 : decode cX6_step 51 = .ok (.iload_n 3, 1) := by decide +kernel
theorem dX6_step_52 : decode cX6_step 52 = .ok (.ifCond .ne 12, 3) := by decide +kernel
theorem dX6_step_55 : decode cX6_step 55 = .ok (.aload_n 0, 1) := by decide +kernel
theorem dX6_step_56 : decode cX6_step 56 = .ok (.iload_n 1, 1) := by decide +kernel
theorem dX6_step_57 : decode cX6_step 57 = .ok (.iload_n 2, 1) := by decide +kernel
theorem dX6_step_58 : decode cX6_step 58 = .ok (.invokevirtual 89, 3) := by decide +kernel
theorem dX6_step_61 : decode cX6_step 61 = .ok (.goto 9, 3) := by decide +kernel
theorem dX6_step_64 : decode cX6_step 64 = .ok (.aload_n 0, 1) := by decide +kernel
theorem dX6_step_65 : decode cX6_step 65 = .ok (.iload_n 1, 1) := by decide +kernel
theorem dX6_step_66 : decode cX6_step 66 = .ok (.iload_n 2, 1) := by decide +kernel
theorem dX6_step_67 : decode cX6_step 67 = .ok (.invokevirtual 92, 3) := by decide +kernel
theorem dX6_step_70 : decode cX6_step 70 = .ok (.ireturn, 1) := by decide +kernel
theorem dX6_signOf_0 : decode cX6_signOf 0 = .ok (.iload_n 0, 1) := by decide +kernel
theorem dX6_signOf_1 : decode cX6_signOf 1 = .ok (.ifCond .ne 8, 3) := by decide +kernel
theorem dX6_signOf_4 : decode cX6_signOf 4 = .ok (.bipush 67, 2) := by decide +kernel
theorem dX6_signOf_6 : decode cX6_signOf 6 = .ok (.goto 35, 3) := by decide +kernel
theorem dX6_signOf_9 : decode cX6_signOf 9 = .ok (.iload_n 0, 1) := by decide +kernel
theorem dX6_signOf_10 : decode cX6_signOf 10 = .ok (.iconst 1, 1) := by decide +kernel
theorem dX6_signOf_11 : decode cX6_signOf 11 = .ok (.if_icmp .ne 8, 3) := by decide +kernel
theorem dX6_signOf_14 : decode cX6_signOf 14 = .ok (.bipush 68, 2) := by decide +kernel
theorem dX6_signOf_16 : decode cX6_signOf 16 = .ok (.goto 25, 3) := by decide +kernel
theorem dX6_signOf_19 : decode cX6_signOf 19 = .ok (.iload_n 0, 1) := by decide +kernel
theorem dX6_signOf_20 : decode cX6_signOf 20 = .ok (.iconst 2, 1) := by decide +kernel
theorem dX6_signOf_21 : decode cX6_signOf 21 = .ok (.if_icmp .ne 8, 3) := by decide +kernel
theorem dX6_signOf_24 : decode cX6_signOf 24 = .ok (.bipush 84, 2) := by decide +kernel
theorem dX6_signOf_26 : decode cX6_signOf 26 = .ok (.goto 15, 3) := by decide +kernel
theorem dX6_signOf_29 : decode cX6_signOf 29 = .ok (.iload_n 0, 1) := by decide +kernel
theorem dX6_signOf_30 : decode cX6_signOf 30 = .ok (.iconst 3, 1) := by decide +kernel
theorem dX6_signOf_31 : decode cX6_signOf 31 = .ok (.if_icmp .ne 8, 3) := by decide +kernel
theorem dX6_signOf_34 : decode cX6_signOf 34 = .ok (.bipush 85, 2) := by decide +kernel
theorem dX6_signOf_36 : decode cX6_signOf 36 = .ok (.goto 5, 3) := by decide +kernel
theorem dX6_signOf_39 : decode cX6_signOf 39 = .ok (.bipush 80, 2) := by decide +kernel
theorem dX6_signOf_41 : decode cX6_signOf 41 = .ok (.ireturn, 1) := by decide +kernel
theorem dX6_written_0 : decode cX6_written 0 = .ok (.iload_n 1, 1) := by decide +kernel
theorem dX6_written_1 : decode cX6_written 1 = .ok (.invokestatic 71, 3) := by decide +kernel
theorem dX6_written_4 : decode cX6_written 4 = .ok (.ifCond .ne 5, 3) := by decide +kernel
theorem dX6_written_7 : decode cX6_written 7 = .ok (.iconst (-1), 1) := by decide +kernel
theorem dX6_written_8 : decode cX6_written 8 = .ok (.ireturn, 1) := by decide +kernel
theorem dX6_written_9 : decode cX6_written 9 = .ok (.iload_n 2, 1) := by decide +kernel
theorem dX6_written_10 : decode cX6_written 10 = .ok (.iconst (-1), 1) := by decide +kernel
theorem dX6_written_11 : decode cX6_written 11 = .ok (.if_icmp .ge 6, 3) := by decide +kernel
theorem dX6_written_14 : decode cX6_written 14 = .ok (.bipush (-2), 2) := by decide +kernel
theorem dX6_written_16 : decode cX6_written 16 = .ok (.ireturn, 1) := by decide +kernel
theorem dX6_written_17 : decode cX6_written 17 = .ok (.iconst 0, 1) := by decide +kernel
theorem dX6_written_18 : decode cX6_written 18 = .ok (.istore_n 3, 1) := by decide +kernel
theorem dX6_written_19 : decode cX6_written 19 = .ok (.iconst 0, 1) := by decide +kernel
theorem dX6_written_20 : decode cX6_written 20 = .ok (.istore 4, 2) := by decide +kernel
theorem dX6_written_22 : decode cX6_written 22 = .ok (.iload 4, 2) := by decide +kernel
theorem dX6_written_24 : decode cX6_written 24 = .ok (.aload_n 0, 1) := by decide +kernel
theorem dX6_written_25 : decode cX6_written 25 = .ok (.iload_n 1, 1) := by decide +kernel
theorem dX6_written_26 : decode cX6_written 26 = .ok (.invokevirtual 86, 3) := by decide +kernel
theorem dX6_written_29 : decode cX6_written 29 = .ok (.if_icmp .ge 71, 3) := by decide +kernel
theorem dX6_written_32 : decode cX6_written 32 = .ok (.iload 4, 2) := by decide +kernel
theorem dX6_written_34 : decode cX6_written 34 = .ok (.ifCond .eq 22, 3) := by decide +kernel
theorem dX6_written_37 : decode cX6_written 37 = .ok (.aload_n 0, 1) := by decide +kernel
theorem dX6_written_38 : decode cX6_written 38 = .ok (.iload_n 1, 1) := by decide +kernel
theorem dX6_written_39 : decode cX6_written 39 = .ok (.iload 4, 2) := by decide +kernel
theorem dX6_written_41 : decode cX6_written 41 = .ok (.invokevirtual 92, 3) := by decide +kernel
theorem dX6_written_44 : decode cX6_written 44 = .ok (.aload_n 0, 1) := by decide +kernel
theorem dX6_written_45 : decode cX6_written 45 = .ok (.iload_n 1, 1) := by decide +kernel
theorem dX6_written_46 : decode cX6_written 46 = .ok (.iload 4, 2) := by decide +kernel
theorem dX6_written_48 : decode cX6_written 48 = .ok (.iconst 1, 1) := by decide +kernel
theorem dX6_written_49 : decode cX6_written 49 = .ok (.isub, 1) := by decide +kernel
theorem dX6_written_50 : decode cX6_written 50 = .ok (.invokevirtual 92, 3) := by decide +kernel
theorem dX6_written_53 : decode cX6_written 53 = .ok (.if_icmp .eq 22, 3) := by decide +kernel
theorem dX6_written_56 : decode cX6_written 56 = .ok (.aload_n 0, 1) := by decide +kernel
theorem dX6_written_57 : decode cX6_written 57 = .ok (.getfield 36, 3) := by decide +kernel
theorem dX6_written_60 : decode cX6_written 60 = .ok (.iload_n 3, 1) := by decide +kernel
theorem dX6_written_61 : decode cX6_written 61 = .ok (.bipush 48, 2) := by decide +kernel
end
section
theorem dX6_written_63 : decode cX6_written 63 = .ok (.aload_n 0, 1) := by decide +kernel
theorem dX6_written_64 : decode cX6_written 64 = .ok (.iload_n 1, 1) := by decide +kernel
theorem dX6_written_65 : decode cX6_written 65 = .ok (.iload 4, 2) := by decide +kernel
theorem dX6_written_67 : decode cX6_written 67 = .ok (.invokevirtual 92, 3) := by decide +kernel
theorem dX6_written_70 : decode cX6_written 70 = .ok (.iadd, 1) := by decide +kernel
theorem dX6_written_71 : decode cX6_written 71 = .ok (.iastore, 1) := by decide +kernel
theorem dX6_written_72 : decode cX6_written 72 = .ok (.iinc 3 1, 3) := by decide +kernel
theorem dX6_written_75 : decode cX6_written 75 = .ok (.aload_n 0, 1) := by decide +kernel
theorem dX6_written_76 : decode cX6_written 76 = .ok (.getfield 36, 3) := by decide +kernel
theorem dX6_written_79 : decode cX6_written 79 = .ok (.iload_n 3, 1) := by decide +kernel
theorem dX6_written_80 : decode cX6_written 80 = .ok (.aload_n 0, 1) := by decide +kernel
theorem dX6_written_81 : decode cX6_written 81 = .ok (.iload_n 1, 1) := by decide +kernel
theorem dX6_written_82 : decode cX6_written 82 = .ok (.iload 4, 2) := by decide +kernel
theorem dX6_written_84 : decode cX6_written 84 = .ok (.invokevirtual 89, 3) := by decide +kernel
theorem dX6_written_87 : decode cX6_written 87 = .ok (.invokestatic 95, 3) := by decide +kernel
theorem dX6_written_90 : decode cX6_written 90 = .ok (.iastore, 1) := by decide +kernel
theorem dX6_written_91 : decode cX6_written 91 = .ok (.iinc 3 1, 3) := by decide +kernel
theorem dX6_written_94 : decode cX6_written 94 = .ok (.iinc 4 1, 3) := by decide +kernel
theorem dX6_written_97 : decode cX6_written 97 = .ok (.goto (-75), 3) := by decide +kernel
theorem dX6_written_100 : decode cX6_written 100 = .ok (.iload_n 2, 1) := by decide +kernel
theorem dX6_written_101 : decode cX6_written 101 = .ok (.iconst (-1), 1) := by decide +kernel
theorem dX6_written_102 : decode cX6_written 102 = .ok (.if_icmp .ne 7, 3) := by decide +kernel
theorem dX6_written_105 : decode cX6_written 105 = .ok (.iload_n 3, 1) := by decide +kernel
theorem dX6_written_106 : decode cX6_written 106 = .ok (.goto 19, 3) := by decide +kernel
theorem dX6_written_109 : decode cX6_written 109 = .ok (.iload_n 2, 1) := by decide +kernel
theorem dX6_written_110 : decode cX6_written 110 = .ok (.iload_n 3, 1) := by decide +kernel
theorem dX6_written_111 : decode cX6_written 111 = .ok (.if_icmp .ge 12, 3) := by decide +kernel
theorem dX6_written_114 : decode cX6_written 114 = .ok (.aload_n 0, 1) := by decide +kernel
theorem dX6_written_115 : decode cX6_written 115 = .ok (.getfield 36, 3) := by decide +kernel
theorem dX6_written_118 : decode cX6_written 118 = .ok (.iload_n 2, 1) := by decide +kernel
theorem dX6_written_119 : decode cX6_written 119 = .ok (.iaload, 1) := by decide +kernel
theorem dX6_written_120 : decode cX6_written 120 = .ok (.goto 5, 3) := by decide +kernel
theorem dX6_written_123 : decode cX6_written 123 = .ok (.bipush (-6), 2) := by decide +kernel
theorem dX6_written_125 : decode cX6_written 125 = .ok (.ireturn, 1) := by decide +kernel
theorem dX6_addLetter_0 : decode cX6_addLetter 0 = .ok (.aload_n 0, 1) := by decide +kernel
theorem dX6_addLetter_1 : decode cX6_addLetter 1 = .ok (.getfield 39, 3) := by decide +kernel
theorem dX6_addLetter_4 : decode cX6_addLetter 4 = .ok (.aload_n 0, 1) := by decide +kernel
theorem dX6_addLetter_5 : decode cX6_addLetter 5 = .ok (.getfield 98, 3) := by decide +kernel
theorem dX6_addLetter_8 : decode cX6_addLetter 8 = .ok (.bipush 10, 2) := by decide +kernel
theorem dX6_addLetter_10 : decode cX6_addLetter 10 = .ok (.iload_n 1, 1) := by decide +kernel
theorem dX6_addLetter_11 : decode cX6_addLetter 11 = .ok (.imul, 1) := by decide +kernel
theorem dX6_addLetter_12 : decode cX6_addLetter 12 = .ok (.iload_n 2, 1) := by decide +kernel
theorem dX6_addLetter_13 : decode cX6_addLetter 13 = .ok (.iadd, 1) := by decide +kernel
theorem dX6_addLetter_14 : decode cX6_addLetter 14 = .ok (.iastore, 1) := by decide +kernel
theorem dX6_addLetter_15 : decode cX6_addLetter 15 = .ok (.aload_n 0, 1) := by decide +kernel
theorem dX6_addLetter_16 : decode cX6_addLetter 16 = .ok (.getfield 42, 3) := by decide +kernel
theorem dX6_addLetter_19 : decode cX6_addLetter 19 = .ok (.aload_n 0, 1) := by decide +kernel
theorem dX6_addLetter_20 : decode cX6_addLetter 20 = .ok (.getfield 98, 3) := by decide +kernel
theorem dX6_addLetter_23 : decode cX6_addLetter 23 = .ok (.iload_n 3, 1) := by decide +kernel
theorem dX6_addLetter_24 : decode cX6_addLetter 24 = .ok (.iastore, 1) := by decide +kernel
theorem dX6_addLetter_25 : decode cX6_addLetter 25 = .ok (.aload_n 0, 1) := by decide +kernel
theorem dX6_addLetter_26 : decode cX6_addLetter 26 = .ok (.dup, 1) := by decide +kernel
theorem dX6_addLetter_27 : decode cX6_addLetter 27 = .ok (.getfield 98, 3) := by decide +kernel
theorem dX6_addLetter_30 : decode cX6_addLetter 30 = .ok (.iconst 1, 1) := by decide +kernel
theorem dX6_addLetter_31 : decode cX6_addLetter 31 = .ok (.iadd, 1) := by decide +kernel
theorem dX6_addLetter_32 : decode cX6_addLetter 32 = .ok (.putfield 98, 3) := by decide +kernel
theorem dX6_addLetter_35 : decode cX6_addLetter 35 = .ok (.return_, 1) := by decide +kernel
theorem dX6_layLetters_0 : decode cX6_layLetters 0 = .ok (.aload_n 0, 1) := by decide +kernel
theorem dX6_layLetters_1 : decode cX6_layLetters 1 = .ok (.iconst 0, 1) := by decide +kernel
theorem dX6_layLetters_2 : decode cX6_layLetters 2 = .ok (.putfield 98, 3) := by decide +kernel
theorem dX6_layLetters_5 : decode cX6_layLetters 5 = .ok (.iconst 0, 1) := by decide +kernel
theorem dX6_layLetters_6 : decode cX6_layLetters 6 = .ok (.istore_n 2, 1) := by decide +kernel
theorem dX6_layLetters_7 : decode cX6_layLetters 7 = .ok (.iload_n 2, 1) := by decide +kernel
theorem dX6_layLetters_8 : decode cX6_layLetters 8 = .ok (.aload_n 0, 1) := by decide +kernel
theorem dX6_layLetters_9 : decode cX6_layLetters 9 = .ok (.iload_n 1, 1) := by decide +kernel
theorem dX6_layLetters_10 : decode cX6_layLetters 10 = .ok (.invokevirtual 86, 3) := by decide +kernel
theorem dX6_layLetters_13 : decode cX6_layLetters 13 = .ok (.if_icmp .ge 115, 3) := by decide +kernel
theorem dX6_layLetters_16 : decode cX6_layLetters 16 = .ok (.iconst 2, 1) := by decide +kernel
theorem dX6_layLetters_17 : decode cX6_layLetters 17 = .ok (.aload_n 0, 1) := by decide +kernel
theorem dX6_layLetters_18 : decode cX6_layLetters 18 = .ok (.iload_n 1, 1) := by decide +kernel
theorem dX6_layLetters_19 : decode cX6_layLetters 19 = .ok (.iload_n 2, 1) := by decide +kernel
theorem dX6_layLetters_20 : decode cX6_layLetters 20 = .ok (.invokevirtual 92, 3) := by decide +kernel
theorem dX6_layLetters_23 : decode cX6_layLetters 23 = .ok (.imul, 1) := by decide +kernel
theorem dX6_layLetters_24 : decode cX6_layLetters 24 = .ok (.istore_n 3, 1) := by decide +kernel
theorem dX6_layLetters_25 : decode cX6_layLetters 25 = .ok (.aload_n 0, 1) := by decide +kernel
theorem dX6_layLetters_26 : decode cX6_layLetters 26 = .ok (.iload_n 1, 1) := by decide +kernel
theorem dX6_layLetters_27 : decode cX6_layLetters 27 = .ok (.iload_n 2, 1) := by decide +kernel
theorem dX6_layLetters_28 : decode cX6_layLetters 28 = .ok (.invokevirtual 89, 3) := by decide +kernel
theorem dX6_layLetters_31 : decode cX6_layLetters 31 = .ok (.tableswitch 91 0 3 #[29, 41, 53, 72], 29) := by decide +kernel
theorem dX6_layLetters_60 : decode cX6_layLetters 60 = .ok (.aload_n 0, 1) := by decide +kernel
theorem dX6_layLetters_61 : decode cX6_layLetters 61 = .ok (.iload_n 3, 1) := by decide +kernel
theorem dX6_layLetters_62 : decode cX6_layLetters 62 = .ok (.iconst 1, 1) := by decide +kernel
theorem dX6_layLetters_63 : decode cX6_layLetters 63 = .ok (.iadd, 1) := by decide +kernel
theorem dX6_layLetters_64 : decode cX6_layLetters 64 = .ok (.iconst 0, 1) := by decide +kernel
theorem dX6_layLetters_65 : decode cX6_layLetters 65 = .ok (.iload_n 2, 1) := by decide +kernel
theorem dX6_layLetters_66 : decode cX6_layLetters 66 = .ok (.invokevirtual 101, 3) := by decide +kernel
theorem dX6_layLetters_69 : decode cX6_layLetters 69 = .ok (.goto 53, 3) := by decide +kernel
theorem dX6_layLetters_72 : decode cX6_layLetters 72 = .ok (.aload_n 0, 1) := by decide +kernel
theorem dX6_layLetters_73 : decode cX6_layLetters 73 = .ok (.iload_n 3, 1) := by decide +kernel
theorem dX6_layLetters_74 : decode cX6_layLetters 74 = .ok (.iconst 1, 1) := by decide +kernel
theorem dX6_layLetters_75 : decode cX6_layLetters 75 = .ok (.iadd, 1) := by decide +kernel
theorem dX6_layLetters_76 : decode cX6_layLetters 76 = .ok (.iconst 1, 1) := by decide +kernel
theorem dX6_layLetters_77 : decode cX6_layLetters 77 = .ok (.iload_n 2, 1) := by decide +kernel
theorem dX6_layLetters_78 : decode cX6_layLetters 78 = .ok (.invokevirtual 101, 3) := by decide +kernel
theorem dX6_layLetters_81 : decode cX6_layLetters 81 = .ok (.goto 41, 3) := by decide +kernel
theorem dX6_layLetters_84 : decode cX6_layLetters 84 = .ok (.aload_n 0, 1) := by decide +kernel
theorem dX6_layLetters_85 : decode cX6_layLetters 85 = .ok (.iload_n 3, 1) := by decide +kernel
theorem dX6_layLetters_86 : decode cX6_layLetters 86 = .ok (.iconst 1, 1) := by decide +kernel
theorem dX6_layLetters_87 : decode cX6_layLetters 87 = .ok (.iload_n 2, 1) := by decide +kernel
theorem dX6_layLetters_88 : decode cX6_layLetters 88 = .ok (.invokevirtual 101, 3) := by decide +kernel
theorem dX6_layLetters_91 : decode cX6_layLetters 91 = .ok (.aload_n 0, 1) := by decide +kernel
theorem dX6_layLetters_92 : decode cX6_layLetters 92 = .ok (.iload_n 3, 1) := by decide +kernel
theorem dX6_layLetters_93 : decode cX6_layLetters 93 = .ok (.iconst 2, 1) := by decide +kernel
theorem dX6_layLetters_94 : decode cX6_layLetters 94 = .ok (.iadd, 1) := by decide +kernel
theorem dX6_layLetters_95 : decode cX6_layLetters 95 = .ok (.iconst 1, 1) := by decide +kernel
theorem dX6_layLetters_96 : decode cX6_layLetters 96 = .ok (.iload_n 2, 1) := by decide +kernel
theorem dX6_layLetters_97 : decode cX6_layLetters 97 = .ok (.invokevirtual 101, 3) := by decide +kernel
theorem dX6_layLetters_100 : decode cX6_layLetters 100 = .ok (.goto 22, 3) := by decide +kernel
theorem dX6_layLetters_103 : decode cX6_layLetters 103 = .ok (.aload_n 0, 1) := by decide +kernel
theorem dX6_layLetters_104 : decode cX6_layLetters 104 = .ok (.iload_n 3, 1) := by decide +kernel
theorem dX6_layLetters_105 : decode cX6_layLetters 105 = .ok (.iconst 0, 1) := by decide +kernel
theorem dX6_layLetters_106 : decode cX6_layLetters 106 = .ok (.iload_n 2, 1) := by decide +kernel
theorem dX6_layLetters_107 : decode cX6_layLetters 107 = .ok (.invokevirtual 101, 3) := by decide +kernel
theorem dX6_layLetters_110 : decode cX6_layLetters 110 = .ok (.aload_n 0, 1) := by decide +kernel
theorem dX6_layLetters_111 : decode cX6_layLetters 111 = .ok (.iload_n 3, 1) := by decide +kernel
theorem dX6_layLetters_112 : decode cX6_layLetters 112 = .ok (.iconst 2, 1) := by decide +kernel
theorem dX6_layLetters_113 : decode cX6_layLetters 113 = .ok (.iadd, 1) := by decide +kernel
theorem dX6_layLetters_114 : decode cX6_layLetters 114 = .ok (.iconst 0, 1) := by decide +kernel
theorem dX6_layLetters_115 : decode cX6_layLetters 115 = .ok (.iload_n 2, 1) := by decide +kernel
theorem dX6_layLetters_116 : decode cX6_layLetters 116 = .ok (.invokevirtual 101, 3) := by decide +kernel
theorem dX6_layLetters_119 : decode cX6_layLetters 119 = .ok (.goto 3, 3) := by decide +kernel
theorem dX6_layLetters_122 : decode cX6_layLetters 122 = .ok (.iinc 2 1, 3) := by decide +kernel
theorem dX6_layLetters_125 : decode cX6_layLetters 125 = .ok (.goto (-118), 3) := by decide +kernel
theorem dX6_layLetters_128 : decode cX6_layLetters 128 = .ok (.return_, 1) := by decide +kernel
theorem dX6_begin_0 : decode cX6_begin 0 = .ok (.iconst 0, 1) := by decide +kernel
theorem dX6_begin_1 : decode cX6_begin 1 = .ok (.istore_n 1, 1) := by decide +kernel
theorem dX6_begin_2 : decode cX6_begin 2 = .ok (.iload_n 1, 1) := by decide +kernel
theorem dX6_begin_3 : decode cX6_begin 3 = .ok (.bipush 8, 2) := by decide +kernel
theorem dX6_begin_5 : decode cX6_begin 5 = .ok (.if_icmp .ge 16, 3) := by decide +kernel
theorem dX6_begin_8 : decode cX6_begin 8 = .ok (.aload_n 0, 1) := by decide +kernel
theorem dX6_begin_9 : decode cX6_begin 9 = .ok (.getfield 45, 3) := by decide +kernel
theorem dX6_begin_12 : decode cX6_begin 12 = .ok (.iload_n 1, 1) := by decide +kernel
theorem dX6_begin_13 : decode cX6_begin 13 = .ok (.iload_n 1, 1) := by decide +kernel
theorem dX6_begin_14 : decode cX6_begin 14 = .ok (.iastore, 1) := by decide +kernel
theorem dX6_begin_15 : decode cX6_begin 15 = .ok (.iinc 1 1, 3) := by decide +kernel
theorem dX6_begin_18 : decode cX6_begin 18 = .ok (.goto (-16), 3) := by decide +kernel
theorem dX6_begin_21 : decode cX6_begin 21 = .ok (.return_, 1) := by decide +kernel
theorem dX6_change_0 : decode cX6_change 0 = .ok (.iload_n 1, 1) := by decide +kernel
theorem dX6_change_1 : decode cX6_change 1 = .ok (.bipush 10, 2) := by decide +kernel
theorem dX6_change_3 : decode cX6_change 3 = .ok (.idiv, 1) := by decide +kernel
theorem dX6_change_4 : decode cX6_change 4 = .ok (.istore_n 2, 1) := by decide +kernel
theorem dX6_change_5 : decode cX6_change 5 = .ok (.aload_n 0, 1) := by decide +kernel
theorem dX6_change_6 : decode cX6_change 6 = .ok (.getfield 45, 3) := by decide +kernel
theorem dX6_change_9 : decode cX6_change 9 = .ok (.iload_n 2, 1) := by decide +kernel
theorem dX6_change_10 : decode cX6_change 10 = .ok (.iaload, 1) := by decide +kernel
theorem dX6_change_11 : decode cX6_change 11 = .ok (.istore_n 3, 1) := by decide +kernel
theorem dX6_change_12 : decode cX6_change 12 = .ok (.aload_n 0, 1) := by decide +kernel
theorem dX6_change_13 : decode cX6_change 13 = .ok (.getfield 45, 3) := by decide +kernel
theorem dX6_change_16 : decode cX6_change 16 = .ok (.iload_n 2, 1) := by decide +kernel
theorem dX6_change_17 : decode cX6_change 17 = .ok (.aload_n 0, 1) := by decide +kernel
theorem dX6_change_18 : decode cX6_change 18 = .ok (.getfield 45, 3) := by decide +kernel
theorem dX6_change_21 : decode cX6_change 21 = .ok (.iload_n 2, 1) := by decide +kernel
theorem dX6_change_22 : decode cX6_change 22 = .ok (.iconst 1, 1) := by decide +kernel
theorem dX6_change_23 : decode cX6_change 23 = .ok (.iadd, 1) := by decide +kernel
theorem dX6_change_24 : decode cX6_change 24 = .ok (.iaload, 1) := by decide +kernel
theorem dX6_change_25 : decode cX6_change 25 = .ok (.iastore, 1) := by decide +kernel
theorem dX6_change_26 : decode cX6_change 26 = .ok (.aload_n 0, 1) := by decide +kernel
theorem dX6_change_27 : decode cX6_change 27 = .ok (.getfield 45, 3) := by decide +kernel
theorem dX6_change_30 : decode cX6_change 30 = .ok (.iload_n 2, 1) := by decide +kernel
theorem dX6_change_31 : decode cX6_change 31 = .ok (.iconst 1, 1) := by decide +kernel
theorem dX6_change_32 : decode cX6_change 32 = .ok (.iadd, 1) := by decide +kernel
theorem dX6_change_33 : decode cX6_change 33 = .ok (.iload_n 3, 1) := by decide +kernel
theorem dX6_change_34 : decode cX6_change 34 = .ok (.iastore, 1) := by decide +kernel
theorem dX6_change_35 : decode cX6_change 35 = .ok (.return_, 1) := by decide +kernel
theorem dX6_goTo_0 : decode cX6_goTo 0 = .ok (.aload_n 0, 1) := by decide +kernel
theorem dX6_goTo_1 : decode cX6_goTo 1 = .ok (.iload_n 1, 1) := by decide +kernel
theorem dX6_goTo_2 : decode cX6_goTo 2 = .ok (.invokevirtual 105, 3) := by decide +kernel
theorem dX6_goTo_5 : decode cX6_goTo 5 = .ok (.aload_n 0, 1) := by decide +kernel
theorem dX6_goTo_6 : decode cX6_goTo 6 = .ok (.invokevirtual 109, 3) := by decide +kernel
theorem dX6_goTo_9 : decode cX6_goTo 9 = .ok (.iconst 0, 1) := by decide +kernel
theorem dX6_goTo_10 : decode cX6_goTo 10 = .ok (.istore_n 3, 1) := by decide +kernel
theorem dX6_goTo_11 : decode cX6_goTo 11 = .ok (.iload_n 3, 1) := by decide +kernel
theorem dX6_goTo_12 : decode cX6_goTo 12 = .ok (.aload_n 0, 1) := by decide +kernel
theorem dX6_goTo_13 : decode cX6_goTo 13 = .ok (.getfield 98, 3) := by decide +kernel
theorem dX6_goTo_16 : decode cX6_goTo 16 = .ok (.if_icmp .ge 29, 3) := by decide +kernel
theorem dX6_goTo_19 : decode cX6_goTo 19 = .ok (.aload_n 0, 1) := by decide +kernel
theorem dX6_goTo_20 : decode cX6_goTo 20 = .ok (.getfield 42, 3) := by decide +kernel
theorem dX6_goTo_23 : decode cX6_goTo 23 = .ok (.iload_n 3, 1) := by decide +kernel
theorem dX6_goTo_24 : decode cX6_goTo 24 = .ok (.iaload, 1) := by decide +kernel
theorem dX6_goTo_25 : decode cX6_goTo 25 = .ok (.iload_n 2, 1) := by decide +kernel
theorem dX6_goTo_26 : decode cX6_goTo 26 = .ok (.if_icmp .ge 19, 3) := by decide +kernel
theorem dX6_goTo_29 : decode cX6_goTo 29 = .ok (.aload_n 0, 1) := by decide +kernel
theorem dX6_goTo_30 : decode cX6_goTo 30 = .ok (.aload_n 0, 1) := by decide +kernel
theorem dX6_goTo_31 : decode cX6_goTo 31 = .ok (.getfield 39, 3) := by decide +kernel
theorem dX6_goTo_34 : decode cX6_goTo 34 = .ok (.iload_n 3, 1) := by decide +kernel
theorem dX6_goTo_35 : decode cX6_goTo 35 = .ok (.iaload, 1) := by decide +kernel
theorem dX6_goTo_36 : decode cX6_goTo 36 = .ok (.invokevirtual 112, 3) := by decide +kernel
theorem dX6_goTo_39 : decode cX6_goTo 39 = .ok (.iinc 3 1, 3) := by decide +kernel
theorem dX6_goTo_42 : decode cX6_goTo 42 = .ok (.goto (-31), 3) := by decide +kernel
theorem dX6_goTo_45 : decode cX6_goTo 45 = .ok (.return_, 1) := by decide +kernel
theorem dX6_at_0 : decode cX6_at 0 = .ok (.iload_n 1, 1) := by decide +kernel
theorem dX6_at_1 : decode cX6_at 1 = .ok (.invokestatic 71, 3) := by decide +kernel
theorem dX6_at_4 : decode cX6_at 4 = .ok (.ifCond .ne 5, 3) := by decide +kernel
theorem dX6_at_7 : decode cX6_at 7 = .ok (.iconst (-1), 1) := by decide +kernel
theorem dX6_at_8 : decode cX6_at 8 = .ok (.ireturn, 1) := by decide +kernel
theorem dX6_at_9 : decode cX6_at 9 = .ok (.iload_n 2, 1) := by decide +kernel
theorem dX6_at_10 : decode cX6_at 10 = .ok (.iconst 0, 1) := by decide +kernel
theorem dX6_at_11 : decode cX6_at 11 = .ok (.aload_n 0, 1) := by decide +kernel
theorem dX6_at_12 : decode cX6_at 12 = .ok (.iload_n 1, 1) := by decide +kernel
theorem dX6_at_13 : decode cX6_at 13 = .ok (.invokevirtual 86, 3) := by decide +kernel
theorem dX6_at_16 : decode cX6_at 16 = .ok (.invokestatic 57, 3) := by decide +kernel
theorem dX6_at_19 : decode cX6_at 19 = .ok (.ifCond .eq 13, 3) := by decide +kernel
theorem dX6_at_22 : decode cX6_at 22 = .ok (.iload_n 3, 1) := by decide +kernel
theorem dX6_at_23 : decode cX6_at 23 = .ok (.iconst 0, 1) := by decide +kernel
theorem dX6_at_24 : decode cX6_at 24 = .ok (.bipush 7, 2) := by decide +kernel
theorem dX6_at_26 : decode cX6_at 26 = .ok (.invokestatic 57, 3) := by decide +kernel
theorem dX6_at_29 : decode cX6_at 29 = .ok (.ifCond .ne 6, 3) := by decide +kernel
theorem dX6_at_32 : decode cX6_at 32 = .ok (.bipush (-2), 2) := by decide +kernel
theorem dX6_at_34 : decode cX6_at 34 = .ok (.ireturn, 1) := by decide +kernel
theorem dX6_at_35 : decode cX6_at 35 = .ok (.aload_n 0, 1) := by decide +kernel
theorem dX6_at_36 : decode cX6_at 36 = .ok (.iload_n 1, 1) := by decide +kernel
theorem dX6_at_37 : decode cX6_at 37 = .ok (.iload_n 2, 1) := by decide +kernel
theorem dX6_at_38 : decode cX6_at 38 = .ok (.invokevirtual 115, 3) := by decide +kernel
theorem dX6_at_41 : decode cX6_at 41 = .ok (.aload_n 0, 1) := by decide +kernel
theorem dX6_at_42 : decode cX6_at 42 = .ok (.getfield 45, 3) := by decide +kernel
theorem dX6_at_45 : decode cX6_at 45 = .ok (.iload_n 3, 1) := by decide +kernel
theorem dX6_at_46 : decode cX6_at 46 = .ok (.iaload, 1) := by decide +kernel
theorem dX6_at_47 : decode cX6_at 47 = .ok (.ireturn, 1) := by decide +kernel
theorem dX6_met_0 : decode cX6_met 0 = .ok (.iload_n 1, 1) := by decide +kernel
theorem dX6_met_1 : decode cX6_met 1 = .ok (.invokestatic 71, 3) := by decide +kernel
theorem dX6_met_4 : decode cX6_met 4 = .ok (.ifCond .ne 5, 3) := by decide +kernel
theorem dX6_met_7 : decode cX6_met 7 = .ok (.iconst (-1), 1) := by decide +kernel
theorem dX6_met_8 : decode cX6_met 8 = .ok (.ireturn, 1) := by decide +kernel
theorem dX6_met_9 : decode cX6_met 9 = .ok (.iload_n 2, 1) := by decide +kernel
theorem dX6_met_10 : decode cX6_met 10 = .ok (.iconst 0, 1) := by decide +kernel
theorem dX6_met_11 : decode cX6_met 11 = .ok (.bipush 7, 2) := by decide +kernel
theorem dX6_met_13 : decode cX6_met 13 = .ok (.invokestatic 57, 3) := by decide +kernel
theorem dX6_met_16 : decode cX6_met 16 = .ok (.ifCond .eq 28, 3) := by decide +kernel
theorem dX6_met_19 : decode cX6_met 19 = .ok (.iload_n 3, 1) := by decide +kernel
theorem dX6_met_20 : decode cX6_met 20 = .ok (.iconst 0, 1) := by decide +kernel
theorem dX6_met_21 : decode cX6_met 21 = .ok (.bipush 7, 2) := by decide +kernel
theorem dX6_met_23 : decode cX6_met 23 = .ok (.invokestatic 57, 3) := by decide +kernel
theorem dX6_met_26 : decode cX6_met 26 = .ok (.ifCond .eq 18, 3) := by decide +kernel
theorem dX6_met_29 : decode cX6_met 29 = .ok (.iload_n 2, 1) := by decide +kernel
theorem dX6_met_30 : decode cX6_met 30 = .ok (.iload_n 3, 1) := by decide +kernel
theorem dX6_met_31 : decode cX6_met 31 = .ok (.if_icmp .eq 13, 3) := by decide +kernel
theorem dX6_met_34 : decode cX6_met 34 = .ok (.iload 4, 2) := by decide +kernel
theorem dX6_met_36 : decode cX6_met 36 = .ok (.iconst 0, 1) := by decide +kernel
theorem dX6_met_37 : decode cX6_met 37 = .ok (.iconst 2, 1) := by decide +kernel
theorem dX6_met_38 : decode cX6_met 38 = .ok (.invokestatic 57, 3) := by decide +kernel
theorem dX6_met_41 : decode cX6_met 41 = .ok (.ifCond .ne 6, 3) := by decide +kernel
theorem dX6_met_44 : decode cX6_met 44 = .ok (.bipush (-2), 2) := by decide +kernel
theorem dX6_met_46 : decode cX6_met 46 = .ok (.ireturn, 1) := by decide +kernel
theorem dX6_met_47 : decode cX6_met 47 = .ok (.aload_n 0, 1) := by decide +kernel
theorem dX6_met_48 : decode cX6_met 48 = .ok (.iload_n 1, 1) := by decide +kernel
theorem dX6_met_49 : decode cX6_met 49 = .ok (.invokevirtual 105, 3) := by decide +kernel
theorem dX6_met_52 : decode cX6_met 52 = .ok (.aload_n 0, 1) := by decide +kernel
theorem dX6_met_53 : decode cX6_met 53 = .ok (.invokevirtual 109, 3) := by decide +kernel
theorem dX6_met_56 : decode cX6_met 56 = .ok (.iconst 0, 1) := by decide +kernel
theorem dX6_met_57 : decode cX6_met 57 = .ok (.istore 5, 2) := by decide +kernel
theorem dX6_met_59 : decode cX6_met 59 = .ok (.iconst 0, 1) := by decide +kernel
theorem dX6_met_60 : decode cX6_met 60 = .ok (.istore 6, 2) := by decide +kernel
theorem dX6_met_62 : decode cX6_met 62 = .ok (.bipush (-6), 2) := by decide +kernel
theorem dX6_met_64 : decode cX6_met 64 = .ok (.istore 7, 2) := by decide +kernel
theorem dX6_met_66 : decode cX6_met 66 = .ok (.iconst 0, 1) := by decide +kernel
theorem dX6_met_67 : decode cX6_met 67 = .ok (.istore 8, 2) := by decide +kernel
theorem dX6_met_69 : decode cX6_met 69 = .ok (.iload 8, 2) := by decide +kernel
theorem dX6_met_71 : decode cX6_met 71 = .ok (.aload_n 0, 1) := by decide +kernel
theorem dX6_met_72 : decode cX6_met 72 = .ok (.getfield 98, 3) := by decide +kernel
theorem dX6_met_75 : decode cX6_met 75 = .ok (.if_icmp .ge 136, 3) := by decide +kernel
theorem dX6_met_78 : decode cX6_met 78 = .ok (.aload_n 0, 1) := by decide +kernel
theorem dX6_met_79 : decode cX6_met 79 = .ok (.getfield 45, 3) := by decide +kernel
theorem dX6_met_82 : decode cX6_met 82 = .ok (.aload_n 0, 1) := by decide +kernel
theorem dX6_met_83 : decode cX6_met 83 = .ok (.getfield 39, 3) := by decide +kernel
theorem dX6_met_86 : decode cX6_met 86 = .ok (.iload 8, 2) := by decide +kernel
theorem dX6_met_88 : decode cX6_met 88 = .ok (.iaload, 1) := by decide +kernel
theorem dX6_met_89 : decode cX6_met 89 = .ok (.bipush 10, 2) := by decide +kernel
theorem dX6_met_91 : decode cX6_met 91 = .ok (.idiv, 1) := by decide +kernel
theorem dX6_met_92 : decode cX6_met 92 = .ok (.iaload, 1) := by decide +kernel
theorem dX6_met_93 : decode cX6_met 93 = .ok (.istore 9, 2) := by decide +kernel
theorem dX6_met_95 : decode cX6_met 95 = .ok (.aload_n 0, 1) := by decide +kernel
theorem dX6_met_96 : decode cX6_met 96 = .ok (.getfield 45, 3) := by decide +kernel
theorem dX6_met_99 : decode cX6_met 99 = .ok (.aload_n 0, 1) := by decide +kernel
theorem dX6_met_100 : decode cX6_met 100 = .ok (.getfield 39, 3) := by decide +kernel
theorem dX6_met_103 : decode cX6_met 103 = .ok (.iload 8, 2) := by decide +kernel
theorem dX6_met_105 : decode cX6_met 105 = .ok (.iaload, 1) := by decide +kernel
theorem dX6_met_106 : decode cX6_met 106 = .ok (.bipush 10, 2) := by decide +kernel
theorem dX6_met_108 : decode cX6_met 108 = .ok (.idiv, 1) := by decide +kernel
theorem dX6_met_109 : decode cX6_met 109 = .ok (.iconst 1, 1) := by decide +kernel
theorem dX6_met_110 : decode cX6_met 110 = .ok (.iadd, 1) := by decide +kernel
theorem dX6_met_111 : decode cX6_met 111 = .ok (.iaload, 1) := by decide +kernel
theorem dX6_met_112 : decode cX6_met 112 = .ok (.istore 10, 2) := by decide +kernel
theorem dX6_met_114 : decode cX6_met 114 = .ok (.iload 9, 2) := by decide +kernel
theorem dX6_met_116 : decode cX6_met 116 = .ok (.iload_n 2, 1) := by decide +kernel
theorem dX6_met_117 : decode cX6_met 117 = .ok (.if_icmp .ne 9, 3) := by decide +kernel
theorem dX6_met_120 : decode cX6_met 120 = .ok (.iload 10, 2) := by decide +kernel
theorem dX6_met_122 : decode cX6_met 122 = .ok (.iload_n 3, 1) := by decide +kernel
theorem dX6_met_123 : decode cX6_met 123 = .ok (.if_icmp .eq 15, 3) := by decide +kernel
theorem dX6_met_126 : decode cX6_met 126 = .ok (.iload 9, 2) := by decide +kernel
theorem dX6_met_128 : decode cX6_met 128 = .ok (.iload_n 3, 1) := by decide +kernel
theorem dX6_met_129 : decode cX6_met 129 = .ok (.if_icmp .ne 65, 3) := by decide +kernel
theorem dX6_met_132 : decode cX6_met 132 = .ok (.iload 10, 2) := by decide +kernel
theorem dX6_met_134 : decode cX6_met 134 = .ok (.iload_n 2, 1) := by decide +kernel
theorem dX6_met_135 : decode cX6_met 135 = .ok (.if_icmp .ne 59, 3) := by decide +kernel
theorem dX6_met_138 : decode cX6_met 138 = .ok (.iinc 5 1, 3) := by decide +kernel
theorem dX6_met_141 : decode cX6_met 141 = .ok (.iload 6, 2) := by decide +kernel
theorem dX6_met_143 : decode cX6_met 143 = .ok (.aload_n 0, 1) := by decide +kernel
theorem dX6_met_144 : decode cX6_met 144 = .ok (.getfield 39, 3) := by decide +kernel
theorem dX6_met_147 : decode cX6_met 147 = .ok (.iload 8, 2) := by decide +kernel
theorem dX6_met_149 : decode cX6_met 149 = .ok (.iaload, 1) := by decide +kernel
theorem dX6_met_150 : decode cX6_met 150 = .ok (.bipush 10, 2) := by decide +kernel
theorem dX6_met_152 : decode cX6_met 152 = .ok (.irem, 1) := by decide +kernel
theorem dX6_met_153 : decode cX6_met 153 = .ok (.ifCond .ne 8, 3) := by decide +kernel
theorem dX6_met_156 : decode cX6_met 156 = .ok (.iload 9, 2) := by decide +kernel
theorem dX6_met_158 : decode cX6_met 158 = .ok (.goto 5, 3) := by decide +kernel
theorem dX6_met_161 : decode cX6_met 161 = .ok (.iload 10, 2) := by decide +kernel
theorem dX6_met_163 : decode cX6_met 163 = .ok (.iload_n 2, 1) := by decide +kernel
theorem dX6_met_164 : decode cX6_met 164 = .ok (.if_icmp .ne 7, 3) := by decide +kernel
theorem dX6_met_167 : decode cX6_met 167 = .ok (.iconst 1, 1) := by decide +kernel
theorem dX6_met_168 : decode cX6_met 168 = .ok (.goto 4, 3) := by decide +kernel
theorem dX6_met_171 : decode cX6_met 171 = .ok (.iconst 0, 1) := by decide +kernel
theorem dX6_met_172 : decode cX6_met 172 = .ok (.iadd, 1) := by decide +kernel
theorem dX6_met_173 : decode cX6_met 173 = .ok (.istore 6, 2) := by decide +kernel
theorem dX6_met_175 : decode cX6_met 175 = .ok (.iload 7, 2) := by decide +kernel
theorem dX6_met_177 : decode cX6_met 177 = .ok (.ifCond .ge 13, 3) := by decide +kernel
theorem dX6_met_180 : decode cX6_met 180 = .ok (.aload_n 0, 1) := by decide +kernel
theorem dX6_met_181 : decode cX6_met 181 = .ok (.getfield 42, 3) := by decide +kernel
theorem dX6_met_184 : decode cX6_met 184 = .ok (.iload 8, 2) := by decide +kernel
theorem dX6_met_186 : decode cX6_met 186 = .ok (.iaload, 1) := by decide +kernel
theorem dX6_met_187 : decode cX6_met 187 = .ok (.goto 5, 3) := by decide +kernel
theorem dX6_met_190 : decode cX6_met 190 = .ok (.iload 7, 2) := by decide +kernel
theorem dX6_met_192 : decode cX6_met 192 = .ok (.istore 7, 2) := by decide +kernel
theorem dX6_met_194 : decode cX6_met 194 = .ok (.aload_n 0, 1) := by decide +kernel
theorem dX6_met_195 : decode cX6_met 195 = .ok (.aload_n 0, 1) := by decide +kernel
theorem dX6_met_196 : decode cX6_met 196 = .ok (.getfield 39, 3) := by decide +kernel
theorem dX6_met_199 : decode cX6_met 199 = .ok (.iload 8, 2) := by decide +kernel
theorem dX6_met_201 : decode cX6_met 201 = .ok (.iaload, 1) := by decide +kernel
theorem dX6_met_202 : decode cX6_met 202 = .ok (.invokevirtual 112, 3) := by decide +kernel
theorem dX6_met_205 : decode cX6_met 205 = .ok (.iinc 8 1, 3) := by decide +kernel
theorem dX6_met_208 : decode cX6_met 208 = .ok (.goto (-139), 3) := by decide +kernel
theorem dX6_met_211 : decode cX6_met 211 = .ok (.iload 4, 2) := by decide +kernel
theorem dX6_met_213 : decode cX6_met 213 = .ok (.ifCond .ne 8, 3) := by decide +kernel
theorem dX6_met_216 : decode cX6_met 216 = .ok (.iload 5, 2) := by decide +kernel
theorem dX6_met_218 : decode cX6_met 218 = .ok (.goto 16, 3) := by decide +kernel
theorem dX6_met_221 : decode cX6_met 221 = .ok (.iload 4, 2) := by decide +kernel
theorem dX6_met_223 : decode cX6_met 223 = .ok (.iconst 1, 1) := by decide +kernel
theorem dX6_met_224 : decode cX6_met 224 = .ok (.if_icmp .ne 8, 3) := by decide +kernel
theorem dX6_met_227 : decode cX6_met 227 = .ok (.iload 6, 2) := by decide +kernel
theorem dX6_met_229 : decode cX6_met 229 = .ok (.goto 5, 3) := by decide +kernel
theorem dX6_met_232 : decode cX6_met 232 = .ok (.iload 7, 2) := by decide +kernel
theorem dX6_met_234 : decode cX6_met 234 = .ok (.ireturn, 1) := by decide +kernel
theorem dX6_pins_0 : decode cX6_pins 0 = .ok (.iconst 0, 1) := by decide +kernel
theorem dX6_pins_1 : decode cX6_pins 1 = .ok (.istore_n 2, 1) := by decide +kernel
theorem dX6_pins_2 : decode cX6_pins 2 = .ok (.iconst 0, 1) := by decide +kernel
theorem dX6_pins_3 : decode cX6_pins 3 = .ok (.istore_n 3, 1) := by decide +kernel
theorem dX6_pins_4 : decode cX6_pins 4 = .ok (.iload_n 3, 1) := by decide +kernel
theorem dX6_pins_5 : decode cX6_pins 5 = .ok (.aload_n 0, 1) := by decide +kernel
theorem dX6_pins_6 : decode cX6_pins 6 = .ok (.iload_n 1, 1) := by decide +kernel
theorem dX6_pins_7 : decode cX6_pins 7 = .ok (.invokevirtual 86, 3) := by decide +kernel
theorem dX6_pins_10 : decode cX6_pins 10 = .ok (.if_icmp .ge 27, 3) := by decide +kernel
theorem dX6_pins_13 : decode cX6_pins 13 = .ok (.iload_n 2, 1) := by decide +kernel
theorem dX6_pins_14 : decode cX6_pins 14 = .ok (.aload_n 0, 1) := by decide +kernel
theorem dX6_pins_15 : decode cX6_pins 15 = .ok (.iload_n 1, 1) := by decide +kernel
theorem dX6_pins_16 : decode cX6_pins 16 = .ok (.iload_n 3, 1) := by decide +kernel
theorem dX6_pins_17 : decode cX6_pins 17 = .ok (.invokevirtual 89, 3) := by decide +kernel
theorem dX6_pins_20 : decode cX6_pins 20 = .ok (.iconst 4, 1) := by decide +kernel
theorem dX6_pins_21 : decode cX6_pins 21 = .ok (.if_icmp .ne 7, 3) := by decide +kernel
theorem dX6_pins_24 : decode cX6_pins 24 = .ok (.iconst 1, 1) := by decide +kernel
theorem dX6_pins_25 : decode cX6_pins 25 = .ok (.goto 4, 3) := by decide +kernel
theorem dX6_pins_28 : decode cX6_pins 28 = .ok (.iconst 0, 1) := by decide +kernel
theorem dX6_pins_29 : decode cX6_pins 29 = .ok (.iadd, 1) := by decide +kernel
theorem dX6_pins_30 : decode cX6_pins 30 = .ok (.istore_n 2, 1) := by decide +kernel
theorem dX6_pins_31 : decode cX6_pins 31 = .ok (.iinc 3 1, 3) := by decide +kernel
theorem dX6_pins_34 : decode cX6_pins 34 = .ok (.goto (-30), 3) := by decide +kernel
theorem dX6_pins_37 : decode cX6_pins 37 = .ok (.iload_n 2, 1) := by decide +kernel
theorem dX6_pins_38 : decode cX6_pins 38 = .ok (.ireturn, 1) := by decide +kernel
theorem dX6_asAtFirst_0 : decode cX6_asAtFirst 0 = .ok (.iconst 0, 1) := by decide +kernel
theorem dX6_asAtFirst_1 : decode cX6_asAtFirst 1 = .ok (.istore_n 1, 1) := by decide +kernel
theorem dX6_asAtFirst_2 : decode cX6_asAtFirst 2 = .ok (.iconst 0, 1) := by decide +kernel
theorem dX6_asAtFirst_3 : decode cX6_asAtFirst 3 = .ok (.istore_n 2, 1) := by decide +kernel
theorem dX6_asAtFirst_4 : decode cX6_asAtFirst 4 = .ok (.iload_n 2, 1) := by decide +kernel
theorem dX6_asAtFirst_5 : decode cX6_asAtFirst 5 = .ok (.bipush 8, 2) := by decide +kernel
theorem dX6_asAtFirst_7 : decode cX6_asAtFirst 7 = .ok (.if_icmp .ge 27, 3) := by decide +kernel
theorem dX6_asAtFirst_10 : decode cX6_asAtFirst 10 = .ok (.iload_n 1, 1) := by decide +kernel
theorem dX6_asAtFirst_11 : decode cX6_asAtFirst 11 = .ok (.aload_n 0, 1) := by decide +kernel
theorem dX6_asAtFirst_12 : decode cX6_asAtFirst 12 = .ok (.getfield 45, 3) := by decide +kernel
theorem dX6_asAtFirst_15 : decode cX6_asAtFirst 15 = .ok (.iload_n 2, 1) := by decide +kernel
theorem dX6_asAtFirst_16 : decode cX6_asAtFirst 16 = .ok (.iaload, 1) := by decide +kernel
theorem dX6_asAtFirst_17 : decode cX6_asAtFirst 17 = .ok (.iload_n 2, 1) := by decide +kernel
theorem dX6_asAtFirst_18 : decode cX6_asAtFirst 18 = .ok (.if_icmp .ne 7, 3) := by decide +kernel
theorem dX6_asAtFirst_21 : decode cX6_asAtFirst 21 = .ok (.iconst 1, 1) := by decide +kernel
theorem dX6_asAtFirst_22 : decode cX6_asAtFirst 22 = .ok (.goto 4, 3) := by decide +kernel
theorem dX6_asAtFirst_25 : decode cX6_asAtFirst 25 = .ok (.iconst 0, 1) := by decide +kernel
theorem dX6_asAtFirst_26 : decode cX6_asAtFirst 26 = .ok (.iadd, 1) := by decide +kernel
theorem dX6_asAtFirst_27 : decode cX6_asAtFirst 27 = .ok (.istore_n 1, 1) := by decide +kernel
theorem dX6_asAtFirst_28 : decode cX6_asAtFirst 28 = .ok (.iinc 2 1, 3) := by decide +kernel
theorem dX6_asAtFirst_31 : decode cX6_asAtFirst 31 = .ok (.goto (-27), 3) := by decide +kernel
theorem dX6_asAtFirst_34 : decode cX6_asAtFirst 34 = .ok (.iload_n 1, 1) := by decide +kernel
theorem dX6_asAtFirst_35 : decode cX6_asAtFirst 35 = .ok (.ireturn, 1) := by decide +kernel
theorem dX6_timesOf_0 : decode cX6_timesOf 0 = .ok (.aload_n 0, 1) := by decide +kernel
theorem dX6_timesOf_1 : decode cX6_timesOf 1 = .ok (.iload_n 1, 1) := by decide +kernel
theorem dX6_timesOf_2 : decode cX6_timesOf 2 = .ok (.invokevirtual 105, 3) := by decide +kernel
theorem dX6_timesOf_5 : decode cX6_timesOf 5 = .ok (.aload_n 0, 1) := by decide +kernel
theorem dX6_timesOf_6 : decode cX6_timesOf 6 = .ok (.invokevirtual 109, 3) := by decide +kernel
theorem dX6_timesOf_9 : decode cX6_timesOf 9 = .ok (.iconst 0, 1) := by decide +kernel
theorem dX6_timesOf_10 : decode cX6_timesOf 10 = .ok (.istore_n 2, 1) := by decide +kernel
theorem dX6_timesOf_11 : decode cX6_timesOf 11 = .ok (.iconst 1, 1) := by decide +kernel
theorem dX6_timesOf_12 : decode cX6_timesOf 12 = .ok (.istore_n 3, 1) := by decide +kernel
theorem dX6_timesOf_13 : decode cX6_timesOf 13 = .ok (.iload_n 3, 1) := by decide +kernel
theorem dX6_timesOf_14 : decode cX6_timesOf 14 = .ok (.ifCond .eq 53, 3) := by decide +kernel
theorem dX6_timesOf_17 : decode cX6_timesOf 17 = .ok (.iconst 0, 1) := by decide +kernel
theorem dX6_timesOf_18 : decode cX6_timesOf 18 = .ok (.istore 4, 2) := by decide +kernel
theorem dX6_timesOf_20 : decode cX6_timesOf 20 = .ok (.iload 4, 2) := by decide +kernel
theorem dX6_timesOf_22 : decode cX6_timesOf 22 = .ok (.aload_n 0, 1) := by decide +kernel
theorem dX6_timesOf_23 : decode cX6_timesOf 23 = .ok (.getfield 98, 3) := by decide +kernel
theorem dX6_timesOf_26 : decode cX6_timesOf 26 = .ok (.if_icmp .ge 20, 3) := by decide +kernel
theorem dX6_timesOf_29 : decode cX6_timesOf 29 = .ok (.aload_n 0, 1) := by decide +kernel
theorem dX6_timesOf_30 : decode cX6_timesOf 30 = .ok (.aload_n 0, 1) := by decide +kernel
theorem dX6_timesOf_31 : decode cX6_timesOf 31 = .ok (.getfield 39, 3) := by decide +kernel
theorem dX6_timesOf_34 : decode cX6_timesOf 34 = .ok (.iload 4, 2) := by decide +kernel
theorem dX6_timesOf_36 : decode cX6_timesOf 36 = .ok (.iaload, 1) := by decide +kernel
theorem dX6_timesOf_37 : decode cX6_timesOf 37 = .ok (.invokevirtual 112, 3) := by decide +kernel
theorem dX6_timesOf_40 : decode cX6_timesOf 40 = .ok (.iinc 4 1, 3) := by decide +kernel
theorem dX6_timesOf_43 : decode cX6_timesOf 43 = .ok (.goto (-23), 3) := by decide +kernel
theorem dX6_timesOf_46 : decode cX6_timesOf 46 = .ok (.iinc 2 1, 3) := by decide +kernel
theorem dX6_timesOf_49 : decode cX6_timesOf 49 = .ok (.aload_n 0, 1) := by decide +kernel
theorem dX6_timesOf_50 : decode cX6_timesOf 50 = .ok (.invokevirtual 119, 3) := by decide +kernel
theorem dX6_timesOf_53 : decode cX6_timesOf 53 = .ok (.bipush 8, 2) := by decide +kernel
theorem dX6_timesOf_55 : decode cX6_timesOf 55 = .ok (.if_icmp .ge 7, 3) := by decide +kernel
theorem dX6_timesOf_58 : decode cX6_timesOf 58 = .ok (.iconst 1, 1) := by decide +kernel
theorem dX6_timesOf_59 : decode cX6_timesOf 59 = .ok (.goto 4, 3) := by decide +kernel
theorem dX6_timesOf_62 : decode cX6_timesOf 62 = .ok (.iconst 0, 1) := by decide +kernel
theorem dX6_timesOf_63 : decode cX6_timesOf 63 = .ok (.istore_n 3, 1) := by decide +kernel
theorem dX6_timesOf_64 : decode cX6_timesOf 64 = .ok (.goto (-51), 3) := by decide +kernel
theorem dX6_timesOf_67 : decode cX6_timesOf 67 = .ok (.iload_n 2, 1) := by decide +kernel
theorem dX6_timesOf_68 : decode cX6_timesOf 68 = .ok (.ireturn, 1) := by decide +kernel
theorem dX6_still_0 : decode cX6_still 0 = .ok (.aload_n 0, 1) := by decide +kernel
theorem dX6_still_1 : decode cX6_still 1 = .ok (.iload_n 1, 1) := by decide +kernel
theorem dX6_still_2 : decode cX6_still 2 = .ok (.invokevirtual 105, 3) := by decide +kernel
theorem dX6_still_5 : decode cX6_still 5 = .ok (.aload_n 0, 1) := by decide +kernel
theorem dX6_still_6 : decode cX6_still 6 = .ok (.invokevirtual 109, 3) := by decide +kernel
theorem dX6_still_9 : decode cX6_still 9 = .ok (.sipush 255, 3) := by decide +kernel
theorem dX6_still_12 : decode cX6_still 12 = .ok (.istore_n 2, 1) := by decide +kernel
theorem dX6_still_13 : decode cX6_still 13 = .ok (.iconst 0, 1) := by decide +kernel
theorem dX6_still_14 : decode cX6_still 14 = .ok (.istore_n 3, 1) := by decide +kernel
theorem dX6_still_15 : decode cX6_still 15 = .ok (.iload_n 3, 1) := by decide +kernel
theorem dX6_still_16 : decode cX6_still 16 = .ok (.aload_n 0, 1) := by decide +kernel
theorem dX6_still_17 : decode cX6_still 17 = .ok (.getfield 98, 3) := by decide +kernel
theorem dX6_still_20 : decode cX6_still 20 = .ok (.if_icmp .ge 56, 3) := by decide +kernel
theorem dX6_still_23 : decode cX6_still 23 = .ok (.aload_n 0, 1) := by decide +kernel
theorem dX6_still_24 : decode cX6_still 24 = .ok (.getfield 39, 3) := by decide +kernel
theorem dX6_still_27 : decode cX6_still 27 = .ok (.iload_n 3, 1) := by decide +kernel
theorem dX6_still_28 : decode cX6_still 28 = .ok (.iaload, 1) := by decide +kernel
theorem dX6_still_29 : decode cX6_still 29 = .ok (.bipush 10, 2) := by decide +kernel
theorem dX6_still_31 : decode cX6_still 31 = .ok (.idiv, 1) := by decide +kernel
theorem dX6_still_32 : decode cX6_still 32 = .ok (.istore 4, 2) := by decide +kernel
theorem dX6_still_34 : decode cX6_still 34 = .ok (.iload_n 2, 1) := by decide +kernel
theorem dX6_still_35 : decode cX6_still 35 = .ok (.iconst 1, 1) := by decide +kernel
theorem dX6_still_36 : decode cX6_still 36 = .ok (.aload_n 0, 1) := by decide +kernel
theorem dX6_still_37 : decode cX6_still 37 = .ok (.getfield 45, 3) := by decide +kernel
theorem dX6_still_40 : decode cX6_still 40 = .ok (.iload 4, 2) := by decide +kernel
theorem dX6_still_42 : decode cX6_still 42 = .ok (.iaload, 1) := by decide +kernel
theorem dX6_still_43 : decode cX6_still 43 = .ok (.ishl, 1) := by decide +kernel
theorem dX6_still_44 : decode cX6_still 44 = .ok (.iconst 1, 1) := by decide +kernel
theorem dX6_still_45 : decode cX6_still 45 = .ok (.aload_n 0, 1) := by decide +kernel
theorem dX6_still_46 : decode cX6_still 46 = .ok (.getfield 45, 3) := by decide +kernel
theorem dX6_still_49 : decode cX6_still 49 = .ok (.iload 4, 2) := by decide +kernel
theorem dX6_still_51 : decode cX6_still 51 = .ok (.iconst 1, 1) := by decide +kernel
theorem dX6_still_52 : decode cX6_still 52 = .ok (.iadd, 1) := by decide +kernel
theorem dX6_still_53 : decode cX6_still 53 = .ok (.iaload, 1) := by decide +kernel
theorem dX6_still_54 : decode cX6_still 54 = .ok (.ishl, 1) := by decide +kernel
theorem dX6_still_55 : decode cX6_still 55 = .ok (.ior, 1) := by decide +kernel
theorem dX6_still_56 : decode cX6_still 56 = .ok (.iconst (-1), 1) := by decide +kernel
theorem dX6_still_57 : decode cX6_still 57 = .ok (.ixor, 1) := by decide +kernel
theorem dX6_still_58 : decode cX6_still 58 = .ok (.iand, 1) := by decide +kernel
theorem dX6_still_59 : decode cX6_still 59 = .ok (.istore_n 2, 1) := by decide +kernel
theorem dX6_still_60 : decode cX6_still 60 = .ok (.aload_n 0, 1) := by decide +kernel
theorem dX6_still_61 : decode cX6_still 61 = .ok (.aload_n 0, 1) := by decide +kernel
theorem dX6_still_62 : decode cX6_still 62 = .ok (.getfield 39, 3) := by decide +kernel
theorem dX6_still_65 : decode cX6_still 65 = .ok (.iload_n 3, 1) := by decide +kernel
theorem dX6_still_66 : decode cX6_still 66 = .ok (.iaload, 1) := by decide +kernel
theorem dX6_still_67 : decode cX6_still 67 = .ok (.invokevirtual 112, 3) := by decide +kernel
theorem dX6_still_70 : decode cX6_still 70 = .ok (.iinc 3 1, 3) := by decide +kernel
theorem dX6_still_73 : decode cX6_still 73 = .ok (.goto (-58), 3) := by decide +kernel
theorem dX6_still_76 : decode cX6_still 76 = .ok (.iload_n 2, 1) := by decide +kernel
theorem dX6_still_77 : decode cX6_still 77 = .ok (.ireturn, 1) := by decide +kernel
theorem dX6_told_0 : decode cX6_told 0 = .ok (.iload_n 1, 1) := by decide +kernel
theorem dX6_told_1 : decode cX6_told 1 = .ok (.invokestatic 71, 3) := by decide +kernel
theorem dX6_told_4 : decode cX6_told 4 = .ok (.ifCond .ne 5, 3) := by decide +kernel
theorem dX6_told_7 : decode cX6_told 7 = .ok (.iconst (-1), 1) := by decide +kernel
theorem dX6_told_8 : decode cX6_told 8 = .ok (.ireturn, 1) := by decide +kernel
theorem dX6_told_9 : decode cX6_told 9 = .ok (.iload_n 2, 1) := by decide +kernel
theorem dX6_told_10 : decode cX6_told 10 = .ok (.tableswitch 84 0 5 #[38, 44, 54, 60, 66, 78], 38) := by decide +kernel
theorem dX6_told_48 : decode cX6_told 48 = .ok (.aload_n 0, 1) := by decide +kernel
theorem dX6_told_49 : decode cX6_told 49 = .ok (.iload_n 1, 1) := by decide +kernel
theorem dX6_told_50 : decode cX6_told 50 = .ok (.invokevirtual 86, 3) := by decide +kernel
theorem dX6_told_53 : decode cX6_told 53 = .ok (.ireturn, 1) := by decide +kernel
theorem dX6_told_54 : decode cX6_told 54 = .ok (.aload_n 0, 1) := by decide +kernel
theorem dX6_told_55 : decode cX6_told 55 = .ok (.iload_n 1, 1) := by decide +kernel
theorem dX6_told_56 : decode cX6_told 56 = .ok (.invokevirtual 105, 3) := by decide +kernel
theorem dX6_told_59 : decode cX6_told 59 = .ok (.aload_n 0, 1) := by decide +kernel
theorem dX6_told_60 : decode cX6_told 60 = .ok (.getfield 98, 3) := by decide +kernel
theorem dX6_told_63 : decode cX6_told 63 = .ok (.ireturn, 1) := by decide +kernel
theorem dX6_told_64 : decode cX6_told 64 = .ok (.aload_n 0, 1) := by decide +kernel
theorem dX6_told_65 : decode cX6_told 65 = .ok (.iload_n 1, 1) := by decide +kernel
theorem dX6_told_66 : decode cX6_told 66 = .ok (.invokevirtual 122, 3) := by decide +kernel
theorem dX6_told_69 : decode cX6_told 69 = .ok (.ireturn, 1) := by decide +kernel
theorem dX6_told_70 : decode cX6_told 70 = .ok (.aload_n 0, 1) := by decide +kernel
theorem dX6_told_71 : decode cX6_told 71 = .ok (.iload_n 1, 1) := by decide +kernel
theorem dX6_told_72 : decode cX6_told 72 = .ok (.invokevirtual 125, 3) := by decide +kernel
theorem dX6_told_75 : decode cX6_told 75 = .ok (.ireturn, 1) := by decide +kernel
theorem dX6_told_76 : decode cX6_told 76 = .ok (.aload_n 0, 1) := by decide +kernel
theorem dX6_told_77 : decode cX6_told 77 = .ok (.iload_n 1, 1) := by decide +kernel
theorem dX6_told_78 : decode cX6_told 78 = .ok (.bipush 60, 2) := by decide +kernel
theorem dX6_told_80 : decode cX6_told 80 = .ok (.invokevirtual 115, 3) := by decide +kernel
theorem dX6_told_83 : decode cX6_told 83 = .ok (.aload_n 0, 1) := by decide +kernel
theorem dX6_told_84 : decode cX6_told 84 = .ok (.invokevirtual 119, 3) := by decide +kernel
theorem dX6_told_87 : decode cX6_told 87 = .ok (.ireturn, 1) := by decide +kernel
theorem dX6_told_88 : decode cX6_told 88 = .ok (.aload_n 0, 1) := by decide +kernel
theorem dX6_told_89 : decode cX6_told 89 = .ok (.iload_n 1, 1) := by decide +kernel
theorem dX6_told_90 : decode cX6_told 90 = .ok (.invokevirtual 128, 3) := by decide +kernel
theorem dX6_told_93 : decode cX6_told 93 = .ok (.ireturn, 1) := by decide +kernel
theorem dX6_told_94 : decode cX6_told 94 = .ok (.bipush (-2), 2) := by decide +kernel
theorem dX6_told_96 : decode cX6_told 96 = .ok (.ireturn, 1) := by decide +kernel
theorem dX6_pin_0 : decode cX6_pin 0 = .ok (.iload_n 1, 1) := by decide +kernel
theorem dX6_pin_1 : decode cX6_pin 1 = .ok (.invokestatic 71, 3) := by decide +kernel
theorem dX6_pin_4 : decode cX6_pin 4 = .ok (.ifCond .ne 5, 3) := by decide +kernel
theorem dX6_pin_7 : decode cX6_pin 7 = .ok (.iconst (-1), 1) := by decide +kernel
theorem dX6_pin_8 : decode cX6_pin 8 = .ok (.ireturn, 1) := by decide +kernel
theorem dX6_pin_9 : decode cX6_pin 9 = .ok (.iload_n 3, 1) := by decide +kernel
theorem dX6_pin_10 : decode cX6_pin 10 = .ok (.iconst 0, 1) := by decide +kernel
theorem dX6_pin_11 : decode cX6_pin 11 = .ok (.iconst 3, 1) := by decide +kernel
theorem dX6_pin_12 : decode cX6_pin 12 = .ok (.invokestatic 57, 3) := by decide +kernel
theorem dX6_pin_15 : decode cX6_pin 15 = .ok (.ifCond .ne 6, 3) := by decide +kernel
theorem dX6_pin_18 : decode cX6_pin 18 = .ok (.bipush (-2), 2) := by decide +kernel
theorem dX6_pin_20 : decode cX6_pin 20 = .ok (.ireturn, 1) := by decide +kernel
theorem dX6_pin_21 : decode cX6_pin 21 = .ok (.iconst 0, 1) := by decide +kernel
theorem dX6_pin_22 : decode cX6_pin 22 = .ok (.istore 4, 2) := by decide +kernel
theorem dX6_pin_24 : decode cX6_pin 24 = .ok (.iconst 0, 1) := by decide +kernel
theorem dX6_pin_25 : decode cX6_pin 25 = .ok (.istore 5, 2) := by decide +kernel
theorem dX6_pin_27 : decode cX6_pin 27 = .ok (.iload 5, 2) := by decide +kernel
theorem dX6_pin_29 : decode cX6_pin 29 = .ok (.aload_n 0, 1) := by decide +kernel
theorem dX6_pin_30 : decode cX6_pin 30 = .ok (.iload_n 1, 1) := by decide +kernel
theorem dX6_pin_31 : decode cX6_pin 31 = .ok (.invokevirtual 86, 3) := by decide +kernel
theorem dX6_pin_34 : decode cX6_pin 34 = .ok (.if_icmp .ge 85, 3) := by decide +kernel
theorem dX6_pin_37 : decode cX6_pin 37 = .ok (.aload_n 0, 1) := by decide +kernel
theorem dX6_pin_38 : decode cX6_pin 38 = .ok (.iload_n 1, 1) := by decide +kernel
theorem dX6_pin_39 : decode cX6_pin 39 = .ok (.iload 5, 2) := by decide +kernel
theorem dX6_pin_41 : decode cX6_pin 41 = .ok (.invokevirtual 89, 3) := by decide +kernel
theorem dX6_pin_44 : decode cX6_pin 44 = .ok (.iconst 4, 1) := by decide +kernel
theorem dX6_pin_45 : decode cX6_pin 45 = .ok (.if_icmp .ne 68, 3) := by decide +kernel
theorem dX6_pin_48 : decode cX6_pin 48 = .ok (.iload 4, 2) := by decide +kernel
theorem dX6_pin_50 : decode cX6_pin 50 = .ok (.iload_n 2, 1) := by decide +kernel
theorem dX6_pin_51 : decode cX6_pin 51 = .ok (.if_icmp .ne 59, 3) := by decide +kernel
theorem dX6_pin_54 : decode cX6_pin 54 = .ok (.iconst 2, 1) := by decide +kernel
theorem dX6_pin_55 : decode cX6_pin 55 = .ok (.aload_n 0, 1) := by decide +kernel
theorem dX6_pin_56 : decode cX6_pin 56 = .ok (.iload_n 1, 1) := by decide +kernel
theorem dX6_pin_57 : decode cX6_pin 57 = .ok (.iload 5, 2) := by decide +kernel
theorem dX6_pin_59 : decode cX6_pin 59 = .ok (.invokevirtual 92, 3) := by decide +kernel
theorem dX6_pin_62 : decode cX6_pin 62 = .ok (.imul, 1) := by decide +kernel
theorem dX6_pin_63 : decode cX6_pin 63 = .ok (.iconst 1, 1) := by decide +kernel
theorem dX6_pin_64 : decode cX6_pin 64 = .ok (.iadd, 1) := by decide +kernel
theorem dX6_pin_65 : decode cX6_pin 65 = .ok (.istore 6, 2) := by decide +kernel
theorem dX6_pin_67 : decode cX6_pin 67 = .ok (.aload_n 0, 1) := by decide +kernel
theorem dX6_pin_68 : decode cX6_pin 68 = .ok (.iload_n 1, 1) := by decide +kernel
theorem dX6_pin_69 : decode cX6_pin 69 = .ok (.iload 5, 2) := by decide +kernel
theorem dX6_pin_71 : decode cX6_pin 71 = .ok (.invokevirtual 115, 3) := by decide +kernel
theorem dX6_pin_74 : decode cX6_pin 74 = .ok (.iload_n 3, 1) := by decide +kernel
theorem dX6_pin_75 : decode cX6_pin 75 = .ok (.ifCond .ne 8, 3) := by decide +kernel
theorem dX6_pin_78 : decode cX6_pin 78 = .ok (.iload 5, 2) := by decide +kernel
theorem dX6_pin_80 : decode cX6_pin 80 = .ok (.goto 29, 3) := by decide +kernel
theorem dX6_pin_83 : decode cX6_pin 83 = .ok (.iload_n 3, 1) := by decide +kernel
theorem dX6_pin_84 : decode cX6_pin 84 = .ok (.iconst 1, 1) := by decide +kernel
theorem dX6_pin_85 : decode cX6_pin 85 = .ok (.if_icmp .ne 13, 3) := by decide +kernel
theorem dX6_pin_88 : decode cX6_pin 88 = .ok (.aload_n 0, 1) := by decide +kernel
theorem dX6_pin_89 : decode cX6_pin 89 = .ok (.iload_n 1, 1) := by decide +kernel
theorem dX6_pin_90 : decode cX6_pin 90 = .ok (.iload 5, 2) := by decide +kernel
theorem dX6_pin_92 : decode cX6_pin 92 = .ok (.invokevirtual 92, 3) := by decide +kernel
theorem dX6_pin_95 : decode cX6_pin 95 = .ok (.goto 14, 3) := by decide +kernel
theorem dX6_pin_98 : decode cX6_pin 98 = .ok (.aload_n 0, 1) := by decide +kernel
theorem dX6_pin_99 : decode cX6_pin 99 = .ok (.getfield 45, 3) := by decide +kernel
theorem dX6_pin_102 : decode cX6_pin 102 = .ok (.iload 6, 2) := by decide +kernel
theorem dX6_pin_104 : decode cX6_pin 104 = .ok (.iload_n 3, 1) := by decide +kernel
theorem dX6_pin_105 : decode cX6_pin 105 = .ok (.iadd, 1) := by decide +kernel
theorem dX6_pin_106 : decode cX6_pin 106 = .ok (.iconst 2, 1) := by decide +kernel
theorem dX6_pin_107 : decode cX6_pin 107 = .ok (.isub, 1) := by decide +kernel
theorem dX6_pin_108 : decode cX6_pin 108 = .ok (.iaload, 1) := by decide +kernel
theorem dX6_pin_109 : decode cX6_pin 109 = .ok (.ireturn, 1) := by decide +kernel
theorem dX6_pin_110 : decode cX6_pin 110 = .ok (.iinc 4 1, 3) := by decide +kernel
theorem dX6_pin_113 : decode cX6_pin 113 = .ok (.iinc 5 1, 3) := by decide +kernel
theorem dX6_pin_116 : decode cX6_pin 116 = .ok (.goto (-89), 3) := by decide +kernel
theorem dX6_pin_119 : decode cX6_pin 119 = .ok (.bipush (-6), 2) := by decide +kernel
theorem dX6_pin_121 : decode cX6_pin 121 = .ok (.ireturn, 1) := by decide +kernel
theorem dX6_letter_0 : decode cX6_letter 0 = .ok (.iload_n 1, 1) := by decide +kernel
theorem dX6_letter_1 : decode cX6_letter 1 = .ok (.invokestatic 71, 3) := by decide +kernel
theorem dX6_letter_4 : decode cX6_letter 4 = .ok (.ifCond .ne 5, 3) := by decide +kernel
theorem dX6_letter_7 : decode cX6_letter 7 = .ok (.iconst (-1), 1) := by decide +kernel
theorem dX6_letter_8 : decode cX6_letter 8 = .ok (.ireturn, 1) := by decide +kernel
theorem dX6_letter_9 : decode cX6_letter 9 = .ok (.iload_n 2, 1) := by decide +kernel
theorem dX6_letter_10 : decode cX6_letter 10 = .ok (.iconst (-1), 1) := by decide +kernel
theorem dX6_letter_11 : decode cX6_letter 11 = .ok (.if_icmp .ge 6, 3) := by decide +kernel
theorem dX6_letter_14 : decode cX6_letter 14 = .ok (.bipush (-2), 2) := by decide +kernel
theorem dX6_letter_16 : decode cX6_letter 16 = .ok (.ireturn, 1) := by decide +kernel
theorem dX6_letter_17 : decode cX6_letter 17 = .ok (.aload_n 0, 1) := by decide +kernel
theorem dX6_letter_18 : decode cX6_letter 18 = .ok (.iload_n 1, 1) := by decide +kernel
theorem dX6_letter_19 : decode cX6_letter 19 = .ok (.invokevirtual 105, 3) := by decide +kernel
theorem dX6_letter_22 : decode cX6_letter 22 = .ok (.iload_n 2, 1) := by decide +kernel
theorem dX6_letter_23 : decode cX6_letter 23 = .ok (.iconst (-1), 1) := by decide +kernel
theorem dX6_letter_24 : decode cX6_letter 24 = .ok (.if_icmp .ne 10, 3) := by decide +kernel
theorem dX6_letter_27 : decode cX6_letter 27 = .ok (.aload_n 0, 1) := by decide +kernel
theorem dX6_letter_28 : decode cX6_letter 28 = .ok (.getfield 98, 3) := by decide +kernel
theorem dX6_letter_31 : decode cX6_letter 31 = .ok (.goto 22, 3) := by decide +kernel
theorem dX6_letter_34 : decode cX6_letter 34 = .ok (.iload_n 2, 1) := by decide +kernel
theorem dX6_letter_35 : decode cX6_letter 35 = .ok (.aload_n 0, 1) := by decide +kernel
theorem dX6_letter_36 : decode cX6_letter 36 = .ok (.getfield 98, 3) := by decide +kernel
theorem dX6_letter_39 : decode cX6_letter 39 = .ok (.if_icmp .ge 12, 3) := by decide +kernel
theorem dX6_letter_42 : decode cX6_letter 42 = .ok (.aload_n 0, 1) := by decide +kernel
theorem dX6_letter_43 : decode cX6_letter 43 = .ok (.getfield 39, 3) := by decide +kernel
theorem dX6_letter_46 : decode cX6_letter 46 = .ok (.iload_n 2, 1) := by decide +kernel
theorem dX6_letter_47 : decode cX6_letter 47 = .ok (.iaload, 1) := by decide +kernel
theorem dX6_letter_48 : decode cX6_letter 48 = .ok (.goto 5, 3) := by decide +kernel
theorem dX6_letter_51 : decode cX6_letter 51 = .ok (.bipush (-6), 2) := by decide +kernel
theorem dX6_letter_53 : decode cX6_letter 53 = .ok (.ireturn, 1) := by decide +kernel
theorem dX6_apart_0 : decode cX6_apart 0 = .ok (.iload_n 0, 1) := by decide +kernel
theorem dX6_apart_1 : decode cX6_apart 1 = .ok (.bipush 10, 2) := by decide +kernel
theorem dX6_apart_3 : decode cX6_apart 3 = .ok (.idiv, 1) := by decide +kernel
theorem dX6_apart_4 : decode cX6_apart 4 = .ok (.iload_n 1, 1) := by decide +kernel
theorem dX6_apart_5 : decode cX6_apart 5 = .ok (.bipush 10, 2) := by decide +kernel
theorem dX6_apart_7 : decode cX6_apart 7 = .ok (.idiv, 1) := by decide +kernel
theorem dX6_apart_8 : decode cX6_apart 8 = .ok (.isub, 1) := by decide +kernel
theorem dX6_apart_9 : decode cX6_apart 9 = .ok (.istore_n 2, 1) := by decide +kernel
theorem dX6_apart_10 : decode cX6_apart 10 = .ok (.iload_n 2, 1) := by decide +kernel
theorem dX6_apart_11 : decode cX6_apart 11 = .ok (.iconst 1, 1) := by decide +kernel
theorem dX6_apart_12 : decode cX6_apart 12 = .ok (.if_icmp .gt 8, 3) := by decide +kernel
theorem dX6_apart_15 : decode cX6_apart 15 = .ok (.iload_n 2, 1) := by decide +kernel
theorem dX6_apart_16 : decode cX6_apart 16 = .ok (.iconst (-1), 1) := by decide +kernel
theorem dX6_apart_17 : decode cX6_apart 17 = .ok (.if_icmp .ge 7, 3) := by decide +kernel
theorem dX6_apart_20 : decode cX6_apart 20 = .ok (.iconst 1, 1) := by decide +kernel
theorem dX6_apart_21 : decode cX6_apart 21 = .ok (.goto 4, 3) := by decide +kernel
theorem dX6_apart_24 : decode cX6_apart 24 = .ok (.iconst 0, 1) := by decide +kernel
theorem dX6_apart_25 : decode cX6_apart 25 = .ok (.ireturn, 1) := by decide +kernel
theorem dX6_removeAt_0 : decode cX6_removeAt 0 = .ok (.iload_n 1, 1) := by decide +kernel
theorem dX6_removeAt_1 : decode cX6_removeAt 1 = .ok (.istore_n 3, 1) := by decide +kernel
theorem dX6_removeAt_2 : decode cX6_removeAt 2 = .ok (.iload_n 3, 1) := by decide +kernel
theorem dX6_removeAt_3 : decode cX6_removeAt 3 = .ok (.iconst 1, 1) := by decide +kernel
theorem dX6_removeAt_4 : decode cX6_removeAt 4 = .ok (.iadd, 1) := by decide +kernel
theorem dX6_removeAt_5 : decode cX6_removeAt 5 = .ok (.iload_n 2, 1) := by decide +kernel
theorem dX6_removeAt_6 : decode cX6_removeAt 6 = .ok (.if_icmp .ge 17, 3) := by decide +kernel
theorem dX6_removeAt_9 : decode cX6_removeAt 9 = .ok (.aload_n 0, 1) := by decide +kernel
theorem dX6_removeAt_10 : decode cX6_removeAt 10 = .ok (.iload_n 3, 1) := by decide +kernel
theorem dX6_removeAt_11 : decode cX6_removeAt 11 = .ok (.aload_n 0, 1) := by decide +kernel
theorem dX6_removeAt_12 : decode cX6_removeAt 12 = .ok (.iload_n 3, 1) := by decide +kernel
theorem dX6_removeAt_13 : decode cX6_removeAt 13 = .ok (.iconst 1, 1) := by decide +kernel
theorem dX6_removeAt_14 : decode cX6_removeAt 14 = .ok (.iadd, 1) := by decide +kernel
theorem dX6_removeAt_15 : decode cX6_removeAt 15 = .ok (.iaload, 1) := by decide +kernel
theorem dX6_removeAt_16 : decode cX6_removeAt 16 = .ok (.iastore, 1) := by decide +kernel
theorem dX6_removeAt_17 : decode cX6_removeAt 17 = .ok (.iinc 3 1, 3) := by decide +kernel
theorem dX6_removeAt_20 : decode cX6_removeAt 20 = .ok (.goto (-18), 3) := by decide +kernel
theorem dX6_removeAt_23 : decode cX6_removeAt 23 = .ok (.return_, 1) := by decide +kernel
theorem dX6_addLeft_0 : decode cX6_addLeft 0 = .ok (.aload_n 0, 1) := by decide +kernel
theorem dX6_addLeft_1 : decode cX6_addLeft 1 = .ok (.getfield 131, 3) := by decide +kernel
theorem dX6_addLeft_4 : decode cX6_addLeft 4 = .ok (.iconst 1, 1) := by decide +kernel
theorem dX6_addLeft_5 : decode cX6_addLeft 5 = .ok (.isub, 1) := by decide +kernel
theorem dX6_addLeft_6 : decode cX6_addLeft 6 = .ok (.istore_n 2, 1) := by decide +kernel
theorem dX6_addLeft_7 : decode cX6_addLeft 7 = .ok (.iload_n 2, 1) := by decide +kernel
theorem dX6_addLeft_8 : decode cX6_addLeft 8 = .ok (.ifCond .lt 22, 3) := by decide +kernel
theorem dX6_addLeft_11 : decode cX6_addLeft 11 = .ok (.aload_n 0, 1) := by decide +kernel
theorem dX6_addLeft_12 : decode cX6_addLeft 12 = .ok (.getfield 48, 3) := by decide +kernel
theorem dX6_addLeft_15 : decode cX6_addLeft 15 = .ok (.iload_n 2, 1) := by decide +kernel
theorem dX6_addLeft_16 : decode cX6_addLeft 16 = .ok (.iaload, 1) := by decide +kernel
theorem dX6_addLeft_17 : decode cX6_addLeft 17 = .ok (.iload_n 1, 1) := by decide +kernel
theorem dX6_addLeft_18 : decode cX6_addLeft 18 = .ok (.invokestatic 134, 3) := by decide +kernel
theorem dX6_addLeft_21 : decode cX6_addLeft 21 = .ok (.ifCond .eq 9, 3) := by decide +kernel
theorem dX6_addLeft_24 : decode cX6_addLeft 24 = .ok (.iinc 2 (-1), 3) := by decide +kernel
theorem dX6_addLeft_27 : decode cX6_addLeft 27 = .ok (.goto (-20), 3) := by decide +kernel
theorem dX6_addLeft_30 : decode cX6_addLeft 30 = .ok (.iload_n 2, 1) := by decide +kernel
theorem dX6_addLeft_31 : decode cX6_addLeft 31 = .ok (.ifCond .lt 54, 3) := by decide +kernel
theorem dX6_addLeft_34 : decode cX6_addLeft 34 = .ok (.aload_n 0, 1) := by decide +kernel
theorem dX6_addLeft_35 : decode cX6_addLeft 35 = .ok (.getfield 48, 3) := by decide +kernel
theorem dX6_addLeft_38 : decode cX6_addLeft 38 = .ok (.iload_n 2, 1) := by decide +kernel
theorem dX6_addLeft_39 : decode cX6_addLeft 39 = .ok (.iaload, 1) := by decide +kernel
theorem dX6_addLeft_40 : decode cX6_addLeft 40 = .ok (.bipush 10, 2) := by decide +kernel
theorem dX6_addLeft_42 : decode cX6_addLeft 42 = .ok (.idiv, 1) := by decide +kernel
theorem dX6_addLeft_43 : decode cX6_addLeft 43 = .ok (.iload_n 1, 1) := by decide +kernel
theorem dX6_addLeft_44 : decode cX6_addLeft 44 = .ok (.bipush 10, 2) := by decide +kernel
theorem dX6_addLeft_46 : decode cX6_addLeft 46 = .ok (.idiv, 1) := by decide +kernel
theorem dX6_addLeft_47 : decode cX6_addLeft 47 = .ok (.if_icmp .ne 38, 3) := by decide +kernel
theorem dX6_addLeft_50 : decode cX6_addLeft 50 = .ok (.aload_n 0, 1) := by decide +kernel
theorem dX6_addLeft_51 : decode cX6_addLeft 51 = .ok (.getfield 48, 3) := by decide +kernel
theorem dX6_addLeft_54 : decode cX6_addLeft 54 = .ok (.iload_n 2, 1) := by decide +kernel
theorem dX6_addLeft_55 : decode cX6_addLeft 55 = .ok (.iaload, 1) := by decide +kernel
theorem dX6_addLeft_56 : decode cX6_addLeft 56 = .ok (.iload_n 1, 1) := by decide +kernel
theorem dX6_addLeft_57 : decode cX6_addLeft 57 = .ok (.if_icmp .eq 28, 3) := by decide +kernel
theorem dX6_addLeft_60 : decode cX6_addLeft 60 = .ok (.aload_n 0, 1) := by decide +kernel
theorem dX6_addLeft_61 : decode cX6_addLeft 61 = .ok (.getfield 48, 3) := by decide +kernel
theorem dX6_addLeft_64 : decode cX6_addLeft 64 = .ok (.iload_n 2, 1) := by decide +kernel
theorem dX6_addLeft_65 : decode cX6_addLeft 65 = .ok (.aload_n 0, 1) := by decide +kernel
theorem dX6_addLeft_66 : decode cX6_addLeft 66 = .ok (.getfield 131, 3) := by decide +kernel
theorem dX6_addLeft_69 : decode cX6_addLeft 69 = .ok (.invokestatic 138, 3) := by decide +kernel
theorem dX6_addLeft_72 : decode cX6_addLeft 72 = .ok (.aload_n 0, 1) := by decide +kernel
theorem dX6_addLeft_73 : decode cX6_addLeft 73 = .ok (.dup, 1) := by decide +kernel
theorem dX6_addLeft_74 : decode cX6_addLeft 74 = .ok (.getfield 131, 3) := by decide +kernel
theorem dX6_addLeft_77 : decode cX6_addLeft 77 = .ok (.iconst 1, 1) := by decide +kernel
theorem dX6_addLeft_78 : decode cX6_addLeft 78 = .ok (.isub, 1) := by decide +kernel
theorem dX6_addLeft_79 : decode cX6_addLeft 79 = .ok (.putfield 131, 3) := by decide +kernel
theorem dX6_addLeft_82 : decode cX6_addLeft 82 = .ok (.goto 23, 3) := by decide +kernel
theorem dX6_addLeft_85 : decode cX6_addLeft 85 = .ok (.aload_n 0, 1) := by decide +kernel
theorem dX6_addLeft_86 : decode cX6_addLeft 86 = .ok (.getfield 48, 3) := by decide +kernel
theorem dX6_addLeft_89 : decode cX6_addLeft 89 = .ok (.aload_n 0, 1) := by decide +kernel
theorem dX6_addLeft_90 : decode cX6_addLeft 90 = .ok (.getfield 131, 3) := by decide +kernel
theorem dX6_addLeft_93 : decode cX6_addLeft 93 = .ok (.iload_n 1, 1) := by decide +kernel
theorem dX6_addLeft_94 : decode cX6_addLeft 94 = .ok (.iastore, 1) := by decide +kernel
theorem dX6_addLeft_95 : decode cX6_addLeft 95 = .ok (.aload_n 0, 1) := by decide +kernel
theorem dX6_addLeft_96 : decode cX6_addLeft 96 = .ok (.dup, 1) := by decide +kernel
theorem dX6_addLeft_97 : decode cX6_addLeft 97 = .ok (.getfield 131, 3) := by decide +kernel
theorem dX6_addLeft_100 : decode cX6_addLeft 100 = .ok (.iconst 1, 1) := by decide +kernel
theorem dX6_addLeft_101 : decode cX6_addLeft 101 = .ok (.iadd, 1) := by decide +kernel
theorem dX6_addLeft_102 : decode cX6_addLeft 102 = .ok (.putfield 131, 3) := by decide +kernel
theorem dX6_addLeft_105 : decode cX6_addLeft 105 = .ok (.return_, 1) := by decide +kernel
theorem dX6_front_0 : decode cX6_front 0 = .ok (.bipush (-6), 2) := by decide +kernel
theorem dX6_front_2 : decode cX6_front 2 = .ok (.istore_n 1, 1) := by decide +kernel
theorem dX6_front_3 : decode cX6_front 3 = .ok (.iconst 0, 1) := by decide +kernel
theorem dX6_front_4 : decode cX6_front 4 = .ok (.istore_n 2, 1) := by decide +kernel
theorem dX6_front_5 : decode cX6_front 5 = .ok (.iload_n 2, 1) := by decide +kernel
theorem dX6_front_6 : decode cX6_front 6 = .ok (.aload_n 0, 1) := by decide +kernel
theorem dX6_front_7 : decode cX6_front 7 = .ok (.getfield 131, 3) := by decide +kernel
theorem dX6_front_10 : decode cX6_front 10 = .ok (.if_icmp .ge 76, 3) := by decide +kernel
theorem dX6_front_13 : decode cX6_front 13 = .ok (.iconst 1, 1) := by decide +kernel
theorem dX6_front_14 : decode cX6_front 14 = .ok (.istore_n 3, 1) := by decide +kernel
theorem dX6_front_15 : decode cX6_front 15 = .ok (.iconst 0, 1) := by decide +kernel
theorem dX6_front_16 : decode cX6_front 16 = .ok (.istore 4, 2) := by decide +kernel
theorem dX6_front_18 : decode cX6_front 18 = .ok (.iload 4, 2) := by decide +kernel
theorem dX6_front_20 : decode cX6_front 20 = .ok (.iload_n 2, 1) := by decide +kernel
theorem dX6_front_21 : decode cX6_front 21 = .ok (.if_icmp .ge 30, 3) := by decide +kernel
theorem dX6_front_24 : decode cX6_front 24 = .ok (.iload_n 3, 1) := by decide +kernel
theorem dX6_front_25 : decode cX6_front 25 = .ok (.ifCond .eq 26, 3) := by decide +kernel
theorem dX6_front_28 : decode cX6_front 28 = .ok (.aload_n 0, 1) := by decide +kernel
theorem dX6_front_29 : decode cX6_front 29 = .ok (.getfield 48, 3) := by decide +kernel
theorem dX6_front_32 : decode cX6_front 32 = .ok (.iload 4, 2) := by decide +kernel
theorem dX6_front_34 : decode cX6_front 34 = .ok (.iaload, 1) := by decide +kernel
theorem dX6_front_35 : decode cX6_front 35 = .ok (.aload_n 0, 1) := by decide +kernel
theorem dX6_front_36 : decode cX6_front 36 = .ok (.getfield 48, 3) := by decide +kernel
theorem dX6_front_39 : decode cX6_front 39 = .ok (.iload_n 2, 1) := by decide +kernel
theorem dX6_front_40 : decode cX6_front 40 = .ok (.iaload, 1) := by decide +kernel
theorem dX6_front_41 : decode cX6_front 41 = .ok (.invokestatic 134, 3) := by decide +kernel
theorem dX6_front_44 : decode cX6_front 44 = .ok (.istore_n 3, 1) := by decide +kernel
theorem dX6_front_45 : decode cX6_front 45 = .ok (.iinc 4 1, 3) := by decide +kernel
theorem dX6_front_48 : decode cX6_front 48 = .ok (.goto (-30), 3) := by decide +kernel
theorem dX6_front_51 : decode cX6_front 51 = .ok (.iload_n 3, 1) := by decide +kernel
theorem dX6_front_52 : decode cX6_front 52 = .ok (.ifCond .eq 26, 3) := by decide +kernel
theorem dX6_front_55 : decode cX6_front 55 = .ok (.iload_n 1, 1) := by decide +kernel
theorem dX6_front_56 : decode cX6_front 56 = .ok (.ifCond .lt 18, 3) := by decide +kernel
theorem dX6_front_59 : decode cX6_front 59 = .ok (.aload_n 0, 1) := by decide +kernel
theorem dX6_front_60 : decode cX6_front 60 = .ok (.getfield 48, 3) := by decide +kernel
theorem dX6_front_63 : decode cX6_front 63 = .ok (.iload_n 2, 1) := by decide +kernel
theorem dX6_front_64 : decode cX6_front 64 = .ok (.iaload, 1) := by decide +kernel
theorem dX6_front_65 : decode cX6_front 65 = .ok (.aload_n 0, 1) := by decide +kernel
theorem dX6_front_66 : decode cX6_front 66 = .ok (.getfield 48, 3) := by decide +kernel
theorem dX6_front_69 : decode cX6_front 69 = .ok (.iload_n 1, 1) := by decide +kernel
theorem dX6_front_70 : decode cX6_front 70 = .ok (.iaload, 1) := by decide +kernel
theorem dX6_front_71 : decode cX6_front 71 = .ok (.if_icmp .ge 7, 3) := by decide +kernel
theorem dX6_front_74 : decode cX6_front 74 = .ok (.iload_n 2, 1) := by decide +kernel
theorem dX6_front_75 : decode cX6_front 75 = .ok (.goto 4, 3) := by decide +kernel
theorem dX6_front_78 : decode cX6_front 78 = .ok (.iload_n 1, 1) := by decide +kernel
theorem dX6_front_79 : decode cX6_front 79 = .ok (.istore_n 1, 1) := by decide +kernel
theorem dX6_front_80 : decode cX6_front 80 = .ok (.iinc 2 1, 3) := by decide +kernel
theorem dX6_front_83 : decode cX6_front 83 = .ok (.goto (-78), 3) := by decide +kernel
theorem dX6_front_86 : decode cX6_front 86 = .ok (.iload_n 1, 1) := by decide +kernel
theorem dX6_front_87 : decode cX6_front 87 = .ok (.ireturn, 1) := by decide +kernel
theorem dX6_layShort_0 : decode cX6_layShort 0 = .ok (.aload_n 0, 1) := by decide +kernel
theorem dX6_layShort_1 : decode cX6_layShort 1 = .ok (.iload_n 1, 1) := by decide +kernel
theorem dX6_layShort_2 : decode cX6_layShort 2 = .ok (.invokevirtual 105, 3) := by decide +kernel
theorem dX6_layShort_5 : decode cX6_layShort 5 = .ok (.aload_n 0, 1) := by decide +kernel
theorem dX6_layShort_6 : decode cX6_layShort 6 = .ok (.iconst 0, 1) := by decide +kernel
theorem dX6_layShort_7 : decode cX6_layShort 7 = .ok (.putfield 131, 3) := by decide +kernel
theorem dX6_layShort_10 : decode cX6_layShort 10 = .ok (.iconst 0, 1) := by decide +kernel
theorem dX6_layShort_11 : decode cX6_layShort 11 = .ok (.istore_n 2, 1) := by decide +kernel
theorem dX6_layShort_12 : decode cX6_layShort 12 = .ok (.iload_n 2, 1) := by decide +kernel
theorem dX6_layShort_13 : decode cX6_layShort 13 = .ok (.aload_n 0, 1) := by decide +kernel
theorem dX6_layShort_14 : decode cX6_layShort 14 = .ok (.getfield 98, 3) := by decide +kernel
theorem dX6_layShort_17 : decode cX6_layShort 17 = .ok (.if_icmp .ge 19, 3) := by decide +kernel
theorem dX6_layShort_20 : decode cX6_layShort 20 = .ok (.aload_n 0, 1) := by decide +kernel
theorem dX6_layShort_21 : decode cX6_layShort 21 = .ok (.aload_n 0, 1) := by decide +kernel
theorem dX6_layShort_22 : decode cX6_layShort 22 = .ok (.getfield 39, 3) := by decide +kernel
theorem dX6_layShort_25 : decode cX6_layShort 25 = .ok (.iload_n 2, 1) := by decide +kernel
theorem dX6_layShort_26 : decode cX6_layShort 26 = .ok (.iaload, 1) := by decide +kernel
theorem dX6_layShort_27 : decode cX6_layShort 27 = .ok (.invokevirtual 142, 3) := by decide +kernel
theorem dX6_layShort_30 : decode cX6_layShort 30 = .ok (.iinc 2 1, 3) := by decide +kernel
theorem dX6_layShort_33 : decode cX6_layShort 33 = .ok (.goto (-21), 3) := by decide +kernel
theorem dX6_layShort_36 : decode cX6_layShort 36 = .ok (.aload_n 0, 1) := by decide +kernel
theorem dX6_layShort_37 : decode cX6_layShort 37 = .ok (.iconst 0, 1) := by decide +kernel
theorem dX6_layShort_38 : decode cX6_layShort 38 = .ok (.putfield 145, 3) := by decide +kernel
theorem dX6_layShort_41 : decode cX6_layShort 41 = .ok (.aload_n 0, 1) := by decide +kernel
theorem dX6_layShort_42 : decode cX6_layShort 42 = .ok (.getfield 131, 3) := by decide +kernel
theorem dX6_layShort_45 : decode cX6_layShort 45 = .ok (.ifCond .le 58, 3) := by decide +kernel
theorem dX6_layShort_48 : decode cX6_layShort 48 = .ok (.aload_n 0, 1) := by decide +kernel
theorem dX6_layShort_49 : decode cX6_layShort 49 = .ok (.invokevirtual 148, 3) := by decide +kernel
theorem dX6_layShort_52 : decode cX6_layShort 52 = .ok (.istore_n 2, 1) := by decide +kernel
theorem dX6_layShort_53 : decode cX6_layShort 53 = .ok (.aload_n 0, 1) := by decide +kernel
theorem dX6_layShort_54 : decode cX6_layShort 54 = .ok (.getfield 51, 3) := by decide +kernel
theorem dX6_layShort_57 : decode cX6_layShort 57 = .ok (.aload_n 0, 1) := by decide +kernel
theorem dX6_layShort_58 : decode cX6_layShort 58 = .ok (.getfield 145, 3) := by decide +kernel
theorem dX6_layShort_61 : decode cX6_layShort 61 = .ok (.aload_n 0, 1) := by decide +kernel
theorem dX6_layShort_62 : decode cX6_layShort 62 = .ok (.getfield 48, 3) := by decide +kernel
theorem dX6_layShort_65 : decode cX6_layShort 65 = .ok (.iload_n 2, 1) := by decide +kernel
theorem dX6_layShort_66 : decode cX6_layShort 66 = .ok (.iaload, 1) := by decide +kernel
theorem dX6_layShort_67 : decode cX6_layShort 67 = .ok (.iastore, 1) := by decide +kernel
theorem dX6_layShort_68 : decode cX6_layShort 68 = .ok (.aload_n 0, 1) := by decide +kernel
theorem dX6_layShort_69 : decode cX6_layShort 69 = .ok (.dup, 1) := by decide +kernel
theorem dX6_layShort_70 : decode cX6_layShort 70 = .ok (.getfield 145, 3) := by decide +kernel
theorem dX6_layShort_73 : decode cX6_layShort 73 = .ok (.iconst 1, 1) := by decide +kernel
theorem dX6_layShort_74 : decode cX6_layShort 74 = .ok (.iadd, 1) := by decide +kernel
theorem dX6_layShort_75 : decode cX6_layShort 75 = .ok (.putfield 145, 3) := by decide +kernel
theorem dX6_layShort_78 : decode cX6_layShort 78 = .ok (.aload_n 0, 1) := by decide +kernel
theorem dX6_layShort_79 : decode cX6_layShort 79 = .ok (.getfield 48, 3) := by decide +kernel
theorem dX6_layShort_82 : decode cX6_layShort 82 = .ok (.iload_n 2, 1) := by decide +kernel
theorem dX6_layShort_83 : decode cX6_layShort 83 = .ok (.aload_n 0, 1) := by decide +kernel
theorem dX6_layShort_84 : decode cX6_layShort 84 = .ok (.getfield 131, 3) := by decide +kernel
theorem dX6_layShort_87 : decode cX6_layShort 87 = .ok (.invokestatic 138, 3) := by decide +kernel
theorem dX6_layShort_90 : decode cX6_layShort 90 = .ok (.aload_n 0, 1) := by decide +kernel
theorem dX6_layShort_91 : decode cX6_layShort 91 = .ok (.dup, 1) := by decide +kernel
theorem dX6_layShort_92 : decode cX6_layShort 92 = .ok (.getfield 131, 3) := by decide +kernel
theorem dX6_layShort_95 : decode cX6_layShort 95 = .ok (.iconst 1, 1) := by decide +kernel
theorem dX6_layShort_96 : decode cX6_layShort 96 = .ok (.isub, 1) := by decide +kernel
theorem dX6_layShort_97 : decode cX6_layShort 97 = .ok (.putfield 131, 3) := by decide +kernel
theorem dX6_layShort_100 : decode cX6_layShort 100 = .ok (.goto (-59), 3) := by decide +kernel
theorem dX6_layShort_103 : decode cX6_layShort 103 = .ok (.return_, 1) := by decide +kernel
theorem dX6_shortest_0 : decode cX6_shortest 0 = .ok (.iload_n 1, 1) := by decide +kernel
theorem dX6_shortest_1 : decode cX6_shortest 1 = .ok (.invokestatic 71, 3) := by decide +kernel
theorem dX6_shortest_4 : decode cX6_shortest 4 = .ok (.ifCond .ne 5, 3) := by decide +kernel
theorem dX6_shortest_7 : decode cX6_shortest 7 = .ok (.iconst (-1), 1) := by decide +kernel
theorem dX6_shortest_8 : decode cX6_shortest 8 = .ok (.ireturn, 1) := by decide +kernel
theorem dX6_shortest_9 : decode cX6_shortest 9 = .ok (.iload_n 2, 1) := by decide +kernel
theorem dX6_shortest_10 : decode cX6_shortest 10 = .ok (.iconst (-1), 1) := by decide +kernel
theorem dX6_shortest_11 : decode cX6_shortest 11 = .ok (.if_icmp .ge 6, 3) := by decide +kernel
theorem dX6_shortest_14 : decode cX6_shortest 14 = .ok (.bipush (-2), 2) := by decide +kernel
theorem dX6_shortest_16 : decode cX6_shortest 16 = .ok (.ireturn, 1) := by decide +kernel
theorem dX6_shortest_17 : decode cX6_shortest 17 = .ok (.aload_n 0, 1) := by decide +kernel
theorem dX6_shortest_18 : decode cX6_shortest 18 = .ok (.iload_n 1, 1) := by decide +kernel
theorem dX6_shortest_19 : decode cX6_shortest 19 = .ok (.invokevirtual 151, 3) := by decide +kernel
theorem dX6_shortest_22 : decode cX6_shortest 22 = .ok (.iload_n 2, 1) := by decide +kernel
theorem dX6_shortest_23 : decode cX6_shortest 23 = .ok (.iconst (-1), 1) := by decide +kernel
theorem dX6_shortest_24 : decode cX6_shortest 24 = .ok (.if_icmp .ne 10, 3) := by decide +kernel
theorem dX6_shortest_27 : decode cX6_shortest 27 = .ok (.aload_n 0, 1) := by decide +kernel
theorem dX6_shortest_28 : decode cX6_shortest 28 = .ok (.getfield 145, 3) := by decide +kernel
theorem dX6_shortest_31 : decode cX6_shortest 31 = .ok (.goto 22, 3) := by decide +kernel
theorem dX6_shortest_34 : decode cX6_shortest 34 = .ok (.iload_n 2, 1) := by decide +kernel
theorem dX6_shortest_35 : decode cX6_shortest 35 = .ok (.aload_n 0, 1) := by decide +kernel
theorem dX6_shortest_36 : decode cX6_shortest 36 = .ok (.getfield 145, 3) := by decide +kernel
theorem dX6_shortest_39 : decode cX6_shortest 39 = .ok (.if_icmp .ge 12, 3) := by decide +kernel
theorem dX6_shortest_42 : decode cX6_shortest 42 = .ok (.aload_n 0, 1) := by decide +kernel
theorem dX6_shortest_43 : decode cX6_shortest 43 = .ok (.getfield 51, 3) := by decide +kernel
theorem dX6_shortest_46 : decode cX6_shortest 46 = .ok (.iload_n 2, 1) := by decide +kernel
theorem dX6_shortest_47 : decode cX6_shortest 47 = .ok (.iaload, 1) := by decide +kernel
theorem dX6_shortest_48 : decode cX6_shortest 48 = .ok (.goto 5, 3) := by decide +kernel
theorem dX6_shortest_51 : decode cX6_shortest 51 = .ok (.bipush (-6), 2) := by decide +kernel
theorem dX6_shortest_53 : decode cX6_shortest 53 = .ok (.ireturn, 1) := by decide +kernel
theorem dX6_same_0 : decode cX6_same 0 = .ok (.iload_n 1, 1) := by decide +kernel
theorem dX6_same_1 : decode cX6_same 1 = .ok (.invokestatic 71, 3) := by decide +kernel
theorem dX6_same_4 : decode cX6_same 4 = .ok (.ifCond .eq 10, 3) := by decide +kernel
theorem dX6_same_7 : decode cX6_same 7 = .ok (.iload_n 2, 1) := by decide +kernel
theorem dX6_same_8 : decode cX6_same 8 = .ok (.invokestatic 71, 3) := by decide +kernel
theorem dX6_same_11 : decode cX6_same 11 = .ok (.ifCond .ne 5, 3) := by decide +kernel
theorem dX6_same_14 : decode cX6_same 14 = .ok (.iconst (-1), 1) := by decide +kernel
theorem dX6_same_15 : decode cX6_same 15 = .ok (.ireturn, 1) := by decide +kernel
theorem dX6_same_16 : decode cX6_same 16 = .ok (.aload_n 0, 1) := by decide +kernel
theorem dX6_same_17 : decode cX6_same 17 = .ok (.iload_n 2, 1) := by decide +kernel
theorem dX6_same_18 : decode cX6_same 18 = .ok (.invokevirtual 151, 3) := by decide +kernel
theorem dX6_same_21 : decode cX6_same 21 = .ok (.aload_n 0, 1) := by decide +kernel
theorem dX6_same_22 : decode cX6_same 22 = .ok (.getfield 145, 3) := by decide +kernel
theorem dX6_same_25 : decode cX6_same 25 = .ok (.istore_n 3, 1) := by decide +kernel
theorem dX6_same_26 : decode cX6_same 26 = .ok (.iconst 0, 1) := by decide +kernel
theorem dX6_same_27 : decode cX6_same 27 = .ok (.istore 4, 2) := by decide +kernel
theorem dX6_same_29 : decode cX6_same 29 = .ok (.iload 4, 2) := by decide +kernel
theorem dX6_same_31 : decode cX6_same 31 = .ok (.iload_n 3, 1) := by decide +kernel
theorem dX6_same_32 : decode cX6_same 32 = .ok (.if_icmp .ge 23, 3) := by decide +kernel
theorem dX6_same_35 : decode cX6_same 35 = .ok (.aload_n 0, 1) := by decide +kernel
theorem dX6_same_36 : decode cX6_same 36 = .ok (.getfield 54, 3) := by decide +kernel
theorem dX6_same_39 : decode cX6_same 39 = .ok (.iload 4, 2) := by decide +kernel
theorem dX6_same_41 : decode cX6_same 41 = .ok (.aload_n 0, 1) := by decide +kernel
theorem dX6_same_42 : decode cX6_same 42 = .ok (.getfield 51, 3) := by decide +kernel
theorem dX6_same_45 : decode cX6_same 45 = .ok (.iload 4, 2) := by decide +kernel
theorem dX6_same_47 : decode cX6_same 47 = .ok (.iaload, 1) := by decide +kernel
theorem dX6_same_48 : decode cX6_same 48 = .ok (.iastore, 1) := by decide +kernel
theorem dX6_same_49 : decode cX6_same 49 = .ok (.iinc 4 1, 3) := by decide +kernel
theorem dX6_same_52 : decode cX6_same 52 = .ok (.goto (-23), 3) := by decide +kernel
theorem dX6_same_55 : decode cX6_same 55 = .ok (.aload_n 0, 1) := by decide +kernel
theorem dX6_same_56 : decode cX6_same 56 = .ok (.iload_n 1, 1) := by decide +kernel
theorem dX6_same_57 : decode cX6_same 57 = .ok (.invokevirtual 151, 3) := by decide +kernel
theorem dX6_same_60 : decode cX6_same 60 = .ok (.iload_n 3, 1) := by decide +kernel
theorem dX6_same_61 : decode cX6_same 61 = .ok (.aload_n 0, 1) := by decide +kernel
theorem dX6_same_62 : decode cX6_same 62 = .ok (.getfield 145, 3) := by decide +kernel
theorem dX6_same_65 : decode cX6_same 65 = .ok (.if_icmp .ne 7, 3) := by decide +kernel
theorem dX6_same_68 : decode cX6_same 68 = .ok (.iconst 1, 1) := by decide +kernel
theorem dX6_same_69 : decode cX6_same 69 = .ok (.goto 4, 3) := by decide +kernel
theorem dX6_same_72 : decode cX6_same 72 = .ok (.iconst 0, 1) := by decide +kernel
theorem dX6_same_73 : decode cX6_same 73 = .ok (.istore 4, 2) := by decide +kernel
theorem dX6_same_75 : decode cX6_same 75 = .ok (.iconst 0, 1) := by decide +kernel
theorem dX6_same_76 : decode cX6_same 76 = .ok (.istore 5, 2) := by decide +kernel
theorem dX6_same_78 : decode cX6_same 78 = .ok (.iload 5, 2) := by decide +kernel
theorem dX6_same_80 : decode cX6_same 80 = .ok (.iload_n 3, 1) := by decide +kernel
theorem dX6_same_81 : decode cX6_same 81 = .ok (.if_icmp .ge 38, 3) := by decide +kernel
theorem dX6_same_84 : decode cX6_same 84 = .ok (.iload 4, 2) := by decide +kernel
theorem dX6_same_86 : decode cX6_same 86 = .ok (.ifCond .eq 33, 3) := by decide +kernel
theorem dX6_same_89 : decode cX6_same 89 = .ok (.aload_n 0, 1) := by decide +kernel
theorem dX6_same_90 : decode cX6_same 90 = .ok (.getfield 54, 3) := by decide +kernel
theorem dX6_same_93 : decode cX6_same 93 = .ok (.iload 5, 2) := by decide +kernel
theorem dX6_same_95 : decode cX6_same 95 = .ok (.iaload, 1) := by decide +kernel
theorem dX6_same_96 : decode cX6_same 96 = .ok (.aload_n 0, 1) := by decide +kernel
theorem dX6_same_97 : decode cX6_same 97 = .ok (.getfield 51, 3) := by decide +kernel
end
section
theorem dX6_same_100 : decode cX6_same 100 = .ok (.iload 5, 2) := by decide +kernel
theorem dX6_same_102 : decode cX6_same 102 = .ok (.iaload, 1) := by decide +kernel
theorem dX6_same_103 : decode cX6_same 103 = .ok (.if_icmp .ne 7, 3) := by decide +kernel
theorem dX6_same_106 : decode cX6_same 106 = .ok (.iconst 1, 1) := by decide +kernel
theorem dX6_same_107 : decode cX6_same 107 = .ok (.goto 4, 3) := by decide +kernel
theorem dX6_same_110 : decode cX6_same 110 = .ok (.iconst 0, 1) := by decide +kernel
theorem dX6_same_111 : decode cX6_same 111 = .ok (.istore 4, 2) := by decide +kernel
theorem dX6_same_113 : decode cX6_same 113 = .ok (.iinc 5 1, 3) := by decide +kernel
theorem dX6_same_116 : decode cX6_same 116 = .ok (.goto (-38), 3) := by decide +kernel
theorem dX6_same_119 : decode cX6_same 119 = .ok (.iload 4, 2) := by decide +kernel
theorem dX6_same_121 : decode cX6_same 121 = .ok (.ifCond .eq 7, 3) := by decide +kernel
theorem dX6_same_124 : decode cX6_same 124 = .ok (.iconst 1, 1) := by decide +kernel
theorem dX6_same_125 : decode cX6_same 125 = .ok (.goto 4, 3) := by decide +kernel
theorem dX6_same_128 : decode cX6_same 128 = .ok (.iconst 0, 1) := by decide +kernel
theorem dX6_same_129 : decode cX6_same 129 = .ok (.ireturn, 1) := by decide +kernel
theorem dX6_comesAgain_0 : decode cX6_comesAgain 0 = .ok (.aload_n 0, 1) := by decide +kernel
theorem dX6_comesAgain_1 : decode cX6_comesAgain 1 = .ok (.iload_n 1, 1) := by decide +kernel
theorem dX6_comesAgain_2 : decode cX6_comesAgain 2 = .ok (.invokevirtual 86, 3) := by decide +kernel
theorem dX6_comesAgain_5 : decode cX6_comesAgain 5 = .ok (.iload_n 2, 1) := by decide +kernel
theorem dX6_comesAgain_6 : decode cX6_comesAgain 6 = .ok (.irem, 1) := by decide +kernel
theorem dX6_comesAgain_7 : decode cX6_comesAgain 7 = .ok (.ifCond .ne 7, 3) := by decide +kernel
theorem dX6_comesAgain_10 : decode cX6_comesAgain 10 = .ok (.iconst 1, 1) := by decide +kernel
theorem dX6_comesAgain_11 : decode cX6_comesAgain 11 = .ok (.goto 4, 3) := by decide +kernel
theorem dX6_comesAgain_14 : decode cX6_comesAgain 14 = .ok (.iconst 0, 1) := by decide +kernel
theorem dX6_comesAgain_15 : decode cX6_comesAgain 15 = .ok (.istore_n 3, 1) := by decide +kernel
theorem dX6_comesAgain_16 : decode cX6_comesAgain 16 = .ok (.iload_n 2, 1) := by decide +kernel
theorem dX6_comesAgain_17 : decode cX6_comesAgain 17 = .ok (.istore 4, 2) := by decide +kernel
theorem dX6_comesAgain_19 : decode cX6_comesAgain 19 = .ok (.iload 4, 2) := by decide +kernel
theorem dX6_comesAgain_21 : decode cX6_comesAgain 21 = .ok (.aload_n 0, 1) := by decide +kernel
theorem dX6_comesAgain_22 : decode cX6_comesAgain 22 = .ok (.iload_n 1, 1) := by decide +kernel
theorem dX6_comesAgain_23 : decode cX6_comesAgain 23 = .ok (.invokevirtual 86, 3) := by decide +kernel
theorem dX6_comesAgain_26 : decode cX6_comesAgain 26 = .ok (.if_icmp .ge 48, 3) := by decide +kernel
theorem dX6_comesAgain_29 : decode cX6_comesAgain 29 = .ok (.iload_n 3, 1) := by decide +kernel
theorem dX6_comesAgain_30 : decode cX6_comesAgain 30 = .ok (.ifCond .eq 44, 3) := by decide +kernel
theorem dX6_comesAgain_33 : decode cX6_comesAgain 33 = .ok (.aload_n 0, 1) := by decide +kernel
theorem dX6_comesAgain_34 : decode cX6_comesAgain 34 = .ok (.getfield 7, 3) := by decide +kernel
theorem dX6_comesAgain_37 : decode cX6_comesAgain 37 = .ok (.bipush 60, 2) := by decide +kernel
theorem dX6_comesAgain_39 : decode cX6_comesAgain 39 = .ok (.iload_n 1, 1) := by decide +kernel
theorem dX6_comesAgain_40 : decode cX6_comesAgain 40 = .ok (.imul, 1) := by decide +kernel
theorem dX6_comesAgain_41 : decode cX6_comesAgain 41 = .ok (.iload 4, 2) := by decide +kernel
theorem dX6_comesAgain_43 : decode cX6_comesAgain 43 = .ok (.iadd, 1) := by decide +kernel
theorem dX6_comesAgain_44 : decode cX6_comesAgain 44 = .ok (.iaload, 1) := by decide +kernel
theorem dX6_comesAgain_45 : decode cX6_comesAgain 45 = .ok (.aload_n 0, 1) := by decide +kernel
theorem dX6_comesAgain_46 : decode cX6_comesAgain 46 = .ok (.getfield 7, 3) := by decide +kernel
theorem dX6_comesAgain_49 : decode cX6_comesAgain 49 = .ok (.bipush 60, 2) := by decide +kernel
theorem dX6_comesAgain_51 : decode cX6_comesAgain 51 = .ok (.iload_n 1, 1) := by decide +kernel
theorem dX6_comesAgain_52 : decode cX6_comesAgain 52 = .ok (.imul, 1) := by decide +kernel
theorem dX6_comesAgain_53 : decode cX6_comesAgain 53 = .ok (.iload 4, 2) := by decide +kernel
theorem dX6_comesAgain_55 : decode cX6_comesAgain 55 = .ok (.iadd, 1) := by decide +kernel
theorem dX6_comesAgain_56 : decode cX6_comesAgain 56 = .ok (.iload_n 2, 1) := by decide +kernel
theorem dX6_comesAgain_57 : decode cX6_comesAgain 57 = .ok (.isub, 1) := by decide +kernel
theorem dX6_comesAgain_58 : decode cX6_comesAgain 58 = .ok (.iaload, 1) := by decide +kernel
theorem dX6_comesAgain_59 : decode cX6_comesAgain 59 = .ok (.if_icmp .ne 7, 3) := by decide +kernel
theorem dX6_comesAgain_62 : decode cX6_comesAgain 62 = .ok (.iconst 1, 1) := by decide +kernel
theorem dX6_comesAgain_63 : decode cX6_comesAgain 63 = .ok (.goto 4, 3) := by decide +kernel
theorem dX6_comesAgain_66 : decode cX6_comesAgain 66 = .ok (.iconst 0, 1) := by decide +kernel
theorem dX6_comesAgain_67 : decode cX6_comesAgain 67 = .ok (.istore_n 3, 1) := by decide +kernel
theorem dX6_comesAgain_68 : decode cX6_comesAgain 68 = .ok (.iinc 4 1, 3) := by decide +kernel
theorem dX6_comesAgain_71 : decode cX6_comesAgain 71 = .ok (.goto (-52), 3) := by decide +kernel
theorem dX6_comesAgain_74 : decode cX6_comesAgain 74 = .ok (.iload_n 3, 1) := by decide +kernel
theorem dX6_comesAgain_75 : decode cX6_comesAgain 75 = .ok (.ireturn, 1) := by decide +kernel
theorem dX6_part_0 : decode cX6_part 0 = .ok (.iload_n 1, 1) := by decide +kernel
theorem dX6_part_1 : decode cX6_part 1 = .ok (.invokestatic 71, 3) := by decide +kernel
theorem dX6_part_4 : decode cX6_part 4 = .ok (.ifCond .ne 5, 3) := by decide +kernel
theorem dX6_part_7 : decode cX6_part 7 = .ok (.iconst (-1), 1) := by decide +kernel
theorem dX6_part_8 : decode cX6_part 8 = .ok (.ireturn, 1) := by decide +kernel
theorem dX6_part_9 : decode cX6_part 9 = .ok (.aload_n 0, 1) := by decide +kernel
theorem dX6_part_10 : decode cX6_part 10 = .ok (.iload_n 1, 1) := by decide +kernel
theorem dX6_part_11 : decode cX6_part 11 = .ok (.invokevirtual 86, 3) := by decide +kernel
theorem dX6_part_14 : decode cX6_part 14 = .ok (.ifCond .ne 5, 3) := by decide +kernel
theorem dX6_part_17 : decode cX6_part 17 = .ok (.iconst 0, 1) := by decide +kernel
theorem dX6_part_18 : decode cX6_part 18 = .ok (.ireturn, 1) := by decide +kernel
theorem dX6_part_19 : decode cX6_part 19 = .ok (.iconst 1, 1) := by decide +kernel
theorem dX6_part_20 : decode cX6_part 20 = .ok (.istore_n 2, 1) := by decide +kernel
theorem dX6_part_21 : decode cX6_part 21 = .ok (.aload_n 0, 1) := by decide +kernel
theorem dX6_part_22 : decode cX6_part 22 = .ok (.iload_n 1, 1) := by decide +kernel
theorem dX6_part_23 : decode cX6_part 23 = .ok (.iload_n 2, 1) := by decide +kernel
theorem dX6_part_24 : decode cX6_part 24 = .ok (.invokevirtual 154, 3) := by decide +kernel
theorem dX6_part_27 : decode cX6_part 27 = .ok (.ifCond .ne 9, 3) := by decide +kernel
theorem dX6_part_30 : decode cX6_part 30 = .ok (.iinc 2 1, 3) := by decide +kernel
theorem dX6_part_33 : decode cX6_part 33 = .ok (.goto (-12), 3) := by decide +kernel
theorem dX6_part_36 : decode cX6_part 36 = .ok (.iload_n 2, 1) := by decide +kernel
theorem dX6_part_37 : decode cX6_part 37 = .ok (.ireturn, 1) := by decide +kernel
theorem dX6_image_0 : decode cX6_image 0 = .ok (.iload_n 1, 1) := by decide +kernel
theorem dX6_image_1 : decode cX6_image 1 = .ok (.iconst 0, 1) := by decide +kernel
theorem dX6_image_2 : decode cX6_image 2 = .ok (.iconst 1, 1) := by decide +kernel
theorem dX6_image_3 : decode cX6_image 3 = .ok (.invokestatic 57, 3) := by decide +kernel
theorem dX6_image_6 : decode cX6_image 6 = .ok (.ifCond .ne 6, 3) := by decide +kernel
theorem dX6_image_9 : decode cX6_image 9 = .ok (.bipush (-2), 2) := by decide +kernel
theorem dX6_image_11 : decode cX6_image 11 = .ok (.ireturn, 1) := by decide +kernel
theorem dX6_image_12 : decode cX6_image 12 = .ok (.iconst 0, 1) := by decide +kernel
theorem dX6_image_13 : decode cX6_image 13 = .ok (.istore_n 2, 1) := by decide +kernel
theorem dX6_image_14 : decode cX6_image 14 = .ok (.iload_n 2, 1) := by decide +kernel
theorem dX6_image_15 : decode cX6_image 15 = .ok (.sipush 244, 3) := by decide +kernel
theorem dX6_image_18 : decode cX6_image 18 = .ok (.if_icmp .ge 27, 3) := by decide +kernel
theorem dX6_image_21 : decode cX6_image 21 = .ok (.aload_n 0, 1) := by decide +kernel
theorem dX6_image_22 : decode cX6_image 22 = .ok (.getfield 13, 3) := by decide +kernel
theorem dX6_image_25 : decode cX6_image 25 = .ok (.sipush 244, 3) := by decide +kernel
theorem dX6_image_28 : decode cX6_image 28 = .ok (.iload_n 1, 1) := by decide +kernel
theorem dX6_image_29 : decode cX6_image 29 = .ok (.imul, 1) := by decide +kernel
theorem dX6_image_30 : decode cX6_image 30 = .ok (.iload_n 2, 1) := by decide +kernel
theorem dX6_image_31 : decode cX6_image 31 = .ok (.iadd, 1) := by decide +kernel
theorem dX6_image_32 : decode cX6_image 32 = .ok (.aload_n 0, 1) := by decide +kernel
theorem dX6_image_33 : decode cX6_image 33 = .ok (.getfield 7, 3) := by decide +kernel
theorem dX6_image_36 : decode cX6_image 36 = .ok (.iload_n 2, 1) := by decide +kernel
theorem dX6_image_37 : decode cX6_image 37 = .ok (.iaload, 1) := by decide +kernel
theorem dX6_image_38 : decode cX6_image 38 = .ok (.iastore, 1) := by decide +kernel
theorem dX6_image_39 : decode cX6_image 39 = .ok (.iinc 2 1, 3) := by decide +kernel
theorem dX6_image_42 : decode cX6_image 42 = .ok (.goto (-28), 3) := by decide +kernel
theorem dX6_image_45 : decode cX6_image 45 = .ok (.aload_n 0, 1) := by decide +kernel
theorem dX6_image_46 : decode cX6_image 46 = .ok (.getfield 16, 3) := by decide +kernel
theorem dX6_image_49 : decode cX6_image 49 = .ok (.iload_n 1, 1) := by decide +kernel
theorem dX6_image_50 : decode cX6_image 50 = .ok (.iconst 1, 1) := by decide +kernel
theorem dX6_image_51 : decode cX6_image 51 = .ok (.bastore, 1) := by decide +kernel
theorem dX6_image_52 : decode cX6_image 52 = .ok (.iconst 1, 1) := by decide +kernel
theorem dX6_image_53 : decode cX6_image 53 = .ok (.ireturn, 1) := by decide +kernel
theorem dX6_restore_0 : decode cX6_restore 0 = .ok (.iload_n 1, 1) := by decide +kernel
theorem dX6_restore_1 : decode cX6_restore 1 = .ok (.iconst 0, 1) := by decide +kernel
theorem dX6_restore_2 : decode cX6_restore 2 = .ok (.iconst 1, 1) := by decide +kernel
theorem dX6_restore_3 : decode cX6_restore 3 = .ok (.invokestatic 57, 3) := by decide +kernel
theorem dX6_restore_6 : decode cX6_restore 6 = .ok (.ifCond .ne 6, 3) := by decide +kernel
theorem dX6_restore_9 : decode cX6_restore 9 = .ok (.bipush (-2), 2) := by decide +kernel
theorem dX6_restore_11 : decode cX6_restore 11 = .ok (.ireturn, 1) := by decide +kernel
theorem dX6_restore_12 : decode cX6_restore 12 = .ok (.aload_n 0, 1) := by decide +kernel
theorem dX6_restore_13 : decode cX6_restore 13 = .ok (.getfield 16, 3) := by decide +kernel
theorem dX6_restore_16 : decode cX6_restore 16 = .ok (.iload_n 1, 1) := by decide +kernel
theorem dX6_restore_17 : decode cX6_restore 17 = .ok (.baload, 1) := by decide +kernel
theorem dX6_restore_18 : decode cX6_restore 18 = .ok (.ifCond .ne 6, 3) := by decide +kernel
theorem dX6_restore_21 : decode cX6_restore 21 = .ok (.bipush (-3), 2) := by decide +kernel
theorem dX6_restore_23 : decode cX6_restore 23 = .ok (.ireturn, 1) := by decide +kernel
theorem dX6_restore_24 : decode cX6_restore 24 = .ok (.iconst 0, 1) := by decide +kernel
theorem dX6_restore_25 : decode cX6_restore 25 = .ok (.istore_n 2, 1) := by decide +kernel
theorem dX6_restore_26 : decode cX6_restore 26 = .ok (.iload_n 2, 1) := by decide +kernel
theorem dX6_restore_27 : decode cX6_restore 27 = .ok (.sipush 244, 3) := by decide +kernel
theorem dX6_restore_30 : decode cX6_restore 30 = .ok (.if_icmp .ge 27, 3) := by decide +kernel
theorem dX6_restore_33 : decode cX6_restore 33 = .ok (.aload_n 0, 1) := by decide +kernel
theorem dX6_restore_34 : decode cX6_restore 34 = .ok (.getfield 7, 3) := by decide +kernel
theorem dX6_restore_37 : decode cX6_restore 37 = .ok (.iload_n 2, 1) := by decide +kernel
theorem dX6_restore_38 : decode cX6_restore 38 = .ok (.aload_n 0, 1) := by decide +kernel
theorem dX6_restore_39 : decode cX6_restore 39 = .ok (.getfield 13, 3) := by decide +kernel
theorem dX6_restore_42 : decode cX6_restore 42 = .ok (.sipush 244, 3) := by decide +kernel
theorem dX6_restore_45 : decode cX6_restore 45 = .ok (.iload_n 1, 1) := by decide +kernel
theorem dX6_restore_46 : decode cX6_restore 46 = .ok (.imul, 1) := by decide +kernel
theorem dX6_restore_47 : decode cX6_restore 47 = .ok (.iload_n 2, 1) := by decide +kernel
theorem dX6_restore_48 : decode cX6_restore 48 = .ok (.iadd, 1) := by decide +kernel
theorem dX6_restore_49 : decode cX6_restore 49 = .ok (.iaload, 1) := by decide +kernel
theorem dX6_restore_50 : decode cX6_restore 50 = .ok (.iastore, 1) := by decide +kernel
theorem dX6_restore_51 : decode cX6_restore 51 = .ok (.iinc 2 1, 3) := by decide +kernel
theorem dX6_restore_54 : decode cX6_restore 54 = .ok (.goto (-28), 3) := by decide +kernel
theorem dX6_restore_57 : decode cX6_restore 57 = .ok (.iconst 1, 1) := by decide +kernel
theorem dX6_restore_58 : decode cX6_restore 58 = .ok (.ireturn, 1) := by decide +kernel
theorem dX6_count_0 : decode cX6_count 0 = .ok (.iconst 0, 1) := by decide +kernel
theorem dX6_count_1 : decode cX6_count 1 = .ok (.istore_n 2, 1) := by decide +kernel
theorem dX6_count_2 : decode cX6_count 2 = .ok (.iconst 0, 1) := by decide +kernel
theorem dX6_count_3 : decode cX6_count 3 = .ok (.istore_n 3, 1) := by decide +kernel
theorem dX6_count_4 : decode cX6_count 4 = .ok (.iload_n 3, 1) := by decide +kernel
theorem dX6_count_5 : decode cX6_count 5 = .ok (.iconst 4, 1) := by decide +kernel
theorem dX6_count_6 : decode cX6_count 6 = .ok (.if_icmp .ge 17, 3) := by decide +kernel
theorem dX6_count_9 : decode cX6_count 9 = .ok (.iload_n 2, 1) := by decide +kernel
theorem dX6_count_10 : decode cX6_count 10 = .ok (.aload_n 0, 1) := by decide +kernel
theorem dX6_count_11 : decode cX6_count 11 = .ok (.iload_n 3, 1) := by decide +kernel
theorem dX6_count_12 : decode cX6_count 12 = .ok (.invokevirtual 86, 3) := by decide +kernel
theorem dX6_count_15 : decode cX6_count 15 = .ok (.iadd, 1) := by decide +kernel
theorem dX6_count_16 : decode cX6_count 16 = .ok (.istore_n 2, 1) := by decide +kernel
theorem dX6_count_17 : decode cX6_count 17 = .ok (.iinc 3 1, 3) := by decide +kernel
theorem dX6_count_20 : decode cX6_count 20 = .ok (.goto (-16), 3) := by decide +kernel
theorem dX6_count_23 : decode cX6_count 23 = .ok (.iload_n 1, 1) := by decide +kernel
theorem dX6_count_24 : decode cX6_count 24 = .ok (.tableswitch 74 0 3 #[32, 37, 39, 44], 32) := by decide +kernel
theorem dX6_count_56 : decode cX6_count 56 = .ok (.aload_n 0, 1) := by decide +kernel
theorem dX6_count_57 : decode cX6_count 57 = .ok (.getfield 61, 3) := by decide +kernel
theorem dX6_count_60 : decode cX6_count 60 = .ok (.ireturn, 1) := by decide +kernel
theorem dX6_count_61 : decode cX6_count 61 = .ok (.iload_n 2, 1) := by decide +kernel
theorem dX6_count_62 : decode cX6_count 62 = .ok (.ireturn, 1) := by decide +kernel
theorem dX6_count_63 : decode cX6_count 63 = .ok (.aload_n 0, 1) := by decide +kernel
theorem dX6_count_64 : decode cX6_count 64 = .ok (.getfield 23, 3) := by decide +kernel
theorem dX6_count_67 : decode cX6_count 67 = .ok (.ireturn, 1) := by decide +kernel
theorem dX6_count_68 : decode cX6_count 68 = .ok (.aload_n 0, 1) := by decide +kernel
theorem dX6_count_69 : decode cX6_count 69 = .ok (.getfield 16, 3) := by decide +kernel
theorem dX6_count_72 : decode cX6_count 72 = .ok (.iconst 0, 1) := by decide +kernel
theorem dX6_count_73 : decode cX6_count 73 = .ok (.baload, 1) := by decide +kernel
theorem dX6_count_74 : decode cX6_count 74 = .ok (.ifCond .eq 7, 3) := by decide +kernel
theorem dX6_count_77 : decode cX6_count 77 = .ok (.iconst 1, 1) := by decide +kernel
theorem dX6_count_78 : decode cX6_count 78 = .ok (.goto 4, 3) := by decide +kernel
theorem dX6_count_81 : decode cX6_count 81 = .ok (.iconst 0, 1) := by decide +kernel
theorem dX6_count_82 : decode cX6_count 82 = .ok (.aload_n 0, 1) := by decide +kernel
theorem dX6_count_83 : decode cX6_count 83 = .ok (.getfield 16, 3) := by decide +kernel
theorem dX6_count_86 : decode cX6_count 86 = .ok (.iconst 1, 1) := by decide +kernel
theorem dX6_count_87 : decode cX6_count 87 = .ok (.baload, 1) := by decide +kernel
theorem dX6_count_88 : decode cX6_count 88 = .ok (.ifCond .eq 7, 3) := by decide +kernel
theorem dX6_count_91 : decode cX6_count 91 = .ok (.iconst 2, 1) := by decide +kernel
theorem dX6_count_92 : decode cX6_count 92 = .ok (.goto 4, 3) := by decide +kernel
theorem dX6_count_95 : decode cX6_count 95 = .ok (.iconst 0, 1) := by decide +kernel
theorem dX6_count_96 : decode cX6_count 96 = .ok (.iadd, 1) := by decide +kernel
theorem dX6_count_97 : decode cX6_count 97 = .ok (.ireturn, 1) := by decide +kernel
theorem dX6_count_98 : decode cX6_count 98 = .ok (.bipush (-2), 2) := by decide +kernel
theorem dX6_count_100 : decode cX6_count 100 = .ok (.ireturn, 1) := by decide +kernel
theorem dJ11_isValidCodePoint_9a6ad_0 : decode cJ11_isValidCodePoint_9a6ad 0 = .ok (.iload_n 0, 1) := by decide +kernel
theorem dJ11_isValidCodePoint_9a6ad_1 : decode cJ11_isValidCodePoint_9a6ad 1 = .ok (.bipush 16, 2) := by decide +kernel
theorem dJ11_isValidCodePoint_9a6ad_3 : decode cJ11_isValidCodePoint_9a6ad 3 = .ok (.iushr, 1) := by decide +kernel
theorem dJ11_isValidCodePoint_9a6ad_4 : decode cJ11_isValidCodePoint_9a6ad 4 = .ok (.istore_n 1, 1) := by decide +kernel
theorem dJ11_isValidCodePoint_9a6ad_5 : decode cJ11_isValidCodePoint_9a6ad 5 = .ok (.iload_n 1, 1) := by decide +kernel
theorem dJ11_isValidCodePoint_9a6ad_6 : decode cJ11_isValidCodePoint_9a6ad 6 = .ok (.bipush 17, 2) := by decide +kernel
theorem dJ11_isValidCodePoint_9a6ad_8 : decode cJ11_isValidCodePoint_9a6ad 8 = .ok (.if_icmp .ge 7, 3) := by decide +kernel
theorem dJ11_isValidCodePoint_9a6ad_11 : decode cJ11_isValidCodePoint_9a6ad 11 = .ok (.iconst 1, 1) := by decide +kernel
theorem dJ11_isValidCodePoint_9a6ad_12 : decode cJ11_isValidCodePoint_9a6ad 12 = .ok (.goto 4, 3) := by decide +kernel
theorem dJ11_isValidCodePoint_9a6ad_15 : decode cJ11_isValidCodePoint_9a6ad 15 = .ok (.iconst 0, 1) := by decide +kernel
theorem dJ11_isValidCodePoint_9a6ad_16 : decode cJ11_isValidCodePoint_9a6ad 16 = .ok (.ireturn, 1) := by decide +kernel
theorem dJ11_highSurrogate_5068e_0 : decode cJ11_highSurrogate_5068e 0 = .ok (.iload_n 0, 1) := by decide +kernel
theorem dJ11_highSurrogate_5068e_1 : decode cJ11_highSurrogate_5068e 1 = .ok (.bipush 10, 2) := by decide +kernel
theorem dJ11_highSurrogate_5068e_3 : decode cJ11_highSurrogate_5068e 3 = .ok (.iushr, 1) := by decide +kernel
theorem dJ11_highSurrogate_5068e_4 : decode cJ11_highSurrogate_5068e 4 = .ok (.ldc 110, 2) := by decide +kernel
theorem dJ11_highSurrogate_5068e_6 : decode cJ11_highSurrogate_5068e 6 = .ok (.iadd, 1) := by decide +kernel
theorem dJ11_highSurrogate_5068e_7 : decode cJ11_highSurrogate_5068e 7 = .ok (.i2c, 1) := by decide +kernel
theorem dJ11_highSurrogate_5068e_8 : decode cJ11_highSurrogate_5068e 8 = .ok (.ireturn, 1) := by decide +kernel
theorem dJ11_lowSurrogate_5068e_0 : decode cJ11_lowSurrogate_5068e 0 = .ok (.iload_n 0, 1) := by decide +kernel
theorem dJ11_lowSurrogate_5068e_1 : decode cJ11_lowSurrogate_5068e 1 = .ok (.sipush 1023, 3) := by decide +kernel
theorem dJ11_lowSurrogate_5068e_4 : decode cJ11_lowSurrogate_5068e 4 = .ok (.iand, 1) := by decide +kernel
theorem dJ11_lowSurrogate_5068e_5 : decode cJ11_lowSurrogate_5068e 5 = .ok (.ldc 76, 2) := by decide +kernel
theorem dJ11_lowSurrogate_5068e_7 : decode cJ11_lowSurrogate_5068e 7 = .ok (.iadd, 1) := by decide +kernel
theorem dJ11_lowSurrogate_5068e_8 : decode cJ11_lowSurrogate_5068e 8 = .ok (.i2c, 1) := by decide +kernel
theorem dJ11_lowSurrogate_5068e_9 : decode cJ11_lowSurrogate_5068e 9 = .ok (.ireturn, 1) := by decide +kernel
theorem dJ9_max_7cf53_0 : decode cJ9_max_7cf53 0 = .ok (.iload_n 0, 1) := by decide +kernel
theorem dJ9_max_7cf53_1 : decode cJ9_max_7cf53 1 = .ok (.iload_n 1, 1) := by decide +kernel
theorem dJ9_max_7cf53_2 : decode cJ9_max_7cf53 2 = .ok (.if_icmp .lt 7, 3) := by decide +kernel
theorem dJ9_max_7cf53_5 : decode cJ9_max_7cf53 5 = .ok (.iload_n 0, 1) := by decide +kernel
theorem dJ9_max_7cf53_6 : decode cJ9_max_7cf53 6 = .ok (.goto 4, 3) := by decide +kernel
theorem dJ9_max_7cf53_9 : decode cJ9_max_7cf53 9 = .ok (.iload_n 1, 1) := by decide +kernel
theorem dJ9_max_7cf53_10 : decode cJ9_max_7cf53 10 = .ok (.ireturn, 1) := by decide +kernel
theorem dJ9_min_7cf53_0 : decode cJ9_min_7cf53 0 = .ok (.iload_n 0, 1) := by decide +kernel
theorem dJ9_min_7cf53_1 : decode cJ9_min_7cf53 1 = .ok (.iload_n 1, 1) := by decide +kernel
theorem dJ9_min_7cf53_2 : decode cJ9_min_7cf53 2 = .ok (.if_icmp .gt 7, 3) := by decide +kernel
theorem dJ9_min_7cf53_5 : decode cJ9_min_7cf53 5 = .ok (.iload_n 0, 1) := by decide +kernel
theorem dJ9_min_7cf53_6 : decode cJ9_min_7cf53 6 = .ok (.goto 4, 3) := by decide +kernel
theorem dJ9_min_7cf53_9 : decode cJ9_min_7cf53 9 = .ok (.iload_n 1, 1) := by decide +kernel
theorem dJ9_min_7cf53_10 : decode cJ9_min_7cf53 10 = .ok (.ireturn, 1) := by decide +kernel
theorem dJ0_length_8abf5_0 : decode cJ0_length_8abf5 0 = .ok (.aload_n 0, 1) := by decide +kernel
theorem dJ0_length_8abf5_1 : decode cJ0_length_8abf5 1 = .ok (.getfield 9, 3) := by decide +kernel
theorem dJ0_length_8abf5_4 : decode cJ0_length_8abf5 4 = .ok (.arraylength, 1) := by decide +kernel
theorem dJ0_length_8abf5_5 : decode cJ0_length_8abf5 5 = .ok (.aload_n 0, 1) := by decide +kernel
theorem dJ0_length_8abf5_6 : decode cJ0_length_8abf5 6 = .ok (.invokevirtual 335, 3) := by decide +kernel
theorem dJ0_length_8abf5_9 : decode cJ0_length_8abf5 9 = .ok (.ishr, 1) := by decide +kernel
theorem dJ0_length_8abf5_10 : decode cJ0_length_8abf5 10 = .ok (.ireturn, 1) := by decide +kernel
theorem dJ0_charAt_5068e_0 : decode cJ0_charAt_5068e 0 = .ok (.aload_n 0, 1) := by decide +kernel
theorem dJ0_charAt_5068e_1 : decode cJ0_charAt_5068e 1 = .ok (.invokevirtual 492, 3) := by decide +kernel
theorem dJ0_charAt_5068e_4 : decode cJ0_charAt_5068e 4 = .ok (.ifCond .eq 12, 3) := by decide +kernel
theorem dJ0_charAt_5068e_7 : decode cJ0_charAt_5068e 7 = .ok (.aload_n 0, 1) := by decide +kernel
theorem dJ0_charAt_5068e_8 : decode cJ0_charAt_5068e 8 = .ok (.getfield 9, 3) := by decide +kernel
theorem dJ0_charAt_5068e_11 : decode cJ0_charAt_5068e 11 = .ok (.iload_n 1, 1) := by decide +kernel
theorem dJ0_charAt_5068e_12 : decode cJ0_charAt_5068e 12 = .ok (.invokestatic 495, 3) := by decide +kernel
theorem dJ0_charAt_5068e_15 : decode cJ0_charAt_5068e 15 = .ok (.ireturn, 1) := by decide +kernel
theorem dJ0_charAt_5068e_16 : decode cJ0_charAt_5068e 16 = .ok (.aload_n 0, 1) := by decide +kernel
theorem dJ0_charAt_5068e_17 : decode cJ0_charAt_5068e 17 = .ok (.getfield 9, 3) := by decide +kernel
theorem dJ0_charAt_5068e_20 : decode cJ0_charAt_5068e 20 = .ok (.iload_n 1, 1) := by decide +kernel
theorem dJ0_charAt_5068e_21 : decode cJ0_charAt_5068e 21 = .ok (.invokestatic 498, 3) := by decide +kernel
theorem dJ0_charAt_5068e_24 : decode cJ0_charAt_5068e 24 = .ok (.ireturn, 1) := by decide +kernel
theorem dJ0_indexOf_0f7a4_0 : decode cJ0_indexOf_0f7a4 0 = .ok (.aload_n 0, 1) := by decide +kernel
theorem dJ0_indexOf_0f7a4_1 : decode cJ0_indexOf_0f7a4 1 = .ok (.iload_n 1, 1) := by decide +kernel
theorem dJ0_indexOf_0f7a4_2 : decode cJ0_indexOf_0f7a4 2 = .ok (.iconst 0, 1) := by decide +kernel
theorem dJ0_indexOf_0f7a4_3 : decode cJ0_indexOf_0f7a4 3 = .ok (.invokevirtual 633, 3) := by decide +kernel
theorem dJ0_indexOf_0f7a4_6 : decode cJ0_indexOf_0f7a4 6 = .ok (.ireturn, 1) := by decide +kernel
theorem dJ0_indexOf_7cf53_0 : decode cJ0_indexOf_7cf53 0 = .ok (.aload_n 0, 1) := by decide +kernel
theorem dJ0_indexOf_7cf53_1 : decode cJ0_indexOf_7cf53 1 = .ok (.invokevirtual 492, 3) := by decide +kernel
theorem dJ0_indexOf_7cf53_4 : decode cJ0_indexOf_7cf53 4 = .ok (.ifCond .eq 19, 3) := by decide +kernel
theorem dJ0_indexOf_7cf53_7 : decode cJ0_indexOf_7cf53 7 = .ok (.aload_n 0, 1) := by decide +kernel
theorem dJ0_indexOf_7cf53_8 : decode cJ0_indexOf_7cf53 8 = .ok (.getfield 9, 3) := by decide +kernel
theorem dJ0_indexOf_7cf53_11 : decode cJ0_indexOf_7cf53 11 = .ok (.iload_n 1, 1) := by decide +kernel
theorem dJ0_indexOf_7cf53_12 : decode cJ0_indexOf_7cf53 12 = .ok (.iload_n 2, 1) := by decide +kernel
theorem dJ0_indexOf_7cf53_13 : decode cJ0_indexOf_7cf53 13 = .ok (.aload_n 0, 1) := by decide +kernel
theorem dJ0_indexOf_7cf53_14 : decode cJ0_indexOf_7cf53 14 = .ok (.invokevirtual 505, 3) := by decide +kernel
theorem dJ0_indexOf_7cf53_17 : decode cJ0_indexOf_7cf53 17 = .ok (.invokestatic 637, 3) := by decide +kernel
theorem dJ0_indexOf_7cf53_20 : decode cJ0_indexOf_7cf53 20 = .ok (.goto 16, 3) := by decide +kernel
theorem dJ0_indexOf_7cf53_23 : decode cJ0_indexOf_7cf53 23 = .ok (.aload_n 0, 1) := by decide +kernel
theorem dJ0_indexOf_7cf53_24 : decode cJ0_indexOf_7cf53 24 = .ok (.getfield 9, 3) := by decide +kernel
theorem dJ0_indexOf_7cf53_27 : decode cJ0_indexOf_7cf53 27 = .ok (.iload_n 1, 1) := by decide +kernel
theorem dJ0_indexOf_7cf53_28 : decode cJ0_indexOf_7cf53 28 = .ok (.iload_n 2, 1) := by decide +kernel
theorem dJ0_indexOf_7cf53_29 : decode cJ0_indexOf_7cf53 29 = .ok (.aload_n 0, 1) := by decide +kernel
theorem dJ0_indexOf_7cf53_30 : decode cJ0_indexOf_7cf53 30 = .ok (.invokevirtual 505, 3) := by decide +kernel
theorem dJ0_indexOf_7cf53_33 : decode cJ0_indexOf_7cf53 33 = .ok (.invokestatic 640, 3) := by decide +kernel
theorem dJ0_indexOf_7cf53_36 : decode cJ0_indexOf_7cf53 36 = .ok (.ireturn, 1) := by decide +kernel
theorem dJ0_coder_7d493_0 : decode cJ0_coder_7d493 0 = .ok (.getstatic 38, 3) := by decide +kernel
theorem dJ0_coder_7d493_3 : decode cJ0_coder_7d493 3 = .ok (.ifCond .eq 10, 3) := by decide +kernel
theorem dJ0_coder_7d493_6 : decode cJ0_coder_7d493 6 = .ok (.aload_n 0, 1) := by decide +kernel
theorem dJ0_coder_7d493_7 : decode cJ0_coder_7d493 7 = .ok (.getfield 15, 3) := by decide +kernel
theorem dJ0_coder_7d493_10 : decode cJ0_coder_7d493 10 = .ok (.goto 4, 3) := by decide +kernel
theorem dJ0_coder_7d493_13 : decode cJ0_coder_7d493 13 = .ok (.iconst 1, 1) := by decide +kernel
theorem dJ0_coder_7d493_14 : decode cJ0_coder_7d493 14 = .ok (.ireturn, 1) := by decide +kernel
theorem dJ0_isLatin1_aae02_0 : decode cJ0_isLatin1_aae02 0 = .ok (.getstatic 38, 3) := by decide +kernel
theorem dJ0_isLatin1_aae02_3 : decode cJ0_isLatin1_aae02 3 = .ok (.ifCond .eq 14, 3) := by decide +kernel
theorem dJ0_isLatin1_aae02_6 : decode cJ0_isLatin1_aae02 6 = .ok (.aload_n 0, 1) := by decide +kernel
theorem dJ0_isLatin1_aae02_7 : decode cJ0_isLatin1_aae02 7 = .ok (.getfield 15, 3) := by decide +kernel
theorem dJ0_isLatin1_aae02_10 : decode cJ0_isLatin1_aae02 10 = .ok (.ifCond .ne 7, 3) := by decide +kernel
theorem dJ0_isLatin1_aae02_13 : decode cJ0_isLatin1_aae02 13 = .ok (.iconst 1, 1) := by decide +kernel
theorem dJ0_isLatin1_aae02_14 : decode cJ0_isLatin1_aae02 14 = .ok (.goto 4, 3) := by decide +kernel
theorem dJ0_isLatin1_aae02_17 : decode cJ0_isLatin1_aae02 17 = .ok (.iconst 0, 1) := by decide +kernel
theorem dJ0_isLatin1_aae02_18 : decode cJ0_isLatin1_aae02 18 = .ok (.ireturn, 1) := by decide +kernel
theorem dJ0_checkIndex_df160_0 : decode cJ0_checkIndex_df160 0 = .ok (.iload_n 0, 1) := by decide +kernel
theorem dJ0_checkIndex_df160_1 : decode cJ0_checkIndex_df160 1 = .ok (.iload_n 1, 1) := by decide +kernel
theorem dJ0_checkIndex_df160_2 : decode cJ0_checkIndex_df160 2 = .ok (.getstatic 1053, 3) := by decide +kernel
theorem dJ0_checkIndex_df160_5 : decode cJ0_checkIndex_df160 5 = .ok (.invokestatic 1059, 3) := by decide +kernel
theorem dJ0_checkIndex_df160_8 : decode cJ0_checkIndex_df160 8 = .ok (.pop, 1) := by decide +kernel
theorem dJ0_checkIndex_df160_9 : decode cJ0_checkIndex_df160 9 = .ok (.return_, 1) := by decide +kernel
theorem dJ0_checkBoundsBeginEnd_23922_0 : decode cJ0_checkBoundsBeginEnd_23922 0 = .ok (.iload_n 0, 1) := by decide +kernel
theorem dJ0_checkBoundsBeginEnd_23922_1 : decode cJ0_checkBoundsBeginEnd_23922 1 = .ok (.iload_n 1, 1) := by decide +kernel
theorem dJ0_checkBoundsBeginEnd_23922_2 : decode cJ0_checkBoundsBeginEnd_23922 2 = .ok (.iload_n 2, 1) := by decide +kernel
theorem dJ0_checkBoundsBeginEnd_23922_3 : decode cJ0_checkBoundsBeginEnd_23922 3 = .ok (.getstatic 1053, 3) := by decide +kernel
theorem dJ0_checkBoundsBeginEnd_23922_6 : decode cJ0_checkBoundsBeginEnd_23922 6 = .ok (.invokestatic 1062, 3) := by decide +kernel
theorem dJ0_checkBoundsBeginEnd_23922_9 : decode cJ0_checkBoundsBeginEnd_23922 9 = .ok (.pop, 1) := by decide +kernel
theorem dJ0_checkBoundsBeginEnd_23922_10 : decode cJ0_checkBoundsBeginEnd_23922 10 = .ok (.return_, 1) := by decide +kernel
theorem dJ1_charAt_3b067_0 : decode cJ1_charAt_3b067 0 = .ok (.iload_n 1, 1) := by decide +kernel
theorem dJ1_charAt_3b067_1 : decode cJ1_charAt_3b067 1 = .ok (.aload_n 0, 1) := by decide +kernel
theorem dJ1_charAt_3b067_2 : decode cJ1_charAt_3b067 2 = .ok (.arraylength, 1) := by decide +kernel
theorem dJ1_charAt_3b067_3 : decode cJ1_charAt_3b067 3 = .ok (.invokestatic 9, 3) := by decide +kernel
theorem dJ1_charAt_3b067_6 : decode cJ1_charAt_3b067 6 = .ok (.aload_n 0, 1) := by decide +kernel
theorem dJ1_charAt_3b067_7 : decode cJ1_charAt_3b067 7 = .ok (.iload_n 1, 1) := by decide +kernel
theorem dJ1_charAt_3b067_8 : decode cJ1_charAt_3b067 8 = .ok (.baload, 1) := by decide +kernel
theorem dJ1_charAt_3b067_9 : decode cJ1_charAt_3b067 9 = .ok (.sipush 255, 3) := by decide +kernel
theorem dJ1_charAt_3b067_12 : decode cJ1_charAt_3b067 12 = .ok (.iand, 1) := by decide +kernel
theorem dJ1_charAt_3b067_13 : decode cJ1_charAt_3b067 13 = .ok (.i2c, 1) := by decide +kernel
theorem dJ1_charAt_3b067_14 : decode cJ1_charAt_3b067 14 = .ok (.ireturn, 1) := by decide +kernel
theorem dJ1_canEncode_9a6ad_0 : decode cJ1_canEncode_9a6ad 0 = .ok (.iload_n 0, 1) := by decide +kernel
theorem dJ1_canEncode_9a6ad_1 : decode cJ1_canEncode_9a6ad 1 = .ok (.ifCond .lt 14, 3) := by decide +kernel
theorem dJ1_canEncode_9a6ad_4 : decode cJ1_canEncode_9a6ad 4 = .ok (.iload_n 0, 1) := by decide +kernel
theorem dJ1_canEncode_9a6ad_5 : decode cJ1_canEncode_9a6ad 5 = .ok (.sipush 255, 3) := by decide +kernel
theorem dJ1_canEncode_9a6ad_8 : decode cJ1_canEncode_9a6ad 8 = .ok (.if_icmp .gt 7, 3) := by decide +kernel
theorem dJ1_canEncode_9a6ad_11 : decode cJ1_canEncode_9a6ad 11 = .ok (.iconst 1, 1) := by decide +kernel
theorem dJ1_canEncode_9a6ad_12 : decode cJ1_canEncode_9a6ad 12 = .ok (.goto 4, 3) := by decide +kernel
theorem dJ1_canEncode_9a6ad_15 : decode cJ1_canEncode_9a6ad 15 = .ok (.iconst 0, 1) := by decide +kernel
theorem dJ1_canEncode_9a6ad_16 : decode cJ1_canEncode_9a6ad 16 = .ok (.ireturn, 1) := by decide +kernel
theorem dJ1_indexOf_4cfef_0 : decode cJ1_indexOf_4cfef 0 = .ok (.iload_n 1, 1) := by decide +kernel
theorem dJ1_indexOf_4cfef_1 : decode cJ1_indexOf_4cfef 1 = .ok (.invokestatic 88, 3) := by decide +kernel
theorem dJ1_indexOf_4cfef_4 : decode cJ1_indexOf_4cfef 4 = .ok (.ifCond .ne 5, 3) := by decide +kernel
theorem dJ1_indexOf_4cfef_7 : decode cJ1_indexOf_4cfef 7 = .ok (.iconst (-1), 1) := by decide +kernel
theorem dJ1_indexOf_4cfef_8 : decode cJ1_indexOf_4cfef 8 = .ok (.ireturn, 1) := by decide +kernel
theorem dJ1_indexOf_4cfef_9 : decode cJ1_indexOf_4cfef 9 = .ok (.iload_n 2, 1) := by decide +kernel
theorem dJ1_indexOf_4cfef_10 : decode cJ1_indexOf_4cfef 10 = .ok (.iconst 0, 1) := by decide +kernel
theorem dJ1_indexOf_4cfef_11 : decode cJ1_indexOf_4cfef 11 = .ok (.invokestatic 92, 3) := by decide +kernel
theorem dJ1_indexOf_4cfef_14 : decode cJ1_indexOf_4cfef 14 = .ok (.istore_n 2, 1) := by decide +kernel
theorem dJ1_indexOf_4cfef_15 : decode cJ1_indexOf_4cfef 15 = .ok (.iload_n 3, 1) := by decide +kernel
theorem dJ1_indexOf_4cfef_16 : decode cJ1_indexOf_4cfef 16 = .ok (.aload_n 0, 1) := by decide +kernel
theorem dJ1_indexOf_4cfef_17 : decode cJ1_indexOf_4cfef 17 = .ok (.arraylength, 1) := by decide +kernel
theorem dJ1_indexOf_4cfef_18 : decode cJ1_indexOf_4cfef 18 = .ok (.invokestatic 38, 3) := by decide +kernel
theorem dJ1_indexOf_4cfef_21 : decode cJ1_indexOf_4cfef 21 = .ok (.istore_n 3, 1) := by decide +kernel
theorem dJ1_indexOf_4cfef_22 : decode cJ1_indexOf_4cfef 22 = .ok (.iload_n 2, 1) := by decide +kernel
theorem dJ1_indexOf_4cfef_23 : decode cJ1_indexOf_4cfef 23 = .ok (.iload_n 3, 1) := by decide +kernel
theorem dJ1_indexOf_4cfef_24 : decode cJ1_indexOf_4cfef 24 = .ok (.if_icmp .lt 5, 3) := by decide +kernel
theorem dJ1_indexOf_4cfef_27 : decode cJ1_indexOf_4cfef 27 = .ok (.iconst (-1), 1) := by decide +kernel
theorem dJ1_indexOf_4cfef_28 : decode cJ1_indexOf_4cfef 28 = .ok (.ireturn, 1) := by decide +kernel
theorem dJ1_indexOf_4cfef_29 : decode cJ1_indexOf_4cfef 29 = .ok (.aload_n 0, 1) := by decide +kernel
theorem dJ1_indexOf_4cfef_30 : decode cJ1_indexOf_4cfef 30 = .ok (.iload_n 1, 1) := by decide +kernel
theorem dJ1_indexOf_4cfef_31 : decode cJ1_indexOf_4cfef 31 = .ok (.iload_n 2, 1) := by decide +kernel
theorem dJ1_indexOf_4cfef_32 : decode cJ1_indexOf_4cfef 32 = .ok (.iload_n 3, 1) := by decide +kernel
theorem dJ1_indexOf_4cfef_33 : decode cJ1_indexOf_4cfef 33 = .ok (.invokestatic 95, 3) := by decide +kernel
theorem dJ1_indexOf_4cfef_36 : decode cJ1_indexOf_4cfef 36 = .ok (.ireturn, 1) := by decide +kernel
theorem dJ1_indexOfChar_4cfef_0 : decode cJ1_indexOfChar_4cfef 0 = .ok (.iload_n 1, 1) := by decide +kernel
theorem dJ1_indexOfChar_4cfef_1 : decode cJ1_indexOfChar_4cfef 1 = .ok (.i2b, 1) := by decide +kernel
theorem dJ1_indexOfChar_4cfef_2 : decode cJ1_indexOfChar_4cfef 2 = .ok (.istore 4, 2) := by decide +kernel
theorem dJ1_indexOfChar_4cfef_4 : decode cJ1_indexOfChar_4cfef 4 = .ok (.iload_n 2, 1) := by decide +kernel
theorem dJ1_indexOfChar_4cfef_5 : decode cJ1_indexOfChar_4cfef 5 = .ok (.istore 5, 2) := by decide +kernel
theorem dJ1_indexOfChar_4cfef_7 : decode cJ1_indexOfChar_4cfef 7 = .ok (.iload 5, 2) := by decide +kernel
theorem dJ1_indexOfChar_4cfef_9 : decode cJ1_indexOfChar_4cfef 9 = .ok (.iload_n 3, 1) := by decide +kernel
theorem dJ1_indexOfChar_4cfef_10 : decode cJ1_indexOfChar_4cfef 10 = .ok (.if_icmp .ge 21, 3) := by decide +kernel
theorem dJ1_indexOfChar_4cfef_13 : decode cJ1_indexOfChar_4cfef 13 = .ok (.aload_n 0, 1) := by decide +kernel
theorem dJ1_indexOfChar_4cfef_14 : decode cJ1_indexOfChar_4cfef 14 = .ok (.iload 5, 2) := by decide +kernel
theorem dJ1_indexOfChar_4cfef_16 : decode cJ1_indexOfChar_4cfef 16 = .ok (.baload, 1) := by decide +kernel
theorem dJ1_indexOfChar_4cfef_17 : decode cJ1_indexOfChar_4cfef 17 = .ok (.iload 4, 2) := by decide +kernel
theorem dJ1_indexOfChar_4cfef_19 : decode cJ1_indexOfChar_4cfef 19 = .ok (.if_icmp .ne 6, 3) := by decide +kernel
theorem dJ1_indexOfChar_4cfef_22 : decode cJ1_indexOfChar_4cfef 22 = .ok (.iload 5, 2) := by decide +kernel
theorem dJ1_indexOfChar_4cfef_24 : decode cJ1_indexOfChar_4cfef 24 = .ok (.ireturn, 1) := by decide +kernel
theorem dJ1_indexOfChar_4cfef_25 : decode cJ1_indexOfChar_4cfef 25 = .ok (.iinc 5 1, 3) := by decide +kernel
theorem dJ1_indexOfChar_4cfef_28 : decode cJ1_indexOfChar_4cfef 28 = .ok (.goto (-21), 3) := by decide +kernel
theorem dJ1_indexOfChar_4cfef_31 : decode cJ1_indexOfChar_4cfef 31 = .ok (.iconst (-1), 1) := by decide +kernel
theorem dJ1_indexOfChar_4cfef_32 : decode cJ1_indexOfChar_4cfef 32 = .ok (.ireturn, 1) := by decide +kernel
theorem dJ2_getChar_3b067_0 : decode cJ2_getChar_3b067 0 = .ok (.getstatic 44, 3) := by decide +kernel
theorem dJ2_getChar_3b067_3 : decode cJ2_getChar_3b067 3 = .ok (.ifCond .ne 25, 3) := by decide +kernel
theorem dJ2_getChar_3b067_6 : decode cJ2_getChar_3b067 6 = .ok (.iload_n 1, 1) := by decide +kernel
theorem dJ2_getChar_3b067_7 : decode cJ2_getChar_3b067 7 = .ok (.ifCond .lt 11, 3) := by decide +kernel
theorem dJ2_getChar_3b067_10 : decode cJ2_getChar_3b067 10 = .ok (.iload_n 1, 1) := by decide +kernel
theorem dJ2_getChar_3b067_11 : decode cJ2_getChar_3b067 11 = .ok (.aload_n 0, 1) := by decide +kernel
theorem dJ2_getChar_3b067_12 : decode cJ2_getChar_3b067 12 = .ok (.invokestatic 48, 3) := by decide +kernel
theorem dJ2_getChar_3b067_15 : decode cJ2_getChar_3b067 15 = .ok (.if_icmp .lt 13, 3) := by decide +kernel
theorem dJ2_getChar_3b067_18 : decode cJ2_getChar_3b067 18 = .ok (.new 52, 3) := by decide +kernel
theorem dJ2_getChar_3b067_21 : decode cJ2_getChar_3b067 21 = .ok (.dup, 1) := by decide +kernel
theorem dJ2_getChar_3b067_22 : decode cJ2_getChar_3b067 22 = .ok (.ldc 54, 2) := by decide +kernel
theorem dJ2_getChar_3b067_24 : decode cJ2_getChar_3b067 24 = .ok (.invokespecial 56, 3) := by decide +kernel
theorem dJ2_getChar_3b067_27 : decode cJ2_getChar_3b067 27 = .ok (.athrow, 1) := by decide +kernel
theorem dJ2_getChar_3b067_28 : decode cJ2_getChar_3b067 28 = .ok (.iload_n 1, 1) := by decide +kernel
theorem dJ2_getChar_3b067_29 : decode cJ2_getChar_3b067 29 = .ok (.iconst 1, 1) := by decide +kernel
theorem dJ2_getChar_3b067_30 : decode cJ2_getChar_3b067 30 = .ok (.ishl, 1) := by decide +kernel
theorem dJ2_getChar_3b067_31 : decode cJ2_getChar_3b067 31 = .ok (.istore_n 1, 1) := by decide +kernel
theorem dJ2_getChar_3b067_32 : decode cJ2_getChar_3b067 32 = .ok (.aload_n 0, 1) := by decide +kernel
theorem dJ2_getChar_3b067_33 : decode cJ2_getChar_3b067 33 = .ok (.iload_n 1, 1) := by decide +kernel
theorem dJ2_getChar_3b067_34 : decode cJ2_getChar_3b067 34 = .ok (.iinc 1 1, 3) := by decide +kernel
theorem dJ2_getChar_3b067_37 : decode cJ2_getChar_3b067 37 = .ok (.baload, 1) := by decide +kernel
theorem dJ2_getChar_3b067_38 : decode cJ2_getChar_3b067 38 = .ok (.sipush 255, 3) := by decide +kernel
theorem dJ2_getChar_3b067_41 : decode cJ2_getChar_3b067 41 = .ok (.iand, 1) := by decide +kernel
theorem dJ2_getChar_3b067_42 : decode cJ2_getChar_3b067 42 = .ok (.getstatic 59, 3) := by decide +kernel
theorem dJ2_getChar_3b067_45 : decode cJ2_getChar_3b067 45 = .ok (.ishl, 1) := by decide +kernel
theorem dJ2_getChar_3b067_46 : decode cJ2_getChar_3b067 46 = .ok (.aload_n 0, 1) := by decide +kernel
theorem dJ2_getChar_3b067_47 : decode cJ2_getChar_3b067 47 = .ok (.iload_n 1, 1) := by decide +kernel
theorem dJ2_getChar_3b067_48 : decode cJ2_getChar_3b067 48 = .ok (.baload, 1) := by decide +kernel
theorem dJ2_getChar_3b067_49 : decode cJ2_getChar_3b067 49 = .ok (.sipush 255, 3) := by decide +kernel
theorem dJ2_getChar_3b067_52 : decode cJ2_getChar_3b067 52 = .ok (.iand, 1) := by decide +kernel
theorem dJ2_getChar_3b067_53 : decode cJ2_getChar_3b067 53 = .ok (.getstatic 63, 3) := by decide +kernel
theorem dJ2_getChar_3b067_56 : decode cJ2_getChar_3b067 56 = .ok (.ishl, 1) := by decide +kernel
theorem dJ2_getChar_3b067_57 : decode cJ2_getChar_3b067 57 = .ok (.ior, 1) := by decide +kernel
theorem dJ2_getChar_3b067_58 : decode cJ2_getChar_3b067 58 = .ok (.i2c, 1) := by decide +kernel
theorem dJ2_getChar_3b067_59 : decode cJ2_getChar_3b067 59 = .ok (.ireturn, 1) := by decide +kernel
theorem dJ2_length_9d52b_0 : decode cJ2_length_9d52b 0 = .ok (.aload_n 0, 1) := by decide +kernel
theorem dJ2_length_9d52b_1 : decode cJ2_length_9d52b 1 = .ok (.arraylength, 1) := by decide +kernel
theorem dJ2_length_9d52b_2 : decode cJ2_length_9d52b 2 = .ok (.iconst 1, 1) := by decide +kernel
theorem dJ2_length_9d52b_3 : decode cJ2_length_9d52b 3 = .ok (.ishr, 1) := by decide +kernel
theorem dJ2_length_9d52b_4 : decode cJ2_length_9d52b 4 = .ok (.ireturn, 1) := by decide +kernel
theorem dJ2_indexOf_4cfef_0 : decode cJ2_indexOf_4cfef 0 = .ok (.iload_n 2, 1) := by decide +kernel
theorem dJ2_indexOf_4cfef_1 : decode cJ2_indexOf_4cfef 1 = .ok (.iconst 0, 1) := by decide +kernel
theorem dJ2_indexOf_4cfef_2 : decode cJ2_indexOf_4cfef 2 = .ok (.invokestatic 224, 3) := by decide +kernel
theorem dJ2_indexOf_4cfef_5 : decode cJ2_indexOf_4cfef 5 = .ok (.istore_n 2, 1) := by decide +kernel
theorem dJ2_indexOf_4cfef_6 : decode cJ2_indexOf_4cfef 6 = .ok (.iload_n 3, 1) := by decide +kernel
theorem dJ2_indexOf_4cfef_7 : decode cJ2_indexOf_4cfef 7 = .ok (.aload_n 0, 1) := by decide +kernel
theorem dJ2_indexOf_4cfef_8 : decode cJ2_indexOf_4cfef 8 = .ok (.arraylength, 1) := by decide +kernel
theorem dJ2_indexOf_4cfef_9 : decode cJ2_indexOf_4cfef 9 = .ok (.iconst 1, 1) := by decide +kernel
theorem dJ2_indexOf_4cfef_10 : decode cJ2_indexOf_4cfef 10 = .ok (.ishr, 1) := by decide +kernel
theorem dJ2_indexOf_4cfef_11 : decode cJ2_indexOf_4cfef 11 = .ok (.invokestatic 183, 3) := by decide +kernel
theorem dJ2_indexOf_4cfef_14 : decode cJ2_indexOf_4cfef 14 = .ok (.istore_n 3, 1) := by decide +kernel
theorem dJ2_indexOf_4cfef_15 : decode cJ2_indexOf_4cfef 15 = .ok (.iload_n 2, 1) := by decide +kernel
theorem dJ2_indexOf_4cfef_16 : decode cJ2_indexOf_4cfef 16 = .ok (.iload_n 3, 1) := by decide +kernel
theorem dJ2_indexOf_4cfef_17 : decode cJ2_indexOf_4cfef 17 = .ok (.if_icmp .lt 5, 3) := by decide +kernel
theorem dJ2_indexOf_4cfef_20 : decode cJ2_indexOf_4cfef 20 = .ok (.iconst (-1), 1) := by decide +kernel
theorem dJ2_indexOf_4cfef_21 : decode cJ2_indexOf_4cfef 21 = .ok (.ireturn, 1) := by decide +kernel
theorem dJ2_indexOf_4cfef_22 : decode cJ2_indexOf_4cfef 22 = .ok (.iload_n 1, 1) := by decide +kernel
theorem dJ2_indexOf_4cfef_23 : decode cJ2_indexOf_4cfef 23 = .ok (.ldc 227, 2) := by decide +kernel
theorem dJ2_indexOf_4cfef_25 : decode cJ2_indexOf_4cfef 25 = .ok (.if_icmp .ge 11, 3) := by decide +kernel
theorem dJ2_indexOf_4cfef_28 : decode cJ2_indexOf_4cfef 28 = .ok (.aload_n 0, 1) := by decide +kernel
theorem dJ2_indexOf_4cfef_29 : decode cJ2_indexOf_4cfef 29 = .ok (.iload_n 1, 1) := by decide +kernel
theorem dJ2_indexOf_4cfef_30 : decode cJ2_indexOf_4cfef 30 = .ok (.iload_n 2, 1) := by decide +kernel
theorem dJ2_indexOf_4cfef_31 : decode cJ2_indexOf_4cfef 31 = .ok (.iload_n 3, 1) := by decide +kernel
theorem dJ2_indexOf_4cfef_32 : decode cJ2_indexOf_4cfef 32 = .ok (.invokestatic 228, 3) := by decide +kernel
theorem dJ2_indexOf_4cfef_35 : decode cJ2_indexOf_4cfef 35 = .ok (.ireturn, 1) := by decide +kernel
theorem dJ2_indexOf_4cfef_36 : decode cJ2_indexOf_4cfef 36 = .ok (.aload_n 0, 1) := by decide +kernel
theorem dJ2_indexOf_4cfef_37 : decode cJ2_indexOf_4cfef 37 = .ok (.iload_n 1, 1) := by decide +kernel
theorem dJ2_indexOf_4cfef_38 : decode cJ2_indexOf_4cfef 38 = .ok (.iload_n 2, 1) := by decide +kernel
theorem dJ2_indexOf_4cfef_39 : decode cJ2_indexOf_4cfef 39 = .ok (.iload_n 3, 1) := by decide +kernel
theorem dJ2_indexOf_4cfef_40 : decode cJ2_indexOf_4cfef 40 = .ok (.invokestatic 232, 3) := by decide +kernel
theorem dJ2_indexOf_4cfef_43 : decode cJ2_indexOf_4cfef 43 = .ok (.ireturn, 1) := by decide +kernel
theorem dJ2_indexOfChar_4cfef_0 : decode cJ2_indexOfChar_4cfef 0 = .ok (.iload_n 2, 1) := by decide +kernel
theorem dJ2_indexOfChar_4cfef_1 : decode cJ2_indexOfChar_4cfef 1 = .ok (.iload_n 3, 1) := by decide +kernel
theorem dJ2_indexOfChar_4cfef_2 : decode cJ2_indexOfChar_4cfef 2 = .ok (.aload_n 0, 1) := by decide +kernel
theorem dJ2_indexOfChar_4cfef_3 : decode cJ2_indexOfChar_4cfef 3 = .ok (.invokestatic 96, 3) := by decide +kernel
theorem dJ2_indexOfChar_4cfef_6 : decode cJ2_indexOfChar_4cfef 6 = .ok (.aload_n 0, 1) := by decide +kernel
theorem dJ2_indexOfChar_4cfef_7 : decode cJ2_indexOfChar_4cfef 7 = .ok (.iload_n 1, 1) := by decide +kernel
theorem dJ2_indexOfChar_4cfef_8 : decode cJ2_indexOfChar_4cfef 8 = .ok (.iload_n 2, 1) := by decide +kernel
theorem dJ2_indexOfChar_4cfef_9 : decode cJ2_indexOfChar_4cfef 9 = .ok (.iload_n 3, 1) := by decide +kernel
theorem dJ2_indexOfChar_4cfef_10 : decode cJ2_indexOfChar_4cfef 10 = .ok (.invokestatic 244, 3) := by decide +kernel
theorem dJ2_indexOfChar_4cfef_13 : decode cJ2_indexOfChar_4cfef 13 = .ok (.ireturn, 1) := by decide +kernel
theorem dJ2_indexOfCharUnsafe_4cfef_0 : decode cJ2_indexOfCharUnsafe_4cfef 0 = .ok (.iload_n 2, 1) := by decide +kernel
theorem dJ2_indexOfCharUnsafe_4cfef_1 : decode cJ2_indexOfCharUnsafe_4cfef 1 = .ok (.istore 4, 2) := by decide +kernel
theorem dJ2_indexOfCharUnsafe_4cfef_3 : decode cJ2_indexOfCharUnsafe_4cfef 3 = .ok (.iload 4, 2) := by decide +kernel
theorem dJ2_indexOfCharUnsafe_4cfef_5 : decode cJ2_indexOfCharUnsafe_4cfef 5 = .ok (.iload_n 3, 1) := by decide +kernel
theorem dJ2_indexOfCharUnsafe_4cfef_6 : decode cJ2_indexOfCharUnsafe_4cfef 6 = .ok (.if_icmp .ge 22, 3) := by decide +kernel
theorem dJ2_indexOfCharUnsafe_4cfef_9 : decode cJ2_indexOfCharUnsafe_4cfef 9 = .ok (.aload_n 0, 1) := by decide +kernel
theorem dJ2_indexOfCharUnsafe_4cfef_10 : decode cJ2_indexOfCharUnsafe_4cfef 10 = .ok (.iload 4, 2) := by decide +kernel
theorem dJ2_indexOfCharUnsafe_4cfef_12 : decode cJ2_indexOfCharUnsafe_4cfef 12 = .ok (.invokestatic 71, 3) := by decide +kernel
theorem dJ2_indexOfCharUnsafe_4cfef_15 : decode cJ2_indexOfCharUnsafe_4cfef 15 = .ok (.iload_n 1, 1) := by decide +kernel
theorem dJ2_indexOfCharUnsafe_4cfef_16 : decode cJ2_indexOfCharUnsafe_4cfef 16 = .ok (.if_icmp .ne 6, 3) := by decide +kernel
theorem dJ2_indexOfCharUnsafe_4cfef_19 : decode cJ2_indexOfCharUnsafe_4cfef 19 = .ok (.iload 4, 2) := by decide +kernel
theorem dJ2_indexOfCharUnsafe_4cfef_21 : decode cJ2_indexOfCharUnsafe_4cfef 21 = .ok (.ireturn, 1) := by decide +kernel
theorem dJ2_indexOfCharUnsafe_4cfef_22 : decode cJ2_indexOfCharUnsafe_4cfef 22 = .ok (.iinc 4 1, 3) := by decide +kernel
theorem dJ2_indexOfCharUnsafe_4cfef_25 : decode cJ2_indexOfCharUnsafe_4cfef 25 = .ok (.goto (-22), 3) := by decide +kernel
theorem dJ2_indexOfCharUnsafe_4cfef_28 : decode cJ2_indexOfCharUnsafe_4cfef 28 = .ok (.iconst (-1), 1) := by decide +kernel
theorem dJ2_indexOfCharUnsafe_4cfef_29 : decode cJ2_indexOfCharUnsafe_4cfef 29 = .ok (.ireturn, 1) := by decide +kernel
theorem dJ2_indexOfSupplementary_4cfef_0 : decode cJ2_indexOfSupplementary_4cfef 0 = .ok (.iload_n 1, 1) := by decide +kernel
theorem dJ2_indexOfSupplementary_4cfef_1 : decode cJ2_indexOfSupplementary_4cfef 1 = .ok (.invokestatic 164, 3) := by decide +kernel
theorem dJ2_indexOfSupplementary_4cfef_4 : decode cJ2_indexOfSupplementary_4cfef 4 = .ok (.ifCond .eq 65, 3) := by decide +kernel
theorem dJ2_indexOfSupplementary_4cfef_7 : decode cJ2_indexOfSupplementary_4cfef 7 = .ok (.iload_n 1, 1) := by decide +kernel
theorem dJ2_indexOfSupplementary_4cfef_8 : decode cJ2_indexOfSupplementary_4cfef 8 = .ok (.invokestatic 157, 3) := by decide +kernel
theorem dJ2_indexOfSupplementary_4cfef_11 : decode cJ2_indexOfSupplementary_4cfef 11 = .ok (.istore 4, 2) := by decide +kernel
theorem dJ2_indexOfSupplementary_4cfef_13 : decode cJ2_indexOfSupplementary_4cfef 13 = .ok (.iload_n 1, 1) := by decide +kernel
theorem dJ2_indexOfSupplementary_4cfef_14 : decode cJ2_indexOfSupplementary_4cfef 14 = .ok (.invokestatic 161, 3) := by decide +kernel
theorem dJ2_indexOfSupplementary_4cfef_17 : decode cJ2_indexOfSupplementary_4cfef 17 = .ok (.istore 5, 2) := by decide +kernel
theorem dJ2_indexOfSupplementary_4cfef_19 : decode cJ2_indexOfSupplementary_4cfef 19 = .ok (.iload_n 2, 1) := by decide +kernel
theorem dJ2_indexOfSupplementary_4cfef_20 : decode cJ2_indexOfSupplementary_4cfef 20 = .ok (.iload_n 3, 1) := by decide +kernel
theorem dJ2_indexOfSupplementary_4cfef_21 : decode cJ2_indexOfSupplementary_4cfef 21 = .ok (.aload_n 0, 1) := by decide +kernel
theorem dJ2_indexOfSupplementary_4cfef_22 : decode cJ2_indexOfSupplementary_4cfef 22 = .ok (.invokestatic 96, 3) := by decide +kernel
theorem dJ2_indexOfSupplementary_4cfef_25 : decode cJ2_indexOfSupplementary_4cfef 25 = .ok (.iload_n 2, 1) := by decide +kernel
theorem dJ2_indexOfSupplementary_4cfef_26 : decode cJ2_indexOfSupplementary_4cfef 26 = .ok (.istore 6, 2) := by decide +kernel
theorem dJ2_indexOfSupplementary_4cfef_28 : decode cJ2_indexOfSupplementary_4cfef 28 = .ok (.iload 6, 2) := by decide +kernel
theorem dJ2_indexOfSupplementary_4cfef_30 : decode cJ2_indexOfSupplementary_4cfef 30 = .ok (.iload_n 3, 1) := by decide +kernel
theorem dJ2_indexOfSupplementary_4cfef_31 : decode cJ2_indexOfSupplementary_4cfef 31 = .ok (.iconst 1, 1) := by decide +kernel
theorem dJ2_indexOfSupplementary_4cfef_32 : decode cJ2_indexOfSupplementary_4cfef 32 = .ok (.isub, 1) := by decide +kernel
theorem dJ2_indexOfSupplementary_4cfef_33 : decode cJ2_indexOfSupplementary_4cfef 33 = .ok (.if_icmp .ge 36, 3) := by decide +kernel
theorem dJ2_indexOfSupplementary_4cfef_36 : decode cJ2_indexOfSupplementary_4cfef 36 = .ok (.aload_n 0, 1) := by decide +kernel
theorem dJ2_indexOfSupplementary_4cfef_37 : decode cJ2_indexOfSupplementary_4cfef 37 = .ok (.iload 6, 2) := by decide +kernel
theorem dJ2_indexOfSupplementary_4cfef_39 : decode cJ2_indexOfSupplementary_4cfef 39 = .ok (.invokestatic 71, 3) := by decide +kernel
theorem dJ2_indexOfSupplementary_4cfef_42 : decode cJ2_indexOfSupplementary_4cfef 42 = .ok (.iload 4, 2) := by decide +kernel
theorem dJ2_indexOfSupplementary_4cfef_44 : decode cJ2_indexOfSupplementary_4cfef 44 = .ok (.if_icmp .ne 19, 3) := by decide +kernel
theorem dJ2_indexOfSupplementary_4cfef_47 : decode cJ2_indexOfSupplementary_4cfef 47 = .ok (.aload_n 0, 1) := by decide +kernel
theorem dJ2_indexOfSupplementary_4cfef_48 : decode cJ2_indexOfSupplementary_4cfef 48 = .ok (.iload 6, 2) := by decide +kernel
theorem dJ2_indexOfSupplementary_4cfef_50 : decode cJ2_indexOfSupplementary_4cfef 50 = .ok (.iconst 1, 1) := by decide +kernel
theorem dJ2_indexOfSupplementary_4cfef_51 : decode cJ2_indexOfSupplementary_4cfef 51 = .ok (.iadd, 1) := by decide +kernel
theorem dJ2_indexOfSupplementary_4cfef_52 : decode cJ2_indexOfSupplementary_4cfef 52 = .ok (.invokestatic 71, 3) := by decide +kernel
theorem dJ2_indexOfSupplementary_4cfef_55 : decode cJ2_indexOfSupplementary_4cfef 55 = .ok (.iload 5, 2) := by decide +kernel
theorem dJ2_indexOfSupplementary_4cfef_57 : decode cJ2_indexOfSupplementary_4cfef 57 = .ok (.if_icmp .ne 6, 3) := by decide +kernel
theorem dJ2_indexOfSupplementary_4cfef_60 : decode cJ2_indexOfSupplementary_4cfef 60 = .ok (.iload 6, 2) := by decide +kernel
theorem dJ2_indexOfSupplementary_4cfef_62 : decode cJ2_indexOfSupplementary_4cfef 62 = .ok (.ireturn, 1) := by decide +kernel
theorem dJ2_indexOfSupplementary_4cfef_63 : decode cJ2_indexOfSupplementary_4cfef 63 = .ok (.iinc 6 1, 3) := by decide +kernel
theorem dJ2_indexOfSupplementary_4cfef_66 : decode cJ2_indexOfSupplementary_4cfef 66 = .ok (.goto (-38), 3) := by decide +kernel
theorem dJ2_indexOfSupplementary_4cfef_69 : decode cJ2_indexOfSupplementary_4cfef 69 = .ok (.iconst (-1), 1) := by decide +kernel
theorem dJ2_indexOfSupplementary_4cfef_70 : decode cJ2_indexOfSupplementary_4cfef 70 = .ok (.ireturn, 1) := by decide +kernel
theorem dJ2_charAt_3b067_0 : decode cJ2_charAt_3b067 0 = .ok (.iload_n 1, 1) := by decide +kernel
theorem dJ2_charAt_3b067_1 : decode cJ2_charAt_3b067 1 = .ok (.aload_n 0, 1) := by decide +kernel
theorem dJ2_charAt_3b067_2 : decode cJ2_charAt_3b067 2 = .ok (.invokestatic 67, 3) := by decide +kernel
theorem dJ2_charAt_3b067_5 : decode cJ2_charAt_3b067 5 = .ok (.aload_n 0, 1) := by decide +kernel
theorem dJ2_charAt_3b067_6 : decode cJ2_charAt_3b067 6 = .ok (.iload_n 1, 1) := by decide +kernel
theorem dJ2_charAt_3b067_7 : decode cJ2_charAt_3b067 7 = .ok (.invokestatic 71, 3) := by decide +kernel
theorem dJ2_charAt_3b067_10 : decode cJ2_charAt_3b067 10 = .ok (.ireturn, 1) := by decide +kernel
theorem dJ2_checkIndex_2214a_0 : decode cJ2_checkIndex_2214a 0 = .ok (.iload_n 0, 1) := by decide +kernel
theorem dJ2_checkIndex_2214a_1 : decode cJ2_checkIndex_2214a 1 = .ok (.aload_n 1, 1) := by decide +kernel
theorem dJ2_checkIndex_2214a_2 : decode cJ2_checkIndex_2214a 2 = .ok (.invokestatic 48, 3) := by decide +kernel
theorem dJ2_checkIndex_2214a_5 : decode cJ2_checkIndex_2214a 5 = .ok (.invokestatic 414, 3) := by decide +kernel
theorem dJ2_checkIndex_2214a_8 : decode cJ2_checkIndex_2214a 8 = .ok (.return_, 1) := by decide +kernel
theorem dJ2_checkBoundsBeginEnd_d044e_0 : decode cJ2_checkBoundsBeginEnd_d044e 0 = .ok (.iload_n 0, 1) := by decide +kernel
theorem dJ2_checkBoundsBeginEnd_d044e_1 : decode cJ2_checkBoundsBeginEnd_d044e 1 = .ok (.iload_n 1, 1) := by decide +kernel
theorem dJ2_checkBoundsBeginEnd_d044e_2 : decode cJ2_checkBoundsBeginEnd_d044e 2 = .ok (.aload_n 2, 1) := by decide +kernel
theorem dJ2_checkBoundsBeginEnd_d044e_3 : decode cJ2_checkBoundsBeginEnd_d044e 3 = .ok (.invokestatic 48, 3) := by decide +kernel
theorem dJ2_checkBoundsBeginEnd_d044e_6 : decode cJ2_checkBoundsBeginEnd_d044e 6 = .ok (.invokestatic 241, 3) := by decide +kernel
theorem dJ2_checkBoundsBeginEnd_d044e_9 : decode cJ2_checkBoundsBeginEnd_d044e 9 = .ok (.return_, 1) := by decide +kernel
theorem dJ7_fill_53178_0 : decode cJ7_fill_53178 0 = .ok (.iconst 0, 1) := by decide +kernel
theorem dJ7_fill_53178_1 : decode cJ7_fill_53178 1 = .ok (.istore_n 2, 1) := by decide +kernel
theorem dJ7_fill_53178_2 : decode cJ7_fill_53178 2 = .ok (.aload_n 0, 1) := by decide +kernel
theorem dJ7_fill_53178_3 : decode cJ7_fill_53178 3 = .ok (.arraylength, 1) := by decide +kernel
theorem dJ7_fill_53178_4 : decode cJ7_fill_53178 4 = .ok (.istore_n 3, 1) := by decide +kernel
theorem dJ7_fill_53178_5 : decode cJ7_fill_53178 5 = .ok (.iload_n 2, 1) := by decide +kernel
theorem dJ7_fill_53178_6 : decode cJ7_fill_53178 6 = .ok (.iload_n 3, 1) := by decide +kernel
theorem dJ7_fill_53178_7 : decode cJ7_fill_53178 7 = .ok (.if_icmp .ge 13, 3) := by decide +kernel
theorem dJ7_fill_53178_10 : decode cJ7_fill_53178 10 = .ok (.aload_n 0, 1) := by decide +kernel
theorem dJ7_fill_53178_11 : decode cJ7_fill_53178 11 = .ok (.iload_n 2, 1) := by decide +kernel
theorem dJ7_fill_53178_12 : decode cJ7_fill_53178 12 = .ok (.iload_n 1, 1) := by decide +kernel
theorem dJ7_fill_53178_13 : decode cJ7_fill_53178 13 = .ok (.iastore, 1) := by decide +kernel
theorem dJ7_fill_53178_14 : decode cJ7_fill_53178 14 = .ok (.iinc 2 1, 3) := by decide +kernel
theorem dJ7_fill_53178_17 : decode cJ7_fill_53178 17 = .ok (.goto (-12), 3) := by decide +kernel
theorem dJ7_fill_53178_20 : decode cJ7_fill_53178 20 = .ok (.return_, 1) := by decide +kernel
theorem dJ3_checkIndex_8e157_0 : decode cJ3_checkIndex_8e157 0 = .ok (.iload_n 0, 1) := by decide +kernel
theorem dJ3_checkIndex_8e157_1 : decode cJ3_checkIndex_8e157 1 = .ok (.ifCond .lt 8, 3) := by decide +kernel
theorem dJ3_checkIndex_8e157_4 : decode cJ3_checkIndex_8e157 4 = .ok (.iload_n 0, 1) := by decide +kernel
theorem dJ3_checkIndex_8e157_5 : decode cJ3_checkIndex_8e157 5 = .ok (.iload_n 1, 1) := by decide +kernel
theorem dJ3_checkIndex_8e157_6 : decode cJ3_checkIndex_8e157 6 = .ok (.if_icmp .lt 10, 3) := by decide +kernel
theorem dJ3_checkIndex_8e157_9 : decode cJ3_checkIndex_8e157 9 = .ok (.aload_n 2, 1) := by decide +kernel
theorem dJ3_checkIndex_8e157_10 : decode cJ3_checkIndex_8e157 10 = .ok (.iload_n 0, 1) := by decide +kernel
theorem dJ3_checkIndex_8e157_11 : decode cJ3_checkIndex_8e157 11 = .ok (.iload_n 1, 1) := by decide +kernel
theorem dJ3_checkIndex_8e157_12 : decode cJ3_checkIndex_8e157 12 = .ok (.invokestatic 95, 3) := by decide +kernel
theorem dJ3_checkIndex_8e157_15 : decode cJ3_checkIndex_8e157 15 = .ok (.athrow, 1) := by decide +kernel
theorem dJ3_checkIndex_8e157_16 : decode cJ3_checkIndex_8e157 16 = .ok (.iload_n 0, 1) := by decide +kernel
theorem dJ3_checkIndex_8e157_17 : decode cJ3_checkIndex_8e157 17 = .ok (.ireturn, 1) := by decide +kernel
theorem dJ3_checkFromToIndex_8c36e_0 : decode cJ3_checkFromToIndex_8c36e 0 = .ok (.iload_n 0, 1) := by decide +kernel
theorem dJ3_checkFromToIndex_8c36e_1 : decode cJ3_checkFromToIndex_8c36e 1 = .ok (.ifCond .lt 13, 3) := by decide +kernel
theorem dJ3_checkFromToIndex_8c36e_4 : decode cJ3_checkFromToIndex_8c36e 4 = .ok (.iload_n 0, 1) := by decide +kernel
theorem dJ3_checkFromToIndex_8c36e_5 : decode cJ3_checkFromToIndex_8c36e 5 = .ok (.iload_n 1, 1) := by decide +kernel
theorem dJ3_checkFromToIndex_8c36e_6 : decode cJ3_checkFromToIndex_8c36e 6 = .ok (.if_icmp .gt 8, 3) := by decide +kernel
theorem dJ3_checkFromToIndex_8c36e_9 : decode cJ3_checkFromToIndex_8c36e 9 = .ok (.iload_n 1, 1) := by decide +kernel
theorem dJ3_checkFromToIndex_8c36e_10 : decode cJ3_checkFromToIndex_8c36e 10 = .ok (.iload_n 2, 1) := by decide +kernel
theorem dJ3_checkFromToIndex_8c36e_11 : decode cJ3_checkFromToIndex_8c36e 11 = .ok (.if_icmp .le 11, 3) := by decide +kernel
theorem dJ3_checkFromToIndex_8c36e_14 : decode cJ3_checkFromToIndex_8c36e 14 = .ok (.aload_n 3, 1) := by decide +kernel
theorem dJ3_checkFromToIndex_8c36e_15 : decode cJ3_checkFromToIndex_8c36e 15 = .ok (.iload_n 0, 1) := by decide +kernel
theorem dJ3_checkFromToIndex_8c36e_16 : decode cJ3_checkFromToIndex_8c36e 16 = .ok (.iload_n 1, 1) := by decide +kernel
theorem dJ3_checkFromToIndex_8c36e_17 : decode cJ3_checkFromToIndex_8c36e 17 = .ok (.iload_n 2, 1) := by decide +kernel
theorem dJ3_checkFromToIndex_8c36e_18 : decode cJ3_checkFromToIndex_8c36e 18 = .ok (.invokestatic 99, 3) := by decide +kernel
theorem dJ3_checkFromToIndex_8c36e_21 : decode cJ3_checkFromToIndex_8c36e 21 = .ok (.athrow, 1) := by decide +kernel
theorem dJ3_checkFromToIndex_8c36e_22 : decode cJ3_checkFromToIndex_8c36e 22 = .ok (.iload_n 0, 1) := by decide +kernel
theorem dJ3_checkFromToIndex_8c36e_23 : decode cJ3_checkFromToIndex_8c36e 23 = .ok (.ireturn, 1) := by decide +kernel
theorem dL_law_0 : decode cL_law 0 = .ok (.new 7, 3) := by decide +kernel
theorem dL_law_3 : decode cL_law 3 = .ok (.dup, 1) := by decide +kernel
theorem dL_law_4 : decode cL_law 4 = .ok (.invokespecial 9, 3) := by decide +kernel
theorem dL_law_7 : decode cL_law 7 = .ok (.astore_n 1, 1) := by decide +kernel
theorem dL_law_8 : decode cL_law 8 = .ok (.new 10, 3) := by decide +kernel
theorem dL_law_11 : decode cL_law 11 = .ok (.dup, 1) := by decide +kernel
theorem dL_law_12 : decode cL_law 12 = .ok (.invokespecial 12, 3) := by decide +kernel
theorem dL_law_15 : decode cL_law 15 = .ok (.astore_n 2, 1) := by decide +kernel
theorem dL_law_16 : decode cL_law 16 = .ok (.iconst 0, 1) := by decide +kernel
theorem dL_law_17 : decode cL_law 17 = .ok (.istore_n 3, 1) := by decide +kernel
theorem dL_law_18 : decode cL_law 18 = .ok (.iload_n 3, 1) := by decide +kernel
theorem dL_law_19 : decode cL_law 19 = .ok (.aload_n 0, 1) := by decide +kernel
theorem dL_law_20 : decode cL_law 20 = .ok (.arraylength, 1) := by decide +kernel
theorem dL_law_21 : decode cL_law 21 = .ok (.iconst 5, 1) := by decide +kernel
theorem dL_law_22 : decode cL_law 22 = .ok (.isub, 1) := by decide +kernel
theorem dL_law_23 : decode cL_law 23 = .ok (.if_icmp .gt 694, 3) := by decide +kernel
theorem dL_law_26 : decode cL_law 26 = .ok (.aload_n 0, 1) := by decide +kernel
theorem dL_law_27 : decode cL_law 27 = .ok (.iload_n 3, 1) := by decide +kernel
theorem dL_law_28 : decode cL_law 28 = .ok (.iaload, 1) := by decide +kernel
theorem dL_law_29 : decode cL_law 29 = .ok (.bipush 31, 2) := by decide +kernel
theorem dL_law_31 : decode cL_law 31 = .ok (.iand, 1) := by decide +kernel
theorem dL_law_32 : decode cL_law 32 = .ok (.tableswitch 679 0 18 #[92, 115, 128, 141, 164, 207, 240, 283, 316, 359, 412, 445, 488, 521, 554, 587, 610, 633, 656], 92) := by decide +kernel
theorem dL_law_124 : decode cL_law 124 = .ok (.aload_n 1, 1) := by decide +kernel
theorem dL_law_125 : decode cL_law 125 = .ok (.aload_n 0, 1) := by decide +kernel
theorem dL_law_126 : decode cL_law 126 = .ok (.iload_n 3, 1) := by decide +kernel
theorem dL_law_127 : decode cL_law 127 = .ok (.iconst 1, 1) := by decide +kernel
theorem dL_law_128 : decode cL_law 128 = .ok (.iadd, 1) := by decide +kernel
theorem dL_law_129 : decode cL_law 129 = .ok (.iaload, 1) := by decide +kernel
theorem dL_law_130 : decode cL_law 130 = .ok (.invokevirtual 13, 3) := by decide +kernel
theorem dL_law_133 : decode cL_law 133 = .ok (.aload_n 2, 1) := by decide +kernel
theorem dL_law_134 : decode cL_law 134 = .ok (.aload_n 0, 1) := by decide +kernel
theorem dL_law_135 : decode cL_law 135 = .ok (.iload_n 3, 1) := by decide +kernel
theorem dL_law_136 : decode cL_law 136 = .ok (.iconst 1, 1) := by decide +kernel
theorem dL_law_137 : decode cL_law 137 = .ok (.iadd, 1) := by decide +kernel
theorem dL_law_138 : decode cL_law 138 = .ok (.iaload, 1) := by decide +kernel
theorem dL_law_139 : decode cL_law 139 = .ok (.invokevirtual 17, 3) := by decide +kernel
theorem dL_law_142 : decode cL_law 142 = .ok (.if_icmp .eq 569, 3) := by decide +kernel
theorem dL_law_145 : decode cL_law 145 = .ok (.iconst 0, 1) := by decide +kernel
theorem dL_law_146 : decode cL_law 146 = .ok (.ireturn, 1) := by decide +kernel
theorem dL_law_147 : decode cL_law 147 = .ok (.aload_n 1, 1) := by decide +kernel
theorem dL_law_148 : decode cL_law 148 = .ok (.invokevirtual 18, 3) := by decide +kernel
theorem dL_law_151 : decode cL_law 151 = .ok (.aload_n 2, 1) := by decide +kernel
theorem dL_law_152 : decode cL_law 152 = .ok (.invokevirtual 22, 3) := by decide +kernel
theorem dL_law_155 : decode cL_law 155 = .ok (.if_icmp .eq 556, 3) := by decide +kernel
theorem dL_law_158 : decode cL_law 158 = .ok (.iconst 0, 1) := by decide +kernel
theorem dL_law_159 : decode cL_law 159 = .ok (.ireturn, 1) := by decide +kernel
theorem dL_law_160 : decode cL_law 160 = .ok (.aload_n 1, 1) := by decide +kernel
theorem dL_law_161 : decode cL_law 161 = .ok (.invokevirtual 23, 3) := by decide +kernel
theorem dL_law_164 : decode cL_law 164 = .ok (.aload_n 2, 1) := by decide +kernel
theorem dL_law_165 : decode cL_law 165 = .ok (.invokevirtual 26, 3) := by decide +kernel
theorem dL_law_168 : decode cL_law 168 = .ok (.if_icmp .eq 543, 3) := by decide +kernel
theorem dL_law_171 : decode cL_law 171 = .ok (.iconst 0, 1) := by decide +kernel
theorem dL_law_172 : decode cL_law 172 = .ok (.ireturn, 1) := by decide +kernel
theorem dL_law_173 : decode cL_law 173 = .ok (.aload_n 1, 1) := by decide +kernel
theorem dL_law_174 : decode cL_law 174 = .ok (.aload_n 0, 1) := by decide +kernel
theorem dL_law_175 : decode cL_law 175 = .ok (.iload_n 3, 1) := by decide +kernel
theorem dL_law_176 : decode cL_law 176 = .ok (.iconst 1, 1) := by decide +kernel
theorem dL_law_177 : decode cL_law 177 = .ok (.iadd, 1) := by decide +kernel
theorem dL_law_178 : decode cL_law 178 = .ok (.iaload, 1) := by decide +kernel
theorem dL_law_179 : decode cL_law 179 = .ok (.invokevirtual 27, 3) := by decide +kernel
theorem dL_law_182 : decode cL_law 182 = .ok (.aload_n 2, 1) := by decide +kernel
theorem dL_law_183 : decode cL_law 183 = .ok (.aload_n 0, 1) := by decide +kernel
theorem dL_law_184 : decode cL_law 184 = .ok (.iload_n 3, 1) := by decide +kernel
theorem dL_law_185 : decode cL_law 185 = .ok (.iconst 1, 1) := by decide +kernel
theorem dL_law_186 : decode cL_law 186 = .ok (.iadd, 1) := by decide +kernel
theorem dL_law_187 : decode cL_law 187 = .ok (.iaload, 1) := by decide +kernel
theorem dL_law_188 : decode cL_law 188 = .ok (.invokevirtual 30, 3) := by decide +kernel
theorem dL_law_191 : decode cL_law 191 = .ok (.if_icmp .eq 520, 3) := by decide +kernel
theorem dL_law_194 : decode cL_law 194 = .ok (.iconst 0, 1) := by decide +kernel
theorem dL_law_195 : decode cL_law 195 = .ok (.ireturn, 1) := by decide +kernel
theorem dL_law_196 : decode cL_law 196 = .ok (.aload_n 1, 1) := by decide +kernel
theorem dL_law_197 : decode cL_law 197 = .ok (.aload_n 0, 1) := by decide +kernel
theorem dL_law_198 : decode cL_law 198 = .ok (.iload_n 3, 1) := by decide +kernel
theorem dL_law_199 : decode cL_law 199 = .ok (.iconst 1, 1) := by decide +kernel
theorem dL_law_200 : decode cL_law 200 = .ok (.iadd, 1) := by decide +kernel
theorem dL_law_201 : decode cL_law 201 = .ok (.iaload, 1) := by decide +kernel
theorem dL_law_202 : decode cL_law 202 = .ok (.aload_n 0, 1) := by decide +kernel
theorem dL_law_203 : decode cL_law 203 = .ok (.iload_n 3, 1) := by decide +kernel
theorem dL_law_204 : decode cL_law 204 = .ok (.iconst 2, 1) := by decide +kernel
theorem dL_law_205 : decode cL_law 205 = .ok (.iadd, 1) := by decide +kernel
theorem dL_law_206 : decode cL_law 206 = .ok (.iaload, 1) := by decide +kernel
theorem dL_law_207 : decode cL_law 207 = .ok (.aload_n 0, 1) := by decide +kernel
theorem dL_law_208 : decode cL_law 208 = .ok (.iload_n 3, 1) := by decide +kernel
theorem dL_law_209 : decode cL_law 209 = .ok (.iconst 3, 1) := by decide +kernel
theorem dL_law_210 : decode cL_law 210 = .ok (.iadd, 1) := by decide +kernel
theorem dL_law_211 : decode cL_law 211 = .ok (.iaload, 1) := by decide +kernel
theorem dL_law_212 : decode cL_law 212 = .ok (.invokevirtual 31, 3) := by decide +kernel
theorem dL_law_215 : decode cL_law 215 = .ok (.aload_n 2, 1) := by decide +kernel
theorem dL_law_216 : decode cL_law 216 = .ok (.aload_n 0, 1) := by decide +kernel
theorem dL_law_217 : decode cL_law 217 = .ok (.iload_n 3, 1) := by decide +kernel
theorem dL_law_218 : decode cL_law 218 = .ok (.iconst 1, 1) := by decide +kernel
theorem dL_law_219 : decode cL_law 219 = .ok (.iadd, 1) := by decide +kernel
theorem dL_law_220 : decode cL_law 220 = .ok (.iaload, 1) := by decide +kernel
theorem dL_law_221 : decode cL_law 221 = .ok (.aload_n 0, 1) := by decide +kernel
theorem dL_law_222 : decode cL_law 222 = .ok (.iload_n 3, 1) := by decide +kernel
theorem dL_law_223 : decode cL_law 223 = .ok (.iconst 2, 1) := by decide +kernel
theorem dL_law_224 : decode cL_law 224 = .ok (.iadd, 1) := by decide +kernel
theorem dL_law_225 : decode cL_law 225 = .ok (.iaload, 1) := by decide +kernel
theorem dL_law_226 : decode cL_law 226 = .ok (.aload_n 0, 1) := by decide +kernel
theorem dL_law_227 : decode cL_law 227 = .ok (.iload_n 3, 1) := by decide +kernel
theorem dL_law_228 : decode cL_law 228 = .ok (.iconst 3, 1) := by decide +kernel
theorem dL_law_229 : decode cL_law 229 = .ok (.iadd, 1) := by decide +kernel
theorem dL_law_230 : decode cL_law 230 = .ok (.iaload, 1) := by decide +kernel
theorem dL_law_231 : decode cL_law 231 = .ok (.invokevirtual 35, 3) := by decide +kernel
theorem dL_law_234 : decode cL_law 234 = .ok (.if_icmp .eq 477, 3) := by decide +kernel
theorem dL_law_237 : decode cL_law 237 = .ok (.iconst 0, 1) := by decide +kernel
theorem dL_law_238 : decode cL_law 238 = .ok (.ireturn, 1) := by decide +kernel
theorem dL_law_239 : decode cL_law 239 = .ok (.aload_n 1, 1) := by decide +kernel
theorem dL_law_240 : decode cL_law 240 = .ok (.aload_n 0, 1) := by decide +kernel
theorem dL_law_241 : decode cL_law 241 = .ok (.iload_n 3, 1) := by decide +kernel
theorem dL_law_242 : decode cL_law 242 = .ok (.iconst 1, 1) := by decide +kernel
theorem dL_law_243 : decode cL_law 243 = .ok (.iadd, 1) := by decide +kernel
theorem dL_law_244 : decode cL_law 244 = .ok (.iaload, 1) := by decide +kernel
theorem dL_law_245 : decode cL_law 245 = .ok (.aload_n 0, 1) := by decide +kernel
theorem dL_law_246 : decode cL_law 246 = .ok (.iload_n 3, 1) := by decide +kernel
theorem dL_law_247 : decode cL_law 247 = .ok (.iconst 2, 1) := by decide +kernel
theorem dL_law_248 : decode cL_law 248 = .ok (.iadd, 1) := by decide +kernel
theorem dL_law_249 : decode cL_law 249 = .ok (.iaload, 1) := by decide +kernel
theorem dL_law_250 : decode cL_law 250 = .ok (.invokevirtual 36, 3) := by decide +kernel
theorem dL_law_253 : decode cL_law 253 = .ok (.aload_n 2, 1) := by decide +kernel
theorem dL_law_254 : decode cL_law 254 = .ok (.aload_n 0, 1) := by decide +kernel
theorem dL_law_255 : decode cL_law 255 = .ok (.iload_n 3, 1) := by decide +kernel
theorem dL_law_256 : decode cL_law 256 = .ok (.iconst 1, 1) := by decide +kernel
theorem dL_law_257 : decode cL_law 257 = .ok (.iadd, 1) := by decide +kernel
theorem dL_law_258 : decode cL_law 258 = .ok (.iaload, 1) := by decide +kernel
theorem dL_law_259 : decode cL_law 259 = .ok (.aload_n 0, 1) := by decide +kernel
theorem dL_law_260 : decode cL_law 260 = .ok (.iload_n 3, 1) := by decide +kernel
theorem dL_law_261 : decode cL_law 261 = .ok (.iconst 2, 1) := by decide +kernel
theorem dL_law_262 : decode cL_law 262 = .ok (.iadd, 1) := by decide +kernel
theorem dL_law_263 : decode cL_law 263 = .ok (.iaload, 1) := by decide +kernel
theorem dL_law_264 : decode cL_law 264 = .ok (.invokevirtual 40, 3) := by decide +kernel
theorem dL_law_267 : decode cL_law 267 = .ok (.if_icmp .eq 444, 3) := by decide +kernel
theorem dL_law_270 : decode cL_law 270 = .ok (.iconst 0, 1) := by decide +kernel
theorem dL_law_271 : decode cL_law 271 = .ok (.ireturn, 1) := by decide +kernel
theorem dL_law_272 : decode cL_law 272 = .ok (.aload_n 1, 1) := by decide +kernel
theorem dL_law_273 : decode cL_law 273 = .ok (.aload_n 0, 1) := by decide +kernel
theorem dL_law_274 : decode cL_law 274 = .ok (.iload_n 3, 1) := by decide +kernel
theorem dL_law_275 : decode cL_law 275 = .ok (.iconst 1, 1) := by decide +kernel
theorem dL_law_276 : decode cL_law 276 = .ok (.iadd, 1) := by decide +kernel
theorem dL_law_277 : decode cL_law 277 = .ok (.iaload, 1) := by decide +kernel
theorem dL_law_278 : decode cL_law 278 = .ok (.aload_n 0, 1) := by decide +kernel
theorem dL_law_279 : decode cL_law 279 = .ok (.iload_n 3, 1) := by decide +kernel
theorem dL_law_280 : decode cL_law 280 = .ok (.iconst 2, 1) := by decide +kernel
theorem dL_law_281 : decode cL_law 281 = .ok (.iadd, 1) := by decide +kernel
theorem dL_law_282 : decode cL_law 282 = .ok (.iaload, 1) := by decide +kernel
theorem dL_law_283 : decode cL_law 283 = .ok (.aload_n 0, 1) := by decide +kernel
theorem dL_law_284 : decode cL_law 284 = .ok (.iload_n 3, 1) := by decide +kernel
theorem dL_law_285 : decode cL_law 285 = .ok (.iconst 3, 1) := by decide +kernel
theorem dL_law_286 : decode cL_law 286 = .ok (.iadd, 1) := by decide +kernel
theorem dL_law_287 : decode cL_law 287 = .ok (.iaload, 1) := by decide +kernel
theorem dL_law_288 : decode cL_law 288 = .ok (.invokevirtual 41, 3) := by decide +kernel
theorem dL_law_291 : decode cL_law 291 = .ok (.aload_n 2, 1) := by decide +kernel
theorem dL_law_292 : decode cL_law 292 = .ok (.aload_n 0, 1) := by decide +kernel
theorem dL_law_293 : decode cL_law 293 = .ok (.iload_n 3, 1) := by decide +kernel
theorem dL_law_294 : decode cL_law 294 = .ok (.iconst 1, 1) := by decide +kernel
theorem dL_law_295 : decode cL_law 295 = .ok (.iadd, 1) := by decide +kernel
theorem dL_law_296 : decode cL_law 296 = .ok (.iaload, 1) := by decide +kernel
theorem dL_law_297 : decode cL_law 297 = .ok (.aload_n 0, 1) := by decide +kernel
theorem dL_law_298 : decode cL_law 298 = .ok (.iload_n 3, 1) := by decide +kernel
theorem dL_law_299 : decode cL_law 299 = .ok (.iconst 2, 1) := by decide +kernel
theorem dL_law_300 : decode cL_law 300 = .ok (.iadd, 1) := by decide +kernel
theorem dL_law_301 : decode cL_law 301 = .ok (.iaload, 1) := by decide +kernel
theorem dL_law_302 : decode cL_law 302 = .ok (.aload_n 0, 1) := by decide +kernel
theorem dL_law_303 : decode cL_law 303 = .ok (.iload_n 3, 1) := by decide +kernel
theorem dL_law_304 : decode cL_law 304 = .ok (.iconst 3, 1) := by decide +kernel
theorem dL_law_305 : decode cL_law 305 = .ok (.iadd, 1) := by decide +kernel
theorem dL_law_306 : decode cL_law 306 = .ok (.iaload, 1) := by decide +kernel
theorem dL_law_307 : decode cL_law 307 = .ok (.invokevirtual 44, 3) := by decide +kernel
theorem dL_law_310 : decode cL_law 310 = .ok (.if_icmp .eq 401, 3) := by decide +kernel
theorem dL_law_313 : decode cL_law 313 = .ok (.iconst 0, 1) := by decide +kernel
theorem dL_law_314 : decode cL_law 314 = .ok (.ireturn, 1) := by decide +kernel
theorem dL_law_315 : decode cL_law 315 = .ok (.aload_n 1, 1) := by decide +kernel
theorem dL_law_316 : decode cL_law 316 = .ok (.aload_n 0, 1) := by decide +kernel
theorem dL_law_317 : decode cL_law 317 = .ok (.iload_n 3, 1) := by decide +kernel
theorem dL_law_318 : decode cL_law 318 = .ok (.iconst 1, 1) := by decide +kernel
theorem dL_law_319 : decode cL_law 319 = .ok (.iadd, 1) := by decide +kernel
theorem dL_law_320 : decode cL_law 320 = .ok (.iaload, 1) := by decide +kernel
theorem dL_law_321 : decode cL_law 321 = .ok (.aload_n 0, 1) := by decide +kernel
theorem dL_law_322 : decode cL_law 322 = .ok (.iload_n 3, 1) := by decide +kernel
theorem dL_law_323 : decode cL_law 323 = .ok (.iconst 2, 1) := by decide +kernel
theorem dL_law_324 : decode cL_law 324 = .ok (.iadd, 1) := by decide +kernel
theorem dL_law_325 : decode cL_law 325 = .ok (.iaload, 1) := by decide +kernel
theorem dL_law_326 : decode cL_law 326 = .ok (.invokevirtual 45, 3) := by decide +kernel
theorem dL_law_329 : decode cL_law 329 = .ok (.aload_n 2, 1) := by decide +kernel
theorem dL_law_330 : decode cL_law 330 = .ok (.aload_n 0, 1) := by decide +kernel
theorem dL_law_331 : decode cL_law 331 = .ok (.iload_n 3, 1) := by decide +kernel
theorem dL_law_332 : decode cL_law 332 = .ok (.iconst 1, 1) := by decide +kernel
theorem dL_law_333 : decode cL_law 333 = .ok (.iadd, 1) := by decide +kernel
theorem dL_law_334 : decode cL_law 334 = .ok (.iaload, 1) := by decide +kernel
theorem dL_law_335 : decode cL_law 335 = .ok (.aload_n 0, 1) := by decide +kernel
theorem dL_law_336 : decode cL_law 336 = .ok (.iload_n 3, 1) := by decide +kernel
theorem dL_law_337 : decode cL_law 337 = .ok (.iconst 2, 1) := by decide +kernel
theorem dL_law_338 : decode cL_law 338 = .ok (.iadd, 1) := by decide +kernel
theorem dL_law_339 : decode cL_law 339 = .ok (.iaload, 1) := by decide +kernel
theorem dL_law_340 : decode cL_law 340 = .ok (.invokevirtual 48, 3) := by decide +kernel
theorem dL_law_343 : decode cL_law 343 = .ok (.if_icmp .eq 368, 3) := by decide +kernel
theorem dL_law_346 : decode cL_law 346 = .ok (.iconst 0, 1) := by decide +kernel
theorem dL_law_347 : decode cL_law 347 = .ok (.ireturn, 1) := by decide +kernel
theorem dL_law_348 : decode cL_law 348 = .ok (.aload_n 1, 1) := by decide +kernel
theorem dL_law_349 : decode cL_law 349 = .ok (.aload_n 0, 1) := by decide +kernel
theorem dL_law_350 : decode cL_law 350 = .ok (.iload_n 3, 1) := by decide +kernel
theorem dL_law_351 : decode cL_law 351 = .ok (.iconst 1, 1) := by decide +kernel
theorem dL_law_352 : decode cL_law 352 = .ok (.iadd, 1) := by decide +kernel
theorem dL_law_353 : decode cL_law 353 = .ok (.iaload, 1) := by decide +kernel
theorem dL_law_354 : decode cL_law 354 = .ok (.aload_n 0, 1) := by decide +kernel
theorem dL_law_355 : decode cL_law 355 = .ok (.iload_n 3, 1) := by decide +kernel
theorem dL_law_356 : decode cL_law 356 = .ok (.iconst 2, 1) := by decide +kernel
theorem dL_law_357 : decode cL_law 357 = .ok (.iadd, 1) := by decide +kernel
theorem dL_law_358 : decode cL_law 358 = .ok (.iaload, 1) := by decide +kernel
theorem dL_law_359 : decode cL_law 359 = .ok (.aload_n 0, 1) := by decide +kernel
theorem dL_law_360 : decode cL_law 360 = .ok (.iload_n 3, 1) := by decide +kernel
theorem dL_law_361 : decode cL_law 361 = .ok (.iconst 3, 1) := by decide +kernel
theorem dL_law_362 : decode cL_law 362 = .ok (.iadd, 1) := by decide +kernel
theorem dL_law_363 : decode cL_law 363 = .ok (.iaload, 1) := by decide +kernel
theorem dL_law_364 : decode cL_law 364 = .ok (.invokevirtual 49, 3) := by decide +kernel
theorem dL_law_367 : decode cL_law 367 = .ok (.aload_n 2, 1) := by decide +kernel
theorem dL_law_368 : decode cL_law 368 = .ok (.aload_n 0, 1) := by decide +kernel
theorem dL_law_369 : decode cL_law 369 = .ok (.iload_n 3, 1) := by decide +kernel
theorem dL_law_370 : decode cL_law 370 = .ok (.iconst 1, 1) := by decide +kernel
theorem dL_law_371 : decode cL_law 371 = .ok (.iadd, 1) := by decide +kernel
theorem dL_law_372 : decode cL_law 372 = .ok (.iaload, 1) := by decide +kernel
theorem dL_law_373 : decode cL_law 373 = .ok (.aload_n 0, 1) := by decide +kernel
theorem dL_law_374 : decode cL_law 374 = .ok (.iload_n 3, 1) := by decide +kernel
theorem dL_law_375 : decode cL_law 375 = .ok (.iconst 2, 1) := by decide +kernel
theorem dL_law_376 : decode cL_law 376 = .ok (.iadd, 1) := by decide +kernel
theorem dL_law_377 : decode cL_law 377 = .ok (.iaload, 1) := by decide +kernel
theorem dL_law_378 : decode cL_law 378 = .ok (.aload_n 0, 1) := by decide +kernel
theorem dL_law_379 : decode cL_law 379 = .ok (.iload_n 3, 1) := by decide +kernel
theorem dL_law_380 : decode cL_law 380 = .ok (.iconst 3, 1) := by decide +kernel
theorem dL_law_381 : decode cL_law 381 = .ok (.iadd, 1) := by decide +kernel
theorem dL_law_382 : decode cL_law 382 = .ok (.iaload, 1) := by decide +kernel
theorem dL_law_383 : decode cL_law 383 = .ok (.invokevirtual 52, 3) := by decide +kernel
theorem dL_law_386 : decode cL_law 386 = .ok (.if_icmp .eq 325, 3) := by decide +kernel
theorem dL_law_389 : decode cL_law 389 = .ok (.iconst 0, 1) := by decide +kernel
theorem dL_law_390 : decode cL_law 390 = .ok (.ireturn, 1) := by decide +kernel
theorem dL_law_391 : decode cL_law 391 = .ok (.aload_n 1, 1) := by decide +kernel
theorem dL_law_392 : decode cL_law 392 = .ok (.aload_n 0, 1) := by decide +kernel
theorem dL_law_393 : decode cL_law 393 = .ok (.iload_n 3, 1) := by decide +kernel
theorem dL_law_394 : decode cL_law 394 = .ok (.iconst 1, 1) := by decide +kernel
theorem dL_law_395 : decode cL_law 395 = .ok (.iadd, 1) := by decide +kernel
theorem dL_law_396 : decode cL_law 396 = .ok (.iaload, 1) := by decide +kernel
theorem dL_law_397 : decode cL_law 397 = .ok (.aload_n 0, 1) := by decide +kernel
theorem dL_law_398 : decode cL_law 398 = .ok (.iload_n 3, 1) := by decide +kernel
theorem dL_law_399 : decode cL_law 399 = .ok (.iconst 2, 1) := by decide +kernel
theorem dL_law_400 : decode cL_law 400 = .ok (.iadd, 1) := by decide +kernel
theorem dL_law_401 : decode cL_law 401 = .ok (.iaload, 1) := by decide +kernel
theorem dL_law_402 : decode cL_law 402 = .ok (.aload_n 0, 1) := by decide +kernel
theorem dL_law_403 : decode cL_law 403 = .ok (.iload_n 3, 1) := by decide +kernel
theorem dL_law_404 : decode cL_law 404 = .ok (.iconst 3, 1) := by decide +kernel
theorem dL_law_405 : decode cL_law 405 = .ok (.iadd, 1) := by decide +kernel
theorem dL_law_406 : decode cL_law 406 = .ok (.iaload, 1) := by decide +kernel
theorem dL_law_407 : decode cL_law 407 = .ok (.aload_n 0, 1) := by decide +kernel
theorem dL_law_408 : decode cL_law 408 = .ok (.iload_n 3, 1) := by decide +kernel
theorem dL_law_409 : decode cL_law 409 = .ok (.iconst 4, 1) := by decide +kernel
theorem dL_law_410 : decode cL_law 410 = .ok (.iadd, 1) := by decide +kernel
theorem dL_law_411 : decode cL_law 411 = .ok (.iaload, 1) := by decide +kernel
theorem dL_law_412 : decode cL_law 412 = .ok (.invokevirtual 53, 3) := by decide +kernel
theorem dL_law_415 : decode cL_law 415 = .ok (.aload_n 2, 1) := by decide +kernel
theorem dL_law_416 : decode cL_law 416 = .ok (.aload_n 0, 1) := by decide +kernel
theorem dL_law_417 : decode cL_law 417 = .ok (.iload_n 3, 1) := by decide +kernel
theorem dL_law_418 : decode cL_law 418 = .ok (.iconst 1, 1) := by decide +kernel
theorem dL_law_419 : decode cL_law 419 = .ok (.iadd, 1) := by decide +kernel
theorem dL_law_420 : decode cL_law 420 = .ok (.iaload, 1) := by decide +kernel
theorem dL_law_421 : decode cL_law 421 = .ok (.aload_n 0, 1) := by decide +kernel
theorem dL_law_422 : decode cL_law 422 = .ok (.iload_n 3, 1) := by decide +kernel
theorem dL_law_423 : decode cL_law 423 = .ok (.iconst 2, 1) := by decide +kernel
theorem dL_law_424 : decode cL_law 424 = .ok (.iadd, 1) := by decide +kernel
theorem dL_law_425 : decode cL_law 425 = .ok (.iaload, 1) := by decide +kernel
theorem dL_law_426 : decode cL_law 426 = .ok (.aload_n 0, 1) := by decide +kernel
theorem dL_law_427 : decode cL_law 427 = .ok (.iload_n 3, 1) := by decide +kernel
theorem dL_law_428 : decode cL_law 428 = .ok (.iconst 3, 1) := by decide +kernel
theorem dL_law_429 : decode cL_law 429 = .ok (.iadd, 1) := by decide +kernel
theorem dL_law_430 : decode cL_law 430 = .ok (.iaload, 1) := by decide +kernel
theorem dL_law_431 : decode cL_law 431 = .ok (.aload_n 0, 1) := by decide +kernel
theorem dL_law_432 : decode cL_law 432 = .ok (.iload_n 3, 1) := by decide +kernel
theorem dL_law_433 : decode cL_law 433 = .ok (.iconst 4, 1) := by decide +kernel
theorem dL_law_434 : decode cL_law 434 = .ok (.iadd, 1) := by decide +kernel
theorem dL_law_435 : decode cL_law 435 = .ok (.iaload, 1) := by decide +kernel
theorem dL_law_436 : decode cL_law 436 = .ok (.invokevirtual 57, 3) := by decide +kernel
theorem dL_law_439 : decode cL_law 439 = .ok (.if_icmp .eq 272, 3) := by decide +kernel
theorem dL_law_442 : decode cL_law 442 = .ok (.iconst 0, 1) := by decide +kernel
theorem dL_law_443 : decode cL_law 443 = .ok (.ireturn, 1) := by decide +kernel
theorem dL_law_444 : decode cL_law 444 = .ok (.aload_n 1, 1) := by decide +kernel
theorem dL_law_445 : decode cL_law 445 = .ok (.aload_n 0, 1) := by decide +kernel
theorem dL_law_446 : decode cL_law 446 = .ok (.iload_n 3, 1) := by decide +kernel
theorem dL_law_447 : decode cL_law 447 = .ok (.iconst 1, 1) := by decide +kernel
theorem dL_law_448 : decode cL_law 448 = .ok (.iadd, 1) := by decide +kernel
theorem dL_law_449 : decode cL_law 449 = .ok (.iaload, 1) := by decide +kernel
theorem dL_law_450 : decode cL_law 450 = .ok (.aload_n 0, 1) := by decide +kernel
theorem dL_law_451 : decode cL_law 451 = .ok (.iload_n 3, 1) := by decide +kernel
theorem dL_law_452 : decode cL_law 452 = .ok (.iconst 2, 1) := by decide +kernel
theorem dL_law_453 : decode cL_law 453 = .ok (.iadd, 1) := by decide +kernel
theorem dL_law_454 : decode cL_law 454 = .ok (.iaload, 1) := by decide +kernel
theorem dL_law_455 : decode cL_law 455 = .ok (.invokevirtual 58, 3) := by decide +kernel
theorem dL_law_458 : decode cL_law 458 = .ok (.aload_n 2, 1) := by decide +kernel
theorem dL_law_459 : decode cL_law 459 = .ok (.aload_n 0, 1) := by decide +kernel
theorem dL_law_460 : decode cL_law 460 = .ok (.iload_n 3, 1) := by decide +kernel
theorem dL_law_461 : decode cL_law 461 = .ok (.iconst 1, 1) := by decide +kernel
theorem dL_law_462 : decode cL_law 462 = .ok (.iadd, 1) := by decide +kernel
theorem dL_law_463 : decode cL_law 463 = .ok (.iaload, 1) := by decide +kernel
theorem dL_law_464 : decode cL_law 464 = .ok (.aload_n 0, 1) := by decide +kernel
theorem dL_law_465 : decode cL_law 465 = .ok (.iload_n 3, 1) := by decide +kernel
theorem dL_law_466 : decode cL_law 466 = .ok (.iconst 2, 1) := by decide +kernel
theorem dL_law_467 : decode cL_law 467 = .ok (.iadd, 1) := by decide +kernel
theorem dL_law_468 : decode cL_law 468 = .ok (.iaload, 1) := by decide +kernel
theorem dL_law_469 : decode cL_law 469 = .ok (.invokevirtual 61, 3) := by decide +kernel
theorem dL_law_472 : decode cL_law 472 = .ok (.if_icmp .eq 239, 3) := by decide +kernel
theorem dL_law_475 : decode cL_law 475 = .ok (.iconst 0, 1) := by decide +kernel
theorem dL_law_476 : decode cL_law 476 = .ok (.ireturn, 1) := by decide +kernel
theorem dL_law_477 : decode cL_law 477 = .ok (.aload_n 1, 1) := by decide +kernel
theorem dL_law_478 : decode cL_law 478 = .ok (.aload_n 0, 1) := by decide +kernel
theorem dL_law_479 : decode cL_law 479 = .ok (.iload_n 3, 1) := by decide +kernel
theorem dL_law_480 : decode cL_law 480 = .ok (.iconst 1, 1) := by decide +kernel
theorem dL_law_481 : decode cL_law 481 = .ok (.iadd, 1) := by decide +kernel
theorem dL_law_482 : decode cL_law 482 = .ok (.iaload, 1) := by decide +kernel
theorem dL_law_483 : decode cL_law 483 = .ok (.aload_n 0, 1) := by decide +kernel
theorem dL_law_484 : decode cL_law 484 = .ok (.iload_n 3, 1) := by decide +kernel
theorem dL_law_485 : decode cL_law 485 = .ok (.iconst 2, 1) := by decide +kernel
theorem dL_law_486 : decode cL_law 486 = .ok (.iadd, 1) := by decide +kernel
theorem dL_law_487 : decode cL_law 487 = .ok (.iaload, 1) := by decide +kernel
theorem dL_law_488 : decode cL_law 488 = .ok (.aload_n 0, 1) := by decide +kernel
theorem dL_law_489 : decode cL_law 489 = .ok (.iload_n 3, 1) := by decide +kernel
theorem dL_law_490 : decode cL_law 490 = .ok (.iconst 3, 1) := by decide +kernel
theorem dL_law_491 : decode cL_law 491 = .ok (.iadd, 1) := by decide +kernel
theorem dL_law_492 : decode cL_law 492 = .ok (.iaload, 1) := by decide +kernel
theorem dL_law_493 : decode cL_law 493 = .ok (.invokevirtual 62, 3) := by decide +kernel
theorem dL_law_496 : decode cL_law 496 = .ok (.aload_n 2, 1) := by decide +kernel
theorem dL_law_497 : decode cL_law 497 = .ok (.aload_n 0, 1) := by decide +kernel
theorem dL_law_498 : decode cL_law 498 = .ok (.iload_n 3, 1) := by decide +kernel
theorem dL_law_499 : decode cL_law 499 = .ok (.iconst 1, 1) := by decide +kernel
theorem dL_law_500 : decode cL_law 500 = .ok (.iadd, 1) := by decide +kernel
theorem dL_law_501 : decode cL_law 501 = .ok (.iaload, 1) := by decide +kernel
end
section
theorem dL_law_502 : decode cL_law 502 = .ok (.aload_n 0, 1) := by decide +kernel
theorem dL_law_503 : decode cL_law 503 = .ok (.iload_n 3, 1) := by decide +kernel
theorem dL_law_504 : decode cL_law 504 = .ok (.iconst 2, 1) := by decide +kernel
theorem dL_law_505 : decode cL_law 505 = .ok (.iadd, 1) := by decide +kernel
theorem dL_law_506 : decode cL_law 506 = .ok (.iaload, 1) := by decide +kernel
theorem dL_law_507 : decode cL_law 507 = .ok (.aload_n 0, 1) := by decide +kernel
theorem dL_law_508 : decode cL_law 508 = .ok (.iload_n 3, 1) := by decide +kernel
theorem dL_law_509 : decode cL_law 509 = .ok (.iconst 3, 1) := by decide +kernel
theorem dL_law_510 : decode cL_law 510 = .ok (.iadd, 1) := by decide +kernel
theorem dL_law_511 : decode cL_law 511 = .ok (.iaload, 1) := by decide +kernel
theorem dL_law_512 : decode cL_law 512 = .ok (.invokevirtual 65, 3) := by decide +kernel
theorem dL_law_515 : decode cL_law 515 = .ok (.if_icmp .eq 196, 3) := by decide +kernel
theorem dL_law_518 : decode cL_law 518 = .ok (.iconst 0, 1) := by decide +kernel
theorem dL_law_519 : decode cL_law 519 = .ok (.ireturn, 1) := by decide +kernel
theorem dL_law_520 : decode cL_law 520 = .ok (.aload_n 1, 1) := by decide +kernel
theorem dL_law_521 : decode cL_law 521 = .ok (.aload_n 0, 1) := by decide +kernel
theorem dL_law_522 : decode cL_law 522 = .ok (.iload_n 3, 1) := by decide +kernel
theorem dL_law_523 : decode cL_law 523 = .ok (.iconst 1, 1) := by decide +kernel
theorem dL_law_524 : decode cL_law 524 = .ok (.iadd, 1) := by decide +kernel
theorem dL_law_525 : decode cL_law 525 = .ok (.iaload, 1) := by decide +kernel
theorem dL_law_526 : decode cL_law 526 = .ok (.aload_n 0, 1) := by decide +kernel
theorem dL_law_527 : decode cL_law 527 = .ok (.iload_n 3, 1) := by decide +kernel
theorem dL_law_528 : decode cL_law 528 = .ok (.iconst 2, 1) := by decide +kernel
theorem dL_law_529 : decode cL_law 529 = .ok (.iadd, 1) := by decide +kernel
theorem dL_law_530 : decode cL_law 530 = .ok (.iaload, 1) := by decide +kernel
theorem dL_law_531 : decode cL_law 531 = .ok (.invokevirtual 66, 3) := by decide +kernel
theorem dL_law_534 : decode cL_law 534 = .ok (.aload_n 2, 1) := by decide +kernel
theorem dL_law_535 : decode cL_law 535 = .ok (.aload_n 0, 1) := by decide +kernel
theorem dL_law_536 : decode cL_law 536 = .ok (.iload_n 3, 1) := by decide +kernel
theorem dL_law_537 : decode cL_law 537 = .ok (.iconst 1, 1) := by decide +kernel
theorem dL_law_538 : decode cL_law 538 = .ok (.iadd, 1) := by decide +kernel
theorem dL_law_539 : decode cL_law 539 = .ok (.iaload, 1) := by decide +kernel
theorem dL_law_540 : decode cL_law 540 = .ok (.aload_n 0, 1) := by decide +kernel
theorem dL_law_541 : decode cL_law 541 = .ok (.iload_n 3, 1) := by decide +kernel
theorem dL_law_542 : decode cL_law 542 = .ok (.iconst 2, 1) := by decide +kernel
theorem dL_law_543 : decode cL_law 543 = .ok (.iadd, 1) := by decide +kernel
theorem dL_law_544 : decode cL_law 544 = .ok (.iaload, 1) := by decide +kernel
theorem dL_law_545 : decode cL_law 545 = .ok (.invokevirtual 69, 3) := by decide +kernel
theorem dL_law_548 : decode cL_law 548 = .ok (.if_icmp .eq 163, 3) := by decide +kernel
theorem dL_law_551 : decode cL_law 551 = .ok (.iconst 0, 1) := by decide +kernel
theorem dL_law_552 : decode cL_law 552 = .ok (.ireturn, 1) := by decide +kernel
theorem dL_law_553 : decode cL_law 553 = .ok (.aload_n 1, 1) := by decide +kernel
theorem dL_law_554 : decode cL_law 554 = .ok (.aload_n 0, 1) := by decide +kernel
theorem dL_law_555 : decode cL_law 555 = .ok (.iload_n 3, 1) := by decide +kernel
theorem dL_law_556 : decode cL_law 556 = .ok (.iconst 1, 1) := by decide +kernel
theorem dL_law_557 : decode cL_law 557 = .ok (.iadd, 1) := by decide +kernel
theorem dL_law_558 : decode cL_law 558 = .ok (.iaload, 1) := by decide +kernel
theorem dL_law_559 : decode cL_law 559 = .ok (.aload_n 0, 1) := by decide +kernel
theorem dL_law_560 : decode cL_law 560 = .ok (.iload_n 3, 1) := by decide +kernel
theorem dL_law_561 : decode cL_law 561 = .ok (.iconst 2, 1) := by decide +kernel
theorem dL_law_562 : decode cL_law 562 = .ok (.iadd, 1) := by decide +kernel
theorem dL_law_563 : decode cL_law 563 = .ok (.iaload, 1) := by decide +kernel
theorem dL_law_564 : decode cL_law 564 = .ok (.invokevirtual 70, 3) := by decide +kernel
theorem dL_law_567 : decode cL_law 567 = .ok (.aload_n 2, 1) := by decide +kernel
theorem dL_law_568 : decode cL_law 568 = .ok (.aload_n 0, 1) := by decide +kernel
theorem dL_law_569 : decode cL_law 569 = .ok (.iload_n 3, 1) := by decide +kernel
theorem dL_law_570 : decode cL_law 570 = .ok (.iconst 1, 1) := by decide +kernel
theorem dL_law_571 : decode cL_law 571 = .ok (.iadd, 1) := by decide +kernel
theorem dL_law_572 : decode cL_law 572 = .ok (.iaload, 1) := by decide +kernel
theorem dL_law_573 : decode cL_law 573 = .ok (.aload_n 0, 1) := by decide +kernel
theorem dL_law_574 : decode cL_law 574 = .ok (.iload_n 3, 1) := by decide +kernel
theorem dL_law_575 : decode cL_law 575 = .ok (.iconst 2, 1) := by decide +kernel
theorem dL_law_576 : decode cL_law 576 = .ok (.iadd, 1) := by decide +kernel
theorem dL_law_577 : decode cL_law 577 = .ok (.iaload, 1) := by decide +kernel
theorem dL_law_578 : decode cL_law 578 = .ok (.invokevirtual 73, 3) := by decide +kernel
theorem dL_law_581 : decode cL_law 581 = .ok (.if_icmp .eq 130, 3) := by decide +kernel
theorem dL_law_584 : decode cL_law 584 = .ok (.iconst 0, 1) := by decide +kernel
theorem dL_law_585 : decode cL_law 585 = .ok (.ireturn, 1) := by decide +kernel
theorem dL_law_586 : decode cL_law 586 = .ok (.aload_n 1, 1) := by decide +kernel
theorem dL_law_587 : decode cL_law 587 = .ok (.aload_n 0, 1) := by decide +kernel
theorem dL_law_588 : decode cL_law 588 = .ok (.iload_n 3, 1) := by decide +kernel
theorem dL_law_589 : decode cL_law 589 = .ok (.iconst 1, 1) := by decide +kernel
theorem dL_law_590 : decode cL_law 590 = .ok (.iadd, 1) := by decide +kernel
theorem dL_law_591 : decode cL_law 591 = .ok (.iaload, 1) := by decide +kernel
theorem dL_law_592 : decode cL_law 592 = .ok (.aload_n 0, 1) := by decide +kernel
theorem dL_law_593 : decode cL_law 593 = .ok (.iload_n 3, 1) := by decide +kernel
theorem dL_law_594 : decode cL_law 594 = .ok (.iconst 2, 1) := by decide +kernel
theorem dL_law_595 : decode cL_law 595 = .ok (.iadd, 1) := by decide +kernel
theorem dL_law_596 : decode cL_law 596 = .ok (.iaload, 1) := by decide +kernel
theorem dL_law_597 : decode cL_law 597 = .ok (.invokevirtual 74, 3) := by decide +kernel
theorem dL_law_600 : decode cL_law 600 = .ok (.aload_n 2, 1) := by decide +kernel
theorem dL_law_601 : decode cL_law 601 = .ok (.aload_n 0, 1) := by decide +kernel
theorem dL_law_602 : decode cL_law 602 = .ok (.iload_n 3, 1) := by decide +kernel
theorem dL_law_603 : decode cL_law 603 = .ok (.iconst 1, 1) := by decide +kernel
theorem dL_law_604 : decode cL_law 604 = .ok (.iadd, 1) := by decide +kernel
theorem dL_law_605 : decode cL_law 605 = .ok (.iaload, 1) := by decide +kernel
theorem dL_law_606 : decode cL_law 606 = .ok (.aload_n 0, 1) := by decide +kernel
theorem dL_law_607 : decode cL_law 607 = .ok (.iload_n 3, 1) := by decide +kernel
theorem dL_law_608 : decode cL_law 608 = .ok (.iconst 2, 1) := by decide +kernel
theorem dL_law_609 : decode cL_law 609 = .ok (.iadd, 1) := by decide +kernel
theorem dL_law_610 : decode cL_law 610 = .ok (.iaload, 1) := by decide +kernel
theorem dL_law_611 : decode cL_law 611 = .ok (.invokevirtual 77, 3) := by decide +kernel
theorem dL_law_614 : decode cL_law 614 = .ok (.if_icmp .eq 97, 3) := by decide +kernel
theorem dL_law_617 : decode cL_law 617 = .ok (.iconst 0, 1) := by decide +kernel
theorem dL_law_618 : decode cL_law 618 = .ok (.ireturn, 1) := by decide +kernel
theorem dL_law_619 : decode cL_law 619 = .ok (.aload_n 1, 1) := by decide +kernel
theorem dL_law_620 : decode cL_law 620 = .ok (.aload_n 0, 1) := by decide +kernel
theorem dL_law_621 : decode cL_law 621 = .ok (.iload_n 3, 1) := by decide +kernel
theorem dL_law_622 : decode cL_law 622 = .ok (.iconst 1, 1) := by decide +kernel
theorem dL_law_623 : decode cL_law 623 = .ok (.iadd, 1) := by decide +kernel
theorem dL_law_624 : decode cL_law 624 = .ok (.iaload, 1) := by decide +kernel
theorem dL_law_625 : decode cL_law 625 = .ok (.invokevirtual 78, 3) := by decide +kernel
theorem dL_law_628 : decode cL_law 628 = .ok (.aload_n 2, 1) := by decide +kernel
theorem dL_law_629 : decode cL_law 629 = .ok (.aload_n 0, 1) := by decide +kernel
theorem dL_law_630 : decode cL_law 630 = .ok (.iload_n 3, 1) := by decide +kernel
theorem dL_law_631 : decode cL_law 631 = .ok (.iconst 1, 1) := by decide +kernel
theorem dL_law_632 : decode cL_law 632 = .ok (.iadd, 1) := by decide +kernel
theorem dL_law_633 : decode cL_law 633 = .ok (.iaload, 1) := by decide +kernel
theorem dL_law_634 : decode cL_law 634 = .ok (.invokevirtual 81, 3) := by decide +kernel
theorem dL_law_637 : decode cL_law 637 = .ok (.if_icmp .eq 74, 3) := by decide +kernel
theorem dL_law_640 : decode cL_law 640 = .ok (.iconst 0, 1) := by decide +kernel
theorem dL_law_641 : decode cL_law 641 = .ok (.ireturn, 1) := by decide +kernel
theorem dL_law_642 : decode cL_law 642 = .ok (.aload_n 1, 1) := by decide +kernel
theorem dL_law_643 : decode cL_law 643 = .ok (.aload_n 0, 1) := by decide +kernel
theorem dL_law_644 : decode cL_law 644 = .ok (.iload_n 3, 1) := by decide +kernel
theorem dL_law_645 : decode cL_law 645 = .ok (.iconst 1, 1) := by decide +kernel
theorem dL_law_646 : decode cL_law 646 = .ok (.iadd, 1) := by decide +kernel
theorem dL_law_647 : decode cL_law 647 = .ok (.iaload, 1) := by decide +kernel
theorem dL_law_648 : decode cL_law 648 = .ok (.invokevirtual 82, 3) := by decide +kernel
theorem dL_law_651 : decode cL_law 651 = .ok (.aload_n 2, 1) := by decide +kernel
theorem dL_law_652 : decode cL_law 652 = .ok (.aload_n 0, 1) := by decide +kernel
theorem dL_law_653 : decode cL_law 653 = .ok (.iload_n 3, 1) := by decide +kernel
theorem dL_law_654 : decode cL_law 654 = .ok (.iconst 1, 1) := by decide +kernel
theorem dL_law_655 : decode cL_law 655 = .ok (.iadd, 1) := by decide +kernel
theorem dL_law_656 : decode cL_law 656 = .ok (.iaload, 1) := by decide +kernel
theorem dL_law_657 : decode cL_law 657 = .ok (.invokevirtual 85, 3) := by decide +kernel
theorem dL_law_660 : decode cL_law 660 = .ok (.if_icmp .eq 51, 3) := by decide +kernel
theorem dL_law_663 : decode cL_law 663 = .ok (.iconst 0, 1) := by decide +kernel
theorem dL_law_664 : decode cL_law 664 = .ok (.ireturn, 1) := by decide +kernel
theorem dL_law_665 : decode cL_law 665 = .ok (.aload_n 1, 1) := by decide +kernel
theorem dL_law_666 : decode cL_law 666 = .ok (.aload_n 0, 1) := by decide +kernel
theorem dL_law_667 : decode cL_law 667 = .ok (.iload_n 3, 1) := by decide +kernel
theorem dL_law_668 : decode cL_law 668 = .ok (.iconst 1, 1) := by decide +kernel
theorem dL_law_669 : decode cL_law 669 = .ok (.iadd, 1) := by decide +kernel
theorem dL_law_670 : decode cL_law 670 = .ok (.iaload, 1) := by decide +kernel
theorem dL_law_671 : decode cL_law 671 = .ok (.invokevirtual 86, 3) := by decide +kernel
theorem dL_law_674 : decode cL_law 674 = .ok (.aload_n 2, 1) := by decide +kernel
theorem dL_law_675 : decode cL_law 675 = .ok (.aload_n 0, 1) := by decide +kernel
theorem dL_law_676 : decode cL_law 676 = .ok (.iload_n 3, 1) := by decide +kernel
theorem dL_law_677 : decode cL_law 677 = .ok (.iconst 1, 1) := by decide +kernel
theorem dL_law_678 : decode cL_law 678 = .ok (.iadd, 1) := by decide +kernel
theorem dL_law_679 : decode cL_law 679 = .ok (.iaload, 1) := by decide +kernel
theorem dL_law_680 : decode cL_law 680 = .ok (.invokevirtual 89, 3) := by decide +kernel
theorem dL_law_683 : decode cL_law 683 = .ok (.if_icmp .eq 28, 3) := by decide +kernel
theorem dL_law_686 : decode cL_law 686 = .ok (.iconst 0, 1) := by decide +kernel
theorem dL_law_687 : decode cL_law 687 = .ok (.ireturn, 1) := by decide +kernel
theorem dL_law_688 : decode cL_law 688 = .ok (.aload_n 1, 1) := by decide +kernel
theorem dL_law_689 : decode cL_law 689 = .ok (.aload_n 0, 1) := by decide +kernel
theorem dL_law_690 : decode cL_law 690 = .ok (.iload_n 3, 1) := by decide +kernel
theorem dL_law_691 : decode cL_law 691 = .ok (.iconst 1, 1) := by decide +kernel
theorem dL_law_692 : decode cL_law 692 = .ok (.iadd, 1) := by decide +kernel
theorem dL_law_693 : decode cL_law 693 = .ok (.iaload, 1) := by decide +kernel
theorem dL_law_694 : decode cL_law 694 = .ok (.invokevirtual 90, 3) := by decide +kernel
theorem dL_law_697 : decode cL_law 697 = .ok (.aload_n 2, 1) := by decide +kernel
theorem dL_law_698 : decode cL_law 698 = .ok (.aload_n 0, 1) := by decide +kernel
theorem dL_law_699 : decode cL_law 699 = .ok (.iload_n 3, 1) := by decide +kernel
theorem dL_law_700 : decode cL_law 700 = .ok (.iconst 1, 1) := by decide +kernel
theorem dL_law_701 : decode cL_law 701 = .ok (.iadd, 1) := by decide +kernel
theorem dL_law_702 : decode cL_law 702 = .ok (.iaload, 1) := by decide +kernel
theorem dL_law_703 : decode cL_law 703 = .ok (.invokevirtual 93, 3) := by decide +kernel
theorem dL_law_706 : decode cL_law 706 = .ok (.if_icmp .eq 5, 3) := by decide +kernel
theorem dL_law_709 : decode cL_law 709 = .ok (.iconst 0, 1) := by decide +kernel
theorem dL_law_710 : decode cL_law 710 = .ok (.ireturn, 1) := by decide +kernel
theorem dL_law_711 : decode cL_law 711 = .ok (.iinc 3 5, 3) := by decide +kernel
theorem dL_law_714 : decode cL_law 714 = .ok (.goto (-696), 3) := by decide +kernel
theorem dL_law_717 : decode cL_law 717 = .ok (.iconst 1, 1) := by decide +kernel
theorem dL_law_718 : decode cL_law 718 = .ok (.ireturn, 1) := by decide +kernel
end
section
def z_own (cn : Nat) : String := match cn with
  | 0 => RX0
  | 1 => RX1
  | 2 => RX2
  | 3 => RX3
  | 4 => RX4
  | 5 => RX5
  | 6 => RX6
  | 8 => RJ0
  | 9 => RJ1
  | 10 => RJ3
  | 11 => RJ7
  | 12 => RJ9
  | _ => RL
def z_ty (ci k : Nat) : FieldType := match ci with
  | 0 => tyX0 k
  | 1 => tyX1 k
  | 2 => tyX2 k
  | 3 => tyX3 k
  | 4 => tyX4 k
  | 5 => tyX5 k
  | 6 => tyX6 k
  | _ => .int
/-- fields by class number and pool index: (class, index, class of the field, its place) -/
def z_fl : List (Nat × Nat × Nat × Nat) := [(2, 15, 2, 0), (2, 21, 2, 1), (4, 11, 4, 0), (1, 9, 1, 0), (1, 15, 1, 1), (1, 18, 1, 2), (1, 22, 1, 3), (3, 9, 3, 0), (3, 15, 3, 1), (3, 19, 3, 2), (3, 22, 3, 3), (0, 9, 0, 0), (0, 15, 0, 1), (5, 14, 5, 0), (5, 18, 5, 1), (5, 21, 5, 2), (5, 24, 5, 3), (5, 27, 5, 4), (5, 30, 5, 5), (5, 33, 5, 6), (5, 39, 5, 7), (5, 43, 5, 8), (5, 52, 5, 9), (5, 59, 5, 10), (5, 66, 5, 11), (5, 70, 5, 12), (5, 74, 5, 13), (6, 7, 6, 0), (6, 13, 6, 1), (6, 16, 6, 2), (6, 20, 6, 3), (6, 61, 6, 4), (6, 23, 6, 5), (6, 27, 6, 6), (6, 30, 6, 7), (6, 33, 6, 8), (6, 36, 6, 9), (6, 39, 6, 10), (6, 42, 6, 11), (6, 98, 6, 12), (6, 45, 6, 13), (6, 48, 6, 14), (6, 131, 6, 15), (6, 51, 6, 16), (6, 145, 6, 17), (6, 54, 6, 18)]
def z_nw : List Cond := [.methodLinkNest "LaceWorks$Reader" 70 yX5_stepOf "LaceWorks", .methodLinkNest "LaceWorks$Board" 35 yX5_placeOf "LaceWorks", .methodLinkNest "LaceWorks$Board" 38 yX5_isRightOver "LaceWorks", .methodLinkNest "LaceWorks$Shortener" 55 yX5_placeOf "LaceWorks"]
end
section
/-! THE PURE MACHINE: a heap is a function from addresses to cells; a method's walk speaks of it alone -/
abbrev zC : Type := (Nat × vp_A) ⊕ (Nat × List Value)
abbrev zH : Type := Nat → Option zC
abbrev zS : Type := zH × (Nat × Nat × Nat)
abbrev zL : Type := List (Option Value)
abbrev zE : Type := va_G × Nat × (Nat → ClassId) × (Nat → Nat) × (Nat → Nat) × Value
abbrev zP : Type := zS → Nat → zL → List Value → Prop
def z_at {α : Type} : List α → Nat → Option α
  | [], _ => none
  | a :: _, 0 => some a
  | _ :: l, n + 1 => z_at l n
def z_st {α : Type} : List α → Nat → α → List α
  | [], _, _ => []
  | _ :: l, 0, b => b :: l
  | a :: l, n + 1, b => a :: z_st l n b
theorem z_at_eq {α : Type} : ∀ (l : List α) (n : Nat), z_at l n = l[n]?
  | [], n => by simp [z_at]
  | a :: l, 0 => by simp [z_at]
  | a :: l, n + 1 => by simp [z_at, z_at_eq l n]
theorem z_st_eq {α : Type} : ∀ (l : List α) (n : Nat) (b : α), z_st l n b = l.set n b
  | [], n, b => by simp [z_st]
  | a :: l, 0, b => by simp [z_st]
  | a :: l, n + 1, b => by simp [z_st, z_st_eq l n b]
def z_up (M : zH) (a : Nat) (e : zC) : zH := fun b => if b = a then some e else M b
theorem z_up_s (M : zH) (a : Nat) (e : zC) : z_up M a e a = some e := by simp [z_up]
theorem z_up_n {M : zH} {a b : Nat} {e : zC} (h : b ≠ a) : z_up M a e b = M b := by simp [z_up, h]
def z_cv (E : zE) : zC → va_E
  | .inl q => .inl (E.2.2.1 q.1, q.2)
  | .inr o => .inr o
def z_tys (E : zE) : List (ClassId × FieldType) := [(E.2.2.1 0, .int), (E.2.2.1 1, .boolean), (E.2.2.1 2, .object "LaceWorks$Row"), (E.2.2.1 3, .object "LaceWorks$Works")]
def z_A (E : zE) : Nat → Prop := fun q => E.2.1 ≤ q
def z_R (E : zE) (M : zH) (z : Nat) (H : Heap) : Prop := H.size = z ∧ ∀ (a : Nat) (e : zC), M a = some e → z_A E a ∧ va_at E.1 vwCl (a, z_cv E e) H
def z_L (ls : Array Slot) (nL : Nat) (lv : zL) : Prop := ∃ l : List (Nat × Value), lv_has ls nL l ∧ (∀ q ∈ l, q.2.category = 1) ∧ lv.length = nL ∧ ∀ (i : Nat) (v : Value), z_at lv i = some (some v) → (i, v) ∈ l
theorem z_L.get {ls : Array Slot} {nL : Nat} {lv : zL} {i : Nat} {v : Value} (h : z_L ls nL lv) (hi : z_at lv i = some (some v)) : ls[i]? = some (.val v) := by
  obtain ⟨l, h1, -, -, h4⟩ := h
  exact h1.2.2 (i, v) (h4 i v hi)
theorem z_at_lt {α : Type} {l : List α} {i : Nat} {x : α} (h : z_at l i = some x) : i < l.length := by
  rw [z_at_eq] at h
  exact (List.getElem?_eq_some_iff.mp h).1
theorem z_L.put {ls : Array Slot} {nL : Nat} {lv : zL} {i : Nat} {v : Value} {l : List (Nat × Value)} (h2 : ∀ q ∈ l, q.2.category = 1) (h3 : lv.length = nL) (h4 : ∀ (i : Nat) (v : Value), z_at lv i = some (some v) → (i, v) ∈ l) (hc : v.category = 1)
    (h : lv_has ls nL ((i, v) :: l.filter (fun q => !(q.1 == i) && !(q.1 + 1 == i && q.2.category == 2)))) : z_L ls nL (z_st lv i (some v)) := by
  refine ⟨_, h, ?_, by rw [z_st_eq, List.length_set]; exact h3, ?_⟩
  · intro q hq
    rcases List.mem_cons.mp hq with rfl | hq
    · exact hc
    · exact h2 q (List.mem_filter.mp hq).1
  · intro j w hj
    rw [z_at_eq, z_st_eq] at hj
    by_cases hji : i = j
    · subst hji
      rw [List.getElem?_set_self' ] at hj
      cases h5 : lv[i]? with
      | none => rw [h5] at hj; cases hj
      | some x => rw [h5] at hj; cases hj; exact List.mem_cons_self
    · rw [List.getElem?_set_ne hji] at hj
      have h6 := h4 j w (by rw [z_at_eq]; exact hj)
      refine List.mem_cons_of_mem _ (List.mem_filter.mpr ⟨h6, ?_⟩)
      have h7 := h2 _ h6
      have hne : ¬ j = i := fun e => hji e.symm
      dsimp only at h7
      simp [hne, h7]
def z_gw : List Cond := lw_tbl.filter goodWord
theorem z_gw_good : ∀ w ∈ z_gw, (w.onTables && w.keeps) = true ∨ ∃ ty, w = .arrayClass ty := fun w h => good_of_word (List.mem_filter.mp h).2
/-- what the statement gives beside the tables: links between nest mates, the text of the five signs, two statics -/
def z_sK (E : zE) (i : Nat) : Nat := E.2.2.2.1 i
def z_sV (E : zE) (i : Nat) : Nat := E.2.2.2.2.1 i
def z_qf (E : zE) : Value := E.2.2.2.2.2
def z_Str (E : zE) (U : State) : Prop := vk_S 2 [5, 5] [[67, 68, 84, 85, 80], [67, 68, 84, 85, 80]] (z_sK E) (z_sV E) (z_A E) U U.heap ∧ vk_R "LaceWorks$Reader" 44 "CDTUP" (z_sK E 0) U ∧ vk_R "LaceWorks" 182 "CDTUP" (z_sK E 1) U ∧ va_Z "java/lang/String" "COMPACT_STRINGS" "Z" (.int 1) (z_A E) U U.heap ∧ va_Z "jdk/internal/util/Preconditions" "SIOOBE_FORMATTER" "Ljava/util/function/BiFunction;" (z_qf E) (z_A E) U U.heap ∧ (z_qf E = .null ∨ ∃ a, z_qf E = .ref a)
def z_N (E : zE) (U : State) : Prop := (∀ w ∈ z_nw, va_Nw w U) ∧ z_Str E U
theorem z_Nmove {E : zE} {s U : State} {locs : List Loc} (h : z_N E s) (hW : s.WarmedH U.vm) (hS : va_S (z_A E) s.heap U.heap locs) : z_N E U := by
  obtain ⟨h1, h2, h3, h4, h5, h6, h7⟩ := h
  refine ⟨fun w hw => ?_, (h2.moved hW.alike).kept hS.2.1, h3.warm hW, h4.warm hW, (h5.moved hW.alike).kept hS.2.1, (h6.moved hW.alike).kept hS.2.1, h7⟩
  have h8 := h1 w hw
  simp only [z_nw, List.mem_cons, List.not_mem_nil, or_false] at hw
  rcases hw with rfl | rfl | rfl | rfl <;> exact h8.warmM hW
def z_U (E : zE) (M : zH) (z : Nat) (U : State) : Prop := E.2.1 ≤ U.heap.size ∧ z_R E M z U.heap ∧ va_K E.1 vwCl (z_tys E) U ∧ z_N E U
def z_Qc (E : zE) (post : Option Value → zH → Nat → Prop) : Array Value → State → Outcome → State → Prop := fun _ st o t => (∃ (r : Option Value) (M' : zH) (z' : Nat), o = .returned r ∧ post r M' z' ∧ z_R E M' z' t.heap) ∧ va_F (z_A E) st t
def z_rm (d mc ms : Nat) : Room := { frames := d, cells := mc, slots := ms, locals := 60 * d }
def z_ws (nm : MethodName) (cc : ByteArray) (nL : Nat) (rt : Option FieldType) : List Cond := .code nm cc nL rt :: z_gw
/-- A CONTRACT: called with these arguments over this heap, the method returns, and its answer and the heap behind it are as 'post' says -/
def z_Ct (l : Launch) (E : zE) (d : Nat) (nm : MethodName) (cc : ByteArray) (nL : Nat) (rt : Option FieldType) (as : List Value) (M : zH) (z mc ms : Nat) (post : Option Value → zH → Nat → Prop) : Prop :=
  Met l nm (z_ws nm cc nL rt) (z_rm d mc ms) (va_Pc as (z_U E M z)) (z_Qc E post) mc ms (z_A E)
def z_W (p : Program) (l : Launch) (e : Env) (R : Room) (s : State) (m : MethodId) (args : Array Value) (below : List Frame) (meth : Method) (c : Code) (E : zE) (nL : Nat) (Q : State → Prop) : zP := fun S pc lv st =>
  ∀ (H : Heap) (locs : List Loc) (ls : Array Slot), z_R E S.1 S.2.1 H → va_S (z_A E) s.heap H locs → z_L ls nL lv → W p l e R s m args below meth c H locs S.2.2.1 S.2.2.2 Q (F0 m pc ls st)
def z_C (p : Program) (s : State) (m : MethodId) (args : Array Value) (meth : Method) (c : Code) (E : zE) (cn : Nat) (cc : ByteArray) (nL : Nat) (rt : Option FieldType) (ini : Bool) : Prop :=
  p.tables.exec = Jvm.exec ∧ c.code = cc ∧ c.maxLocals = nL ∧ meth.sig.returnType = rt ∧ s.vm.findClass (z_own cn) = some m.cls ∧ (∀ w ∈ z_gw, w.before args s = true) ∧ meth.locks = false ∧ (ini = true → meth.name = "<init>") ∧ va_K E.1 vwCl (z_tys E) s ∧ z_N E s ∧ E.2.1 ≤ s.heap.size
/-- the walk of one method: P is its judgement, Kr what must hold where it returns -/
def z_OK (P : zP) (l : Launch) (E : zE) (R : Room) (cn : Nat) (cc : ByteArray) (nL : Nat) (rt : Option FieldType) (ini : Bool) (Kr : Option Value → zS → Prop) : Prop :=
  ∃ (p : Program) (e : Env) (s : State) (m : MethodId) (args : Array Value) (below : List Frame) (meth : Method) (c : Code) (Q : State → Prop), P = z_W p l e R s m args below meth c E nL Q ∧ z_C p s m args meth c E cn cc nL rt ini ∧ ∀ (v : Option Value) (S : zS), Kr v S → ∃ (post : Option Value → zH → Nat → Prop) (mc ms : Nat), Q = MQ below (z_Qc E post) args s mc ms (z_A E) ∧ S.2.2.1 ≤ mc ∧ S.2.2.2 ≤ ms ∧ post v S.1 S.2.1
def z_Kr (mc ms : Nat) (post : Option Value → zH → Nat → Prop) : Option Value → zS → Prop := fun v S => S.2.2.1 ≤ mc ∧ S.2.2.2 ≤ ms ∧ post v S.1 S.2.1
def z_lv (as : List Value) (n : Nat) : zL := as.map some ++ List.replicate (n - as.length) none
theorem z_args : ∀ (vs : List Value) (k : Nat), (∀ v ∈ vs, v.category = 1) → (∀ q ∈ lv_args k vs, q.2.category = 1) ∧ ∀ (i : Nat) (v : Value), vs[i]? = some v → (k + i, v) ∈ lv_args k vs
  | [], k, _ => ⟨fun q h => (by simp [lv_args] at h), fun i v h => by simp at h⟩
  | a :: vs, k, hc => by
    have ha : a.category = 1 := hc a List.mem_cons_self
    obtain ⟨h1, h2⟩ := z_args vs (k + 1) (fun v hv => hc v (List.mem_cons_of_mem _ hv))
    refine ⟨fun q hq => ?_, fun i v h => ?_⟩
    · simp only [lv_args, ha] at hq
      rcases List.mem_cons.mp hq with rfl | hq
      · exact ha
      · exact h1 q hq
    · simp only [lv_args, ha]
      cases i with
      | zero => simp at h; subst h; simp
      | succ i =>
        rw [List.getElem?_cons_succ] at h
        have h3 := h2 i v h
        rw [show k + 1 + i = k + (i + 1) by omega] at h3
        exact List.mem_cons_of_mem _ h3
theorem z_sl_len : ∀ (vs : List Value), (∀ v ∈ vs, v.category = 1) → (lg_sl vs).length = vs.length
  | [], _ => by simp [lg_sl]
  | a :: vs, hc => by
    have ha : a.category = 1 := hc a List.mem_cons_self
    have h2 := z_sl_len vs (fun v hv => hc v (List.mem_cons_of_mem _ hv))
    simp only [lg_sl] at h2 ⊢
    simp [h2, ha]
theorem z_ct {l : Launch} {E : zE} {d : Nat} {nm : MethodName} {cc : ByteArray} {nL : Nat} {rt : Option FieldType} {as : List Value} {M : zH} {z mc ms : Nat} {post : Option Value → zH → Nat → Prop} (cn : Nat) (ini : Bool) (hy : plainName nm.cls = true) (hcn : nm.cls = z_own cn) (hini : ini = true → nm.name = "<init>") (hc : ∀ v ∈ as, v.category = 1) (hn : as.length ≤ nL)
    (h : ∀ P : zP, z_OK P l E (z_rm d mc ms) cn cc nL rt ini (z_Kr mc ms post) → P (M, z, 0, 0) 0 (z_lv as nL) []) : z_Ct l E d nm cc nL rt as M z mc ms post := by
  refine Met.ofW (cc := cc) (maxL := nL) (ret := rt) hy rfl ?_
  intro p e s m args below meth c s₁ B hml hv
  obtain ⟨rfl, h1, h2, h3, h4⟩ := hv
  have hts := atoms_spec (ws := z_ws nm cc nL rt) B.pre
  have hown : s.vm.findClass nm.cls = some m.cls := findClass_of_methodNamed B.named
  have hl := lv_entry as (n := nL) (by rw [z_sl_len as hc]; exact hn)
  rw [lg_entry_eq]
  refine h (z_W p l e (z_rm d mc ms) s m as.toArray below meth c E nL (MQ below (z_Qc E post) as.toArray s mc ms (z_A E))) ⟨p, e, s, m, as.toArray, below, meth, c, _, rfl, ⟨B.exec, B.bytes, hml, B.returns, by rw [← hcn]; exact hown, fun w hw => hts w (List.mem_cons_of_mem _ hw), B.notSynchronized, fun hi => (name_of_methodNamed B.named B.method).1.trans (hini hi), h3, h4, h1⟩, fun v S hk => ⟨post, mc, ms, rfl, hk.1, hk.2.1, hk.2.2⟩⟩ s.heap [] _ h2 va_S.rf ?_
  obtain ⟨g1, g2⟩ := z_args as 0 hc
  refine ⟨_, hl, g1, by simp [z_lv]; omega, fun i v hi => ?_⟩
  rw [z_at_eq, z_lv] at hi
  by_cases hlt : i < as.length
  · rw [List.getElem?_append_left (by simpa using hlt), List.getElem?_map] at hi
    cases h5 : as[i]? with
    | none => rw [h5] at hi; cases hi
    | some w9 =>
      rw [h5] at hi
      cases hi
      have h6 := g2 i v h5
      rwa [Nat.zero_add] at h6
  · rw [List.getElem?_append_right (by simp; omega), List.getElem?_replicate] at hi
    split at hi <;> simp at hi
/-! fields -/
def z_fld (cn idx : Nat) : Option (Nat × Nat) := (z_fl.find? (fun q => q.1 == cn && q.2.1 == idx)).map (fun q => q.2.2)
def z_fin (ci k : Nat) : Bool := match z_at vwCl ci with
  | some q => (q.2.1 k).2.2.2
  | none => true
def z_fit (cn : Nat) (ini : Bool) (ci k : Nat) (v : Value) : Prop := narrow (z_ty ci k) v = v ∧ fits (z_ty ci k) v = true ∧ (z_fin ci k = true → ini = true ∧ cn = ci)
def z_bo (x : Int32) : Prop := narrow .boolean (.int x) = .int x ∧ fits .boolean (.int x) = true
def z_flp (q : Nat × Nat × Nat × Nat) : Bool := match z_at vwCl q.2.2.1 with
  | some r => decide (q.2.2.2 < r.2.2) && decide (Cond.fieldLink (z_own q.1) q.2.1 (r.2.1 q.2.2.2).1 (r.2.1 q.2.2.2).2.1 (r.2.1 q.2.2.2).2.2.1 ∈ z_gw) && decide ((r.2.1 q.2.2.2).1 = z_own q.2.2.1)
  | none => false
set_option maxRecDepth 100000 in
theorem z_fl_ok : ∀ q ∈ z_fl, z_flp q = true := by decide +kernel
theorem z_fld_ok {cn idx ci k : Nat} (h : z_fld cn idx = some (ci, k)) : ∃ r, z_at vwCl ci = some r ∧ k < r.2.2 ∧ Cond.fieldLink (z_own cn) idx (r.2.1 k).1 (r.2.1 k).2.1 (r.2.1 k).2.2.1 ∈ z_gw ∧ (r.2.1 k).1 = z_own ci := by
  unfold z_fld at h
  cases h1 : z_fl.find? (fun q => q.1 == cn && q.2.1 == idx) with
  | none => rw [h1] at h; cases h
  | some q =>
    rw [h1] at h
    obtain ⟨a, b, c, e⟩ := q
    simp only [Option.map_some, Option.some.injEq, Prod.mk.injEq] at h
    obtain ⟨rfl, rfl⟩ := h
    have h2 := List.find?_some h1
    simp only [Bool.and_eq_true, beq_iff_eq] at h2
    obtain ⟨rfl, rfl⟩ := h2
    have h3 := z_fl_ok _ (List.mem_of_find?_eq_some h1)
    unfold z_flp at h3
    dsimp only at h3
    cases h4 : z_at vwCl c with
    | none => rw [h4] at h3; cases h3
    | some r =>
      rw [h4] at h3
      simp only [Bool.and_eq_true, decide_eq_true_eq] at h3
      exact ⟨r, rfl, h3.1.1, h3.1.2, h3.2⟩
def z_clp (ci : Nat) (r : vw_C) : Prop := (∀ w ∈ u_ws r.1 r.2.1 r.2.2, w ∈ z_gw) ∧ (∀ k, k < r.2.2 → parseFieldDescriptor (r.2.1 k).2.2.1 = some (z_ty ci k)) ∧ (∀ a, a < r.2.2 → ∀ b, b < r.2.2 → a ≠ b → (r.2.1 a).2.1 ≠ (r.2.1 b).2.1) ∧ r.1 = z_own ci
set_option maxRecDepth 100000 in
theorem z_cl_ok {ci : Nat} {r : vw_C} (h : z_at vwCl ci = some r) : z_clp ci r := by
  match ci, h with
  | 0, h => cases h; exact ⟨by decide +kernel, tyX0_ok, nmX0, rfl⟩
  | 1, h => cases h; exact ⟨by decide +kernel, tyX1_ok, nmX1, rfl⟩
  | 2, h => cases h; exact ⟨by decide +kernel, tyX2_ok, nmX2, rfl⟩
  | 3, h => cases h; exact ⟨by decide +kernel, tyX3_ok, nmX3, rfl⟩
  | 4, h => cases h; exact ⟨by decide +kernel, tyX4_ok, nmX4, rfl⟩
  | 5, h => cases h; exact ⟨by decide +kernel, tyX5_ok, nmX5, rfl⟩
  | 6, h => cases h; exact ⟨by decide +kernel, tyX6_ok, nmX6, rfl⟩
  | k + 7, h => simp [vwCl, z_at] at h
abbrev z_lk (cn idx : Nat) (nm : MethodName) (cc : ByteArray) (nL : Nat) (rt : Option FieldType) (n : Nat) (ws : List Cond) : Prop := (∀ w ∈ (Cond.methodLink (z_own cn) idx nm :: Cond.initialized nm.cls :: Cond.code nm cc nL rt :: ws), w ∈ z_gw) ∧ nm.cls ≠ "java/lang/invoke/MethodHandle" ∧ nm.cls ≠ "java/lang/invoke/VarHandle" ∧ (parseMethodDescriptor nm.desc).map (fun d => d.parameters.length) = some n ∧ nL ≤ 41
abbrev z_lkN (cn idx : Nat) (nm : MethodName) (cc' : ByteArray) (nL' : Nat) (rt' : Option FieldType) (n : Nat) (host : String) : Prop := Cond.methodLinkNest (z_own cn) idx nm host ∈ z_nw ∧ (Cond.static nm ∈ z_gw ∧ Cond.initialized nm.cls ∈ z_gw ∧ Cond.code nm cc' nL' rt' ∈ z_gw) ∧ nm.cls ≠ "java/lang/invoke/MethodHandle" ∧ nm.cls ≠ "java/lang/invoke/VarHandle" ∧ (parseMethodDescriptor nm.desc).map (fun d => d.parameters.length) = some n ∧ nL' ≤ 41
end
section
theorem lk_7_9 : z_lk 7 9 yX5_init cX5_init 2 none 0 [.instanceMethod yX5_init] := by decide +kernel
theorem lk_5_11 : z_lk 5 11 yX2_init cX2_init 2 none 1 [.instanceMethod yX2_init] := by decide +kernel
theorem lk_2_9 : z_lk 2 9 yJ9_max_7cf53 cJ9_max_7cf53 2 (some .int) 2 [.static yJ9_max_7cf53] := by decide +kernel
theorem lk_5_38 : z_lk 5 38 yX4_init cX4_init 2 none 0 [.instanceMethod yX4_init] := by decide +kernel
theorem lk_4_17 : z_lk 4 17 yX2_init cX2_init 2 none 1 [.instanceMethod yX2_init] := by decide +kernel
theorem lk_5_49 : z_lk 5 49 yX1_init cX1_init 3 none 2 [.instanceMethod yX1_init] := by decide +kernel
theorem lk_5_58 : z_lk 5 58 yX3_init cX3_init 1 none 0 [.instanceMethod yX3_init] := by decide +kernel
theorem lk_5_65 : z_lk 5 65 yX0_init cX0_init 1 none 0 [.instanceMethod yX0_init] := by decide +kernel
theorem lk_7_13 : z_lk 7 13 yX5_say cX5_say 2 (some .int) 1 [.instanceMethod yX5_say, .selects yX5_say.cls yX5_say yX5_say] := by decide +kernel
theorem lk_5_77 : z_lk 5 77 yX2_add cX2_add 2 (some .boolean) 1 [.instanceMethod yX2_add, .selects yX2_add.cls yX2_add yX2_add] := by decide +kernel
theorem lk_5_81 : z_lk 5 81 yX2_size cX2_size 1 (some .int) 0 [.instanceMethod yX2_size, .selects yX2_size.cls yX2_size yX2_size] := by decide +kernel
theorem lk_7_18 : z_lk 7 18 yX5_wipe cX5_wipe 2 (some .int) 0 [.instanceMethod yX5_wipe, .selects yX5_wipe.cls yX5_wipe yX5_wipe] := by decide +kernel
theorem lk_5_85 : z_lk 5 85 yX2_clear cX2_clear 1 none 0 [.instanceMethod yX2_clear, .selects yX2_clear.cls yX2_clear yX2_clear] := by decide +kernel
theorem lk_7_23 : z_lk 7 23 yX5_fault cX5_fault 1 (some .int) 0 [.instanceMethod yX5_fault, .selects yX5_fault.cls yX5_fault yX5_fault] := by decide +kernel
theorem lk_5_88 : z_lk 5 88 yX1_faultPlace cX1_faultPlace 5 (some .int) 0 [.instanceMethod yX1_faultPlace, .selects yX1_faultPlace.cls yX1_faultPlace yX1_faultPlace] := by decide +kernel
theorem lk_1_26 : z_lk 1 26 yX2_size cX2_size 1 (some .int) 0 [.instanceMethod yX2_size, .selects yX2_size.cls yX2_size yX2_size] := by decide +kernel
theorem lk_1_32 : z_lk 1 32 yX2_get cX2_get 2 (some .int) 1 [.instanceMethod yX2_get, .selects yX2_get.cls yX2_get yX2_get] := by decide +kernel
theorem lk_1_36 : z_lk 1 36 yX1_canStand cX1_canStand 3 (some .boolean) 3 [.static yX1_canStand] := by decide +kernel
theorem lk_1_40 : z_lk 1 40 yX1_isSpot cX1_isSpot 1 (some .boolean) 1 [.static yX1_isSpot] := by decide +kernel
theorem lk_1_46 : z_lk 1 46 yJ0_indexOf_0f7a4 cJ0_indexOf_0f7a4 2 (some .int) 1 [.instanceMethod yJ0_indexOf_0f7a4, .selects yJ0_indexOf_0f7a4.cls yJ0_indexOf_0f7a4 yJ0_indexOf_0f7a4] := by decide +kernel
theorem lk_8_633 : z_lk 8 633 yJ0_indexOf_7cf53 cJ0_indexOf_7cf53 3 (some .int) 2 [.instanceMethod yJ0_indexOf_7cf53, .selects yJ0_indexOf_7cf53.cls yJ0_indexOf_7cf53 yJ0_indexOf_7cf53] := by decide +kernel
theorem lk_8_492 : z_lk 8 492 yJ0_isLatin1_aae02 cJ0_isLatin1_aae02 1 (some .boolean) 0 [.instanceMethod yJ0_isLatin1_aae02, .selects yJ0_isLatin1_aae02.cls yJ0_isLatin1_aae02 yJ0_isLatin1_aae02] := by decide +kernel
theorem lk_8_505 : z_lk 8 505 yJ0_length_8abf5 cJ0_length_8abf5 1 (some .int) 0 [.instanceMethod yJ0_length_8abf5, .selects yJ0_length_8abf5.cls yJ0_length_8abf5 yJ0_length_8abf5] := by decide +kernel
theorem lk_8_335 : z_lk 8 335 yJ0_coder_7d493 cJ0_coder_7d493 1 (some .byte) 0 [.instanceMethod yJ0_coder_7d493, .selects yJ0_coder_7d493.cls yJ0_coder_7d493 yJ0_coder_7d493] := by decide +kernel
theorem lk_8_637 : z_lk 8 637 yJ1_indexOf_4cfef cJ1_indexOf_4cfef 4 (some .int) 4 [.static yJ1_indexOf_4cfef] := by decide +kernel
theorem lk_9_88 : z_lk 9 88 yJ1_canEncode_9a6ad cJ1_canEncode_9a6ad 1 (some .boolean) 1 [.static yJ1_canEncode_9a6ad] := by decide +kernel
theorem lk_9_92 : z_lk 9 92 yJ9_max_7cf53 cJ9_max_7cf53 2 (some .int) 2 [.static yJ9_max_7cf53] := by decide +kernel
theorem lk_9_38 : z_lk 9 38 yJ9_min_7cf53 cJ9_min_7cf53 2 (some .int) 2 [.static yJ9_min_7cf53] := by decide +kernel
theorem lk_9_95 : z_lk 9 95 yJ1_indexOfChar_4cfef cJ1_indexOfChar_4cfef 6 (some .int) 4 [.static yJ1_indexOfChar_4cfef] := by decide +kernel
theorem lk_8_640 : z_lk 8 640 yJ2_indexOf_4cfef cJ2_indexOf_4cfef 4 (some .int) 4 [.static yJ2_indexOf_4cfef] := by decide +kernel
theorem lk_8_1062 : z_lk 8 1062 yJ3_checkFromToIndex_8c36e cJ3_checkFromToIndex_8c36e 4 (some .int) 4 [.static yJ3_checkFromToIndex_8c36e] := by decide +kernel
theorem lk_7_27 : z_lk 7 27 yX5_work cX5_work 4 (some .int) 1 [.instanceMethod yX5_work, .selects yX5_work.cls yX5_work yX5_work] := by decide +kernel
theorem lk_5_91 : z_lk 5 91 yX4_row cX4_row 2 (some (.object "LaceWorks$Row")) 1 [.instanceMethod yX4_row, .selects yX4_row.cls yX4_row yX4_row] := by decide +kernel
theorem lk_5_95 : z_lk 5 95 yX1_readSteps cX1_readSteps 1 (some .boolean) 0 [.instanceMethod yX1_readSteps, .selects yX1_readSteps.cls yX1_readSteps yX1_readSteps] := by decide +kernel
theorem lk_1_51 : z_lk 1 51 yX2_clear cX2_clear 1 none 0 [.instanceMethod yX2_clear, .selects yX2_clear.cls yX2_clear yX2_clear] := by decide +kernel
theorem lk_1_54 : z_lk 1 54 yX1_readText cX1_readText 4 (some .int) 2 [.instanceMethod yX1_readText, .selects yX1_readText.cls yX1_readText yX1_readText] := by decide +kernel
theorem lk_1_58 : z_lk 1 58 yX1_readPart cX1_readPart 7 (some .int) 2 [.instanceMethod yX1_readPart, .selects yX1_readPart.cls yX1_readPart yX1_readPart] := by decide +kernel
theorem lk_1_61 : z_lk 1 61 yJ9_max_7cf53 cJ9_max_7cf53 2 (some .int) 2 [.static yJ9_max_7cf53] := by decide +kernel
theorem lk_1_66 : z_lk 1 66 yX1_readSign cX1_readSign 2 none 1 [.instanceMethod yX1_readSign, .selects yX1_readSign.cls yX1_readSign yX1_readSign] := by decide +kernel
theorem lk_1_73 : z_lk 1 73 yX2_add cX2_add 2 (some .boolean) 1 [.instanceMethod yX2_add, .selects yX2_add.cls yX2_add yX2_add] := by decide +kernel
theorem lk_5_99 : z_lk 5 99 yX2_become cX2_become 2 none 1 [.instanceMethod yX2_become, .selects yX2_become.cls yX2_become yX2_become] := by decide +kernel
theorem lk_2_36 : z_lk 2 36 yX2_clear cX2_clear 1 none 0 [.instanceMethod yX2_clear, .selects yX2_clear.cls yX2_clear yX2_clear] := by decide +kernel
theorem lk_2_39 : z_lk 2 39 yX2_addAll cX2_addAll 4 none 1 [.instanceMethod yX2_addAll, .selects yX2_addAll.cls yX2_addAll yX2_addAll] := by decide +kernel
theorem lk_2_25 : z_lk 2 25 yX2_size cX2_size 1 (some .int) 0 [.instanceMethod yX2_size, .selects yX2_size.cls yX2_size yX2_size] := by decide +kernel
theorem lk_2_28 : z_lk 2 28 yX2_get cX2_get 2 (some .int) 1 [.instanceMethod yX2_get, .selects yX2_get.cls yX2_get yX2_get] := by decide +kernel
theorem lk_2_32 : z_lk 2 32 yX2_add cX2_add 2 (some .boolean) 1 [.instanceMethod yX2_add, .selects yX2_add.cls yX2_add yX2_add] := by decide +kernel
theorem lk_7_31 : z_lk 7 31 yX5_join cX5_join 7 (some .int) 3 [.instanceMethod yX5_join, .selects yX5_join.cls yX5_join yX5_join] := by decide +kernel
theorem lk_5_103 : z_lk 5 103 yX2_addAll cX2_addAll 4 none 1 [.instanceMethod yX2_addAll, .selects yX2_addAll.cls yX2_addAll yX2_addAll] := by decide +kernel
theorem lk_7_36 : z_lk 7 36 yX5_undone cX5_undone 6 (some .int) 2 [.instanceMethod yX5_undone, .selects yX5_undone.cls yX5_undone yX5_undone] := by decide +kernel
theorem lk_5_106 : z_lk 5 106 yX2_get cX2_get 2 (some .int) 1 [.instanceMethod yX2_get, .selects yX2_get.cls yX2_get yX2_get] := by decide +kernel
theorem lk_5_110 : z_lk 5 110 yX5_opposite cX5_opposite 2 (some .int) 1 [.static yX5_opposite] := by decide +kernel
theorem lk_5_113 : z_lk 5 113 yX5_kindOf cX5_kindOf 1 (some .int) 1 [.static yX5_kindOf] := by decide +kernel
theorem lk_5_116 : z_lk 5 116 yX5_spotOf cX5_spotOf 1 (some .int) 1 [.static yX5_spotOf] := by decide +kernel
theorem lk_5_175 : z_lk 5 175 yX5_stepOf cX5_stepOf 2 (some .int) 2 [.static yX5_stepOf] := by decide +kernel
theorem lk_7_41 : z_lk 7 41 yX5_step cX5_step 5 (some .int) 3 [.instanceMethod yX5_step, .selects yX5_step.cls yX5_step yX5_step] := by decide +kernel
theorem lk_7_45 : z_lk 7 45 yX5_written cX5_written 4 (some .int) 2 [.instanceMethod yX5_written, .selects yX5_written.cls yX5_written yX5_written] := by decide +kernel
theorem lk_5_119 : z_lk 5 119 yX5_writeOut cX5_writeOut 5 none 1 [.instanceMethod yX5_writeOut, .selects yX5_writeOut.cls yX5_writeOut yX5_writeOut] := by decide +kernel
theorem lk_5_179 : z_lk 5 179 yX5_signOf cX5_signOf 1 (some .int) 1 [.static yX5_signOf] := by decide +kernel
theorem lk_5_184 : z_lk 5 184 yJ0_length_8abf5 cJ0_length_8abf5 1 (some .int) 0 [.instanceMethod yJ0_length_8abf5, .selects yJ0_length_8abf5.cls yJ0_length_8abf5 yJ0_length_8abf5] := by decide +kernel
theorem lk_5_189 : z_lk 5 189 yJ0_charAt_5068e cJ0_charAt_5068e 2 (some .char) 1 [.instanceMethod yJ0_charAt_5068e, .selects yJ0_charAt_5068e.cls yJ0_charAt_5068e yJ0_charAt_5068e] := by decide +kernel
theorem lk_8_495 : z_lk 8 495 yJ1_charAt_3b067 cJ1_charAt_3b067 2 (some .char) 2 [.static yJ1_charAt_3b067] := by decide +kernel
theorem lk_9_9 : z_lk 9 9 yJ0_checkIndex_df160 cJ0_checkIndex_df160 2 none 2 [.static yJ0_checkIndex_df160] := by decide +kernel
theorem lk_8_1059 : z_lk 8 1059 yJ3_checkIndex_8e157 cJ3_checkIndex_8e157 3 (some .int) 3 [.static yJ3_checkIndex_8e157] := by decide +kernel
theorem lk_8_498 : z_lk 8 498 yJ2_charAt_3b067 cJ2_charAt_3b067 2 (some .char) 2 [.static yJ2_charAt_3b067] := by decide +kernel
theorem lk_5_122 : z_lk 5 122 yX5_sizeOrItem cX5_sizeOrItem 2 (some .int) 2 [.static yX5_sizeOrItem] := by decide +kernel
theorem lk_7_49 : z_lk 7 49 yX5_at cX5_at 5 (some .int) 3 [.instanceMethod yX5_at, .selects yX5_at.cls yX5_at yX5_at] := by decide +kernel
theorem lk_5_126 : z_lk 5 126 yX5_isPlace cX5_isPlace 1 (some .boolean) 1 [.static yX5_isPlace] := by decide +kernel
theorem lk_5_129 : z_lk 5 129 yX5_spell cX5_spell 6 none 2 [.instanceMethod yX5_spell, .selects yX5_spell.cls yX5_spell yX5_spell] := by decide +kernel
theorem lk_5_193 : z_lk 5 193 yX5_changesIn cX5_changesIn 2 (some .int) 1 [.static yX5_changesIn] := by decide +kernel
theorem lk_5_196 : z_lk 5 196 yX5_letterOf cX5_letterOf 5 (some .int) 2 [.static yX5_letterOf] := by decide +kernel
theorem lk_5_133 : z_lk 5 133 yX0_layBehind cX0_layBehind 3 none 1 [.instanceMethod yX0_layBehind, .selects yX0_layBehind.cls yX0_layBehind yX0_layBehind] := by decide +kernel
theorem lk_0_18 : z_lk 0 18 yX0_layAsAtFirst cX0_layAsAtFirst 2 none 0 [.instanceMethod yX0_layAsAtFirst, .selects yX0_layAsAtFirst.cls yX0_layAsAtFirst yX0_layAsAtFirst] := by decide +kernel
theorem lk_0_21 : z_lk 0 21 yX2_size cX2_size 1 (some .int) 0 [.instanceMethod yX2_size, .selects yX2_size.cls yX2_size yX2_size] := by decide +kernel
theorem lk_0_27 : z_lk 0 27 yX2_get cX2_get 2 (some .int) 1 [.instanceMethod yX2_get, .selects yX2_get.cls yX2_get yX2_get] := by decide +kernel
theorem lk_0_31 : z_lk 0 31 yX0_swap cX0_swap 4 none 1 [.instanceMethod yX0_swap, .selects yX0_swap.cls yX0_swap yX0_swap] := by decide +kernel
theorem lk_5_136 : z_lk 5 136 yX0_bobbinAt cX0_bobbinAt 2 (some .int) 1 [.instanceMethod yX0_bobbinAt, .selects yX0_bobbinAt.cls yX0_bobbinAt yX0_bobbinAt] := by decide +kernel
theorem lk_7_53 : z_lk 7 53 yX5_met cX5_met 6 (some .int) 4 [.instanceMethod yX5_met, .selects yX5_met.cls yX5_met yX5_met] := by decide +kernel
theorem lk_5_139 : z_lk 5 139 yX5_meetings cX5_meetings 10 (some .int) 3 [.instanceMethod yX5_meetings, .selects yX5_meetings.cls yX5_meetings yX5_meetings] := by decide +kernel
theorem lk_5_202 : z_lk 5 202 yX0_layAsAtFirst cX0_layAsAtFirst 2 none 0 [.instanceMethod yX0_layAsAtFirst, .selects yX0_layAsAtFirst.cls yX0_layAsAtFirst yX0_layAsAtFirst] := by decide +kernel
theorem lk_5_205 : z_lk 5 205 yX0_upper cX0_upper 2 (some .int) 1 [.instanceMethod yX0_upper, .selects yX0_upper.cls yX0_upper yX0_upper] := by decide +kernel
theorem lk_0_42 : z_lk 0 42 yX0_bobbinAt cX0_bobbinAt 2 (some .int) 1 [.instanceMethod yX0_bobbinAt, .selects yX0_bobbinAt.cls yX0_bobbinAt yX0_bobbinAt] := by decide +kernel
theorem lk_5_208 : z_lk 5 208 yX0_lower cX0_lower 2 (some .int) 1 [.instanceMethod yX0_lower, .selects yX0_lower.cls yX0_lower yX0_lower] := by decide +kernel
theorem lk_5_211 : z_lk 5 211 yX0_swap cX0_swap 4 none 1 [.instanceMethod yX0_swap, .selects yX0_swap.cls yX0_swap yX0_swap] := by decide +kernel
theorem lk_7_58 : z_lk 7 58 yX5_told cX5_told 4 (some .int) 2 [.instanceMethod yX5_told, .selects yX5_told.cls yX5_told yX5_told] := by decide +kernel
theorem lk_5_143 : z_lk 5 143 yX5_pinsIn cX5_pinsIn 3 (some .int) 1 [.static yX5_pinsIn] := by decide +kernel
theorem lk_5_147 : z_lk 5 147 yX0_turnsTillAsAtFirst cX0_turnsTillAsAtFirst 2 (some .int) 0 [.instanceMethod yX0_turnsTillAsAtFirst, .selects yX0_turnsTillAsAtFirst.cls yX0_turnsTillAsAtFirst yX0_turnsTillAsAtFirst] := by decide +kernel
theorem lk_0_45 : z_lk 0 45 yX0_turnOnce cX0_turnOnce 3 (some .boolean) 0 [.instanceMethod yX0_turnOnce, .selects yX0_turnOnce.cls yX0_turnOnce yX0_turnOnce] := by decide +kernel
theorem lk_5_150 : z_lk 5 150 yX0_lyingAsAtFirst cX0_lyingAsAtFirst 3 (some .int) 0 [.instanceMethod yX0_lyingAsAtFirst, .selects yX0_lyingAsAtFirst.cls yX0_lyingAsAtFirst yX0_lyingAsAtFirst] := by decide +kernel
theorem lk_5_153 : z_lk 5 153 yX5_neverChanged cX5_neverChanged 3 (some .int) 0 [.instanceMethod yX5_neverChanged, .selects yX5_neverChanged.cls yX5_neverChanged yX5_neverChanged] := by decide +kernel
theorem lk_5_214 : z_lk 5 214 yX5_placeOf cX5_placeOf 1 (some .int) 1 [.static yX5_placeOf] := by decide +kernel
theorem lk_7_62 : z_lk 7 62 yX5_pin cX5_pin 7 (some .int) 3 [.instanceMethod yX5_pin, .selects yX5_pin.cls yX5_pin yX5_pin] := by decide +kernel
theorem lk_5_156 : z_lk 5 156 yX5_pinStep cX5_pinStep 4 (some .int) 2 [.static yX5_pinStep] := by decide +kernel
theorem lk_7_66 : z_lk 7 66 yX5_letter cX5_letter 4 (some .int) 2 [.instanceMethod yX5_letter, .selects yX5_letter.cls yX5_letter yX5_letter] := by decide +kernel
theorem lk_7_70 : z_lk 7 70 yX5_shortest cX5_shortest 4 (some .int) 2 [.instanceMethod yX5_shortest, .selects yX5_shortest.cls yX5_shortest yX5_shortest] := by decide +kernel
theorem lk_5_159 : z_lk 5 159 yX5_shorten cX5_shorten 3 none 2 [.instanceMethod yX5_shorten, .selects yX5_shorten.cls yX5_shorten yX5_shorten] := by decide +kernel
theorem lk_5_199 : z_lk 5 199 yX3_shortForm cX3_shortForm 3 none 2 [.instanceMethod yX3_shortForm, .selects yX3_shortForm.cls yX3_shortForm yX3_shortForm] := by decide +kernel
theorem lk_3_25 : z_lk 3 25 yX3_markWhatStays cX3_markWhatStays 6 none 1 [.instanceMethod yX3_markWhatStays, .selects yX3_markWhatStays.cls yX3_markWhatStays yX3_markWhatStays] := by decide +kernel
theorem lk_3_33 : z_lk 3 33 yJ7_fill_53178 cJ7_fill_53178 4 none 2 [.static yJ7_fill_53178] := by decide +kernel
theorem lk_3_39 : z_lk 3 39 yX2_size cX2_size 1 (some .int) 0 [.instanceMethod yX2_size, .selects yX2_size.cls yX2_size yX2_size] := by decide +kernel
theorem lk_3_45 : z_lk 3 45 yJ9_min_7cf53 cJ9_min_7cf53 2 (some .int) 2 [.static yJ9_min_7cf53] := by decide +kernel
theorem lk_3_51 : z_lk 3 51 yX2_get cX2_get 2 (some .int) 1 [.instanceMethod yX2_get, .selects yX2_get.cls yX2_get yX2_get] := by decide +kernel
theorem lk_3_58 : z_lk 3 58 yX3_isFree cX3_isFree 2 (some .boolean) 1 [.instanceMethod yX3_isFree, .selects yX3_isFree.cls yX3_isFree yX3_isFree] := by decide +kernel
theorem lk_3_29 : z_lk 3 29 yX3_putLeastFirst cX3_putLeastFirst 6 none 2 [.instanceMethod yX3_putLeastFirst, .selects yX3_putLeastFirst.cls yX3_putLeastFirst yX3_putLeastFirst] := by decide +kernel
theorem lk_3_62 : z_lk 3 62 yX2_clear cX2_clear 1 none 0 [.instanceMethod yX2_clear, .selects yX2_clear.cls yX2_clear yX2_clear] := by decide +kernel
theorem lk_3_65 : z_lk 3 65 yX3_nextThatStays cX3_nextThatStays 6 (some .int) 3 [.instanceMethod yX3_nextThatStays, .selects yX3_nextThatStays.cls yX3_nextThatStays yX3_nextThatStays] := by decide +kernel
theorem lk_3_75 : z_lk 3 75 yJ9_max_7cf53 cJ9_max_7cf53 2 (some .int) 2 [.static yJ9_max_7cf53] := by decide +kernel
theorem lk_3_69 : z_lk 3 69 yX3_leastPlaceThatCanCome cX3_leastPlaceThatCanCome 3 (some .int) 1 [.instanceMethod yX3_leastPlaceThatCanCome, .selects yX3_leastPlaceThatCanCome.cls yX3_leastPlaceThatCanCome yX3_leastPlaceThatCanCome] := by decide +kernel
theorem lk_3_72 : z_lk 3 72 yX2_add cX2_add 2 (some .boolean) 1 [.instanceMethod yX2_add, .selects yX2_add.cls yX2_add yX2_add] := by decide +kernel
theorem lk_7_74 : z_lk 7 74 yX5_same cX5_same 5 (some .int) 2 [.instanceMethod yX5_same, .selects yX5_same.cls yX5_same yX5_same] := by decide +kernel
theorem lk_5_162 : z_lk 5 162 yX2_isLike cX2_isLike 3 (some .boolean) 1 [.instanceMethod yX2_isLike, .selects yX2_isLike.cls yX2_isLike yX2_isLike] := by decide +kernel
theorem lk_7_78 : z_lk 7 78 yX5_part cX5_part 4 (some .int) 1 [.instanceMethod yX5_part, .selects yX5_part.cls yX5_part yX5_part] := by decide +kernel
theorem lk_5_166 : z_lk 5 166 yX2_comesAgainAfter cX2_comesAgainAfter 3 (some .boolean) 1 [.instanceMethod yX2_comesAgainAfter, .selects yX2_comesAgainAfter.cls yX2_comesAgainAfter yX2_comesAgainAfter] := by decide +kernel
theorem lk_7_82 : z_lk 7 82 yX5_image cX5_image 2 (some .int) 1 [.instanceMethod yX5_image, .selects yX5_image.cls yX5_image yX5_image] := by decide +kernel
theorem lk_5_169 : z_lk 5 169 yX4_become cX4_become 4 none 1 [.instanceMethod yX4_become, .selects yX4_become.cls yX4_become yX4_become] := by decide +kernel
theorem lk_4_20 : z_lk 4 20 yX4_row cX4_row 2 (some (.object "LaceWorks$Row")) 1 [.instanceMethod yX4_row, .selects yX4_row.cls yX4_row yX4_row] := by decide +kernel
theorem lk_4_24 : z_lk 4 24 yX2_become cX2_become 2 none 1 [.instanceMethod yX2_become, .selects yX2_become.cls yX2_become yX2_become] := by decide +kernel
theorem lk_7_86 : z_lk 7 86 yX5_restore cX5_restore 2 (some .int) 1 [.instanceMethod yX5_restore, .selects yX5_restore.cls yX5_restore yX5_restore] := by decide +kernel
theorem lk_7_90 : z_lk 7 90 yX5_count cX5_count 2 (some .int) 1 [.instanceMethod yX5_count, .selects yX5_count.cls yX5_count yX5_count] := by decide +kernel
theorem lk_5_172 : z_lk 5 172 yX4_stepsInAll cX4_stepsInAll 3 (some .int) 0 [.instanceMethod yX4_stepsInAll, .selects yX4_stepsInAll.cls yX4_stepsInAll yX4_stepsInAll] := by decide +kernel
theorem lk_4_28 : z_lk 4 28 yX2_size cX2_size 1 (some .int) 0 [.instanceMethod yX2_size, .selects yX2_size.cls yX2_size yX2_size] := by decide +kernel
theorem lk_7_12 : z_lk 7 12 yX6_init cX6_init 1 none 0 [.instanceMethod yX6_init] := by decide +kernel
theorem lk_7_17 : z_lk 7 17 yX6_say cX6_say 2 (some .int) 1 [.instanceMethod yX6_say, .selects yX6_say.cls yX6_say yX6_say] := by decide +kernel
theorem lk_6_57 : z_lk 6 57 yX6_in cX6_in 3 (some .boolean) 3 [.static yX6_in] := by decide +kernel
theorem lk_7_22 : z_lk 7 22 yX6_wipe cX6_wipe 2 (some .int) 0 [.instanceMethod yX6_wipe, .selects yX6_wipe.cls yX6_wipe yX6_wipe] := by decide +kernel
theorem lk_7_26 : z_lk 7 26 yX6_fault cX6_fault 5 (some .int) 0 [.instanceMethod yX6_fault, .selects yX6_fault.cls yX6_fault yX6_fault] := by decide +kernel
theorem lk_6_64 : z_lk 6 64 yX6_kindBy cX6_kindBy 1 (some .int) 1 [.static yX6_kindBy] := by decide +kernel
theorem lk_7_30 : z_lk 7 30 yX6_work cX6_work 4 (some .int) 1 [.instanceMethod yX6_work, .selects yX6_work.cls yX6_work yX6_work] := by decide +kernel
theorem lk_6_71 : z_lk 6 71 yX6_isWork cX6_isWork 1 (some .boolean) 1 [.static yX6_isWork] := by decide +kernel
theorem lk_6_75 : z_lk 6 75 yX6_fault cX6_fault 5 (some .int) 0 [.instanceMethod yX6_fault, .selects yX6_fault.cls yX6_fault yX6_fault] := by decide +kernel
theorem lk_6_79 : z_lk 6 79 yX6_unfold cX6_unfold 6 (some .int) 0 [.instanceMethod yX6_unfold, .selects yX6_unfold.cls yX6_unfold yX6_unfold] := by decide +kernel
theorem lk_6_68 : z_lk 6 68 yX6_endOf cX6_endOf 5 (some .int) 1 [.instanceMethod yX6_endOf, .selects yX6_endOf.cls yX6_endOf yX6_endOf] := by decide +kernel
theorem lk_6_82 : z_lk 6 82 yX6_take cX6_take 4 (some .int) 2 [.instanceMethod yX6_take, .selects yX6_take.cls yX6_take yX6_take] := by decide +kernel
theorem lk_7_35 : z_lk 7 35 yX6_join cX6_join 6 (some .int) 3 [.instanceMethod yX6_join, .selects yX6_join.cls yX6_join yX6_join] := by decide +kernel
theorem lk_6_86 : z_lk 6 86 yX6_many cX6_many 2 (some .int) 1 [.instanceMethod yX6_many, .selects yX6_many.cls yX6_many yX6_many] := by decide +kernel
theorem lk_7_40 : z_lk 7 40 yX6_undone cX6_undone 7 (some .int) 2 [.instanceMethod yX6_undone, .selects yX6_undone.cls yX6_undone yX6_undone] := by decide +kernel
theorem lk_6_89 : z_lk 6 89 yX6_kindOf cX6_kindOf 3 (some .int) 2 [.instanceMethod yX6_kindOf, .selects yX6_kindOf.cls yX6_kindOf yX6_kindOf] := by decide +kernel
theorem lk_6_92 : z_lk 6 92 yX6_spotOf cX6_spotOf 3 (some .int) 2 [.instanceMethod yX6_spotOf, .selects yX6_spotOf.cls yX6_spotOf yX6_spotOf] := by decide +kernel
theorem lk_7_44 : z_lk 7 44 yX6_step cX6_step 4 (some .int) 3 [.instanceMethod yX6_step, .selects yX6_step.cls yX6_step yX6_step] := by decide +kernel
theorem lk_7_48 : z_lk 7 48 yX6_written cX6_written 5 (some .int) 2 [.instanceMethod yX6_written, .selects yX6_written.cls yX6_written yX6_written] := by decide +kernel
theorem lk_6_95 : z_lk 6 95 yX6_signOf cX6_signOf 1 (some .int) 1 [.static yX6_signOf] := by decide +kernel
theorem lk_7_52 : z_lk 7 52 yX6_at cX6_at 4 (some .int) 3 [.instanceMethod yX6_at, .selects yX6_at.cls yX6_at yX6_at] := by decide +kernel
theorem lk_6_115 : z_lk 6 115 yX6_goTo cX6_goTo 4 none 2 [.instanceMethod yX6_goTo, .selects yX6_goTo.cls yX6_goTo yX6_goTo] := by decide +kernel
theorem lk_6_105 : z_lk 6 105 yX6_layLetters cX6_layLetters 4 none 1 [.instanceMethod yX6_layLetters, .selects yX6_layLetters.cls yX6_layLetters yX6_layLetters] := by decide +kernel
theorem lk_6_101 : z_lk 6 101 yX6_addLetter cX6_addLetter 4 none 3 [.instanceMethod yX6_addLetter, .selects yX6_addLetter.cls yX6_addLetter yX6_addLetter] := by decide +kernel
theorem lk_6_109 : z_lk 6 109 yX6_begin cX6_begin 2 none 0 [.instanceMethod yX6_begin, .selects yX6_begin.cls yX6_begin yX6_begin] := by decide +kernel
theorem lk_6_112 : z_lk 6 112 yX6_change cX6_change 4 none 1 [.instanceMethod yX6_change, .selects yX6_change.cls yX6_change yX6_change] := by decide +kernel
theorem lk_7_57 : z_lk 7 57 yX6_met cX6_met 11 (some .int) 4 [.instanceMethod yX6_met, .selects yX6_met.cls yX6_met yX6_met] := by decide +kernel
theorem lk_7_61 : z_lk 7 61 yX6_told cX6_told 3 (some .int) 2 [.instanceMethod yX6_told, .selects yX6_told.cls yX6_told yX6_told] := by decide +kernel
theorem lk_6_122 : z_lk 6 122 yX6_pins cX6_pins 4 (some .int) 1 [.instanceMethod yX6_pins, .selects yX6_pins.cls yX6_pins yX6_pins] := by decide +kernel
theorem lk_6_125 : z_lk 6 125 yX6_timesOf cX6_timesOf 5 (some .int) 1 [.instanceMethod yX6_timesOf, .selects yX6_timesOf.cls yX6_timesOf yX6_timesOf] := by decide +kernel
theorem lk_6_119 : z_lk 6 119 yX6_asAtFirst cX6_asAtFirst 3 (some .int) 0 [.instanceMethod yX6_asAtFirst, .selects yX6_asAtFirst.cls yX6_asAtFirst yX6_asAtFirst] := by decide +kernel
theorem lk_6_128 : z_lk 6 128 yX6_still cX6_still 5 (some .int) 1 [.instanceMethod yX6_still, .selects yX6_still.cls yX6_still yX6_still] := by decide +kernel
theorem lk_7_65 : z_lk 7 65 yX6_pin cX6_pin 7 (some .int) 3 [.instanceMethod yX6_pin, .selects yX6_pin.cls yX6_pin yX6_pin] := by decide +kernel
theorem lk_7_69 : z_lk 7 69 yX6_letter cX6_letter 3 (some .int) 2 [.instanceMethod yX6_letter, .selects yX6_letter.cls yX6_letter yX6_letter] := by decide +kernel
theorem lk_7_73 : z_lk 7 73 yX6_shortest cX6_shortest 3 (some .int) 2 [.instanceMethod yX6_shortest, .selects yX6_shortest.cls yX6_shortest yX6_shortest] := by decide +kernel
theorem lk_6_151 : z_lk 6 151 yX6_layShort cX6_layShort 3 none 1 [.instanceMethod yX6_layShort, .selects yX6_layShort.cls yX6_layShort yX6_layShort] := by decide +kernel
theorem lk_6_142 : z_lk 6 142 yX6_addLeft cX6_addLeft 3 none 1 [.instanceMethod yX6_addLeft, .selects yX6_addLeft.cls yX6_addLeft yX6_addLeft] := by decide +kernel
theorem lk_6_134 : z_lk 6 134 yX6_apart cX6_apart 3 (some .boolean) 2 [.static yX6_apart] := by decide +kernel
theorem lk_6_138 : z_lk 6 138 yX6_removeAt cX6_removeAt 4 none 3 [.static yX6_removeAt] := by decide +kernel
theorem lk_6_148 : z_lk 6 148 yX6_front cX6_front 5 (some .int) 0 [.instanceMethod yX6_front, .selects yX6_front.cls yX6_front yX6_front] := by decide +kernel
theorem lk_7_77 : z_lk 7 77 yX6_same cX6_same 6 (some .int) 2 [.instanceMethod yX6_same, .selects yX6_same.cls yX6_same yX6_same] := by decide +kernel
theorem lk_7_81 : z_lk 7 81 yX6_part cX6_part 3 (some .int) 1 [.instanceMethod yX6_part, .selects yX6_part.cls yX6_part yX6_part] := by decide +kernel
theorem lk_6_154 : z_lk 6 154 yX6_comesAgain cX6_comesAgain 5 (some .boolean) 2 [.instanceMethod yX6_comesAgain, .selects yX6_comesAgain.cls yX6_comesAgain yX6_comesAgain] := by decide +kernel
theorem lk_7_85 : z_lk 7 85 yX6_image cX6_image 3 (some .int) 1 [.instanceMethod yX6_image, .selects yX6_image.cls yX6_image yX6_image] := by decide +kernel
theorem lk_7_89 : z_lk 7 89 yX6_restore cX6_restore 3 (some .int) 1 [.instanceMethod yX6_restore, .selects yX6_restore.cls yX6_restore yX6_restore] := by decide +kernel
theorem lk_7_93 : z_lk 7 93 yX6_count cX6_count 4 (some .int) 1 [.instanceMethod yX6_count, .selects yX6_count.cls yX6_count yX6_count] := by decide +kernel
theorem lk_1_70 : z_lkN 1 70 yX5_stepOf cX5_stepOf 2 (some .int) 2 "LaceWorks" := by decide +kernel
theorem lk_0_35 : z_lkN 0 35 yX5_placeOf cX5_placeOf 1 (some .int) 1 "LaceWorks" := by decide +kernel
theorem lk_0_38 : z_lkN 0 38 yX5_isRightOver cX5_isRightOver 1 (some .boolean) 1 "LaceWorks" := by decide +kernel
theorem lk_3_55 : z_lkN 3 55 yX5_placeOf cX5_placeOf 1 (some .int) 1 "LaceWorks" := by decide +kernel
end
section
/-! ONE STEP, over the pure heap; K goes on, Kr is where the method returns -/
def z_ldi (lv : zL) (i : Nat) (k : Int32 → Prop) : Prop := match z_at lv i with
  | some (some (.int a)) => k a
  | _ => False
def z_lda (lv : zL) (i : Nat) (k : Value → Prop) : Prop := match z_at lv i with
  | some (some (.ref a)) => k (.ref a)
  | some (some .null) => k .null
  | _ => False
def z_sto (lv : zL) (i : Nat) (v : Value) (k : zL → Prop) : Prop := match z_at lv i with
  | some _ => k (z_st lv i (some v))
  | none => False
def z_s1 (st : List Value) (k : Int32 → List Value → Prop) : Prop := match st with
  | .int a :: r => k a r
  | _ => False
def z_s2 (st : List Value) (k : Int32 → Int32 → List Value → Prop) : Prop := match st with
  | .int b :: .int a :: r => k a b r
  | _ => False
def z_sa (st : List Value) (k : Value → List Value → Prop) : Prop := match st with
  | .ref a :: r => k (.ref a) r
  | .null :: r => k .null r
  | _ => False
def z_sv (st : List Value) (k : Value → List Value → Prop) : Prop := match st with
  | .int a :: r => k (.int a) r
  | .ref a :: r => k (.ref a) r
  | .null :: r => k .null r
  | _ => False
def z_br (K : zP) (S : zS) (pc : Nat) (off : Int) (lv : zL) (st : List Value) (c : Prop) : Prop := 0 ≤ (pc : Int) + off ∧ (c → K S ((pc : Int) + off).toNat lv st) ∧ (¬ c → K S (pc + 3) lv st)
def z_bn (K : zP) (S : zS) (pc : Nat) (off : Int) (lv : zL) (st : List Value) (c : Prop) : Prop := 0 ≤ (pc : Int) + off ∧ (c → K S (pc + 3) lv st) ∧ (¬ c → K S ((pc : Int) + off).toNat lv st)
def z_ob (S : zS) (a ci : Nat) (k : List Value → Prop) : Prop := match S.1 a with
  | some (.inr (cj, fs)) => cj = ci ∧ k fs
  | _ => False
def z_ar (S : zS) (a t : Nat) (k : Nat → (Nat → Int32) → Prop) : Prop := match S.1 a with
  | some (.inl (u, n, .inl f)) => u = t ∧ k n f
  | _ => False
def z_aq (S : zS) (a : Nat) (k : Nat → (Nat → Option Nat) → Prop) : Prop := match S.1 a with
  | some (.inl (u, n, .inr (.inr (.inr (.inr f))))) => (u = 2 ∨ u = 3) ∧ k n f
  | _ => False
def z_al (S : zS) (a : Nat) (k : Nat → Prop) : Prop := match S.1 a with
  | some (.inl (u, n, _)) => u < 4 ∧ k n
  | _ => False
def z_rt (rt : Option FieldType) (a : Int32) : Prop := match rt with
  | some .int => True
  | some .boolean => narrow .boolean (.int a) = .int a
  | some .char => narrow .char (.int a) = .int a
  | some .byte => narrow .byte (.int a) = .int a
  | _ => False
def z_ra (rt : Option FieldType) : Prop := match rt with
  | some (.object _) => True
  | _ => False
def z_stop (i : Instr) : Bool := match i with
  | .invokevirtual _ => true
  | .invokestatic _ => true
  | .invokespecial _ => true
  | .new _ => true
  | .newarray _ => true
  | .anewarray _ => true
  | .aastore => true
  | .tableswitch _ _ _ _ => true
  | .ldc _ => true
  | .getstatic _ => true
  | _ => false
def z_n (K : zP) (Kr : Option Value → zS → Prop) (cn : Nat) (rt : Option FieldType) (ini : Bool) (S : zS) (pc : Nat) (lv : zL) (st : List Value) (len : Nat) (i : Instr) : Prop := match i with
  | .iconst n => len = 1 ∧ K S (pc + 1) lv (.int (Int32.ofInt n) :: st)
  | .bipush n => len = 2 ∧ K S (pc + 2) lv (.int (Int8.ofInt n).toInt32 :: st)
  | .sipush n => len = 3 ∧ K S (pc + 3) lv (.int (Int16.ofInt n).toInt32 :: st)
  | .aconst_null => len = 1 ∧ K S (pc + 1) lv (.null :: st)
  | .iload_n k => len = 1 ∧ z_ldi lv k.val (fun a => K S (pc + 1) lv (.int a :: st))
  | .iload k => len = 2 ∧ z_ldi lv k (fun a => K S (pc + 2) lv (.int a :: st))
  | .aload_n k => len = 1 ∧ z_lda lv k.val (fun v => K S (pc + 1) lv (v :: st))
  | .aload k => len = 2 ∧ z_lda lv k (fun v => K S (pc + 2) lv (v :: st))
  | .istore_n k => len = 1 ∧ z_s1 st (fun a r => z_sto lv k.val (.int a) (fun lv' => K S (pc + 1) lv' r))
  | .istore k => len = 2 ∧ z_s1 st (fun a r => z_sto lv k (.int a) (fun lv' => K S (pc + 2) lv' r))
  | .astore_n k => len = 1 ∧ z_sa st (fun a r => z_sto lv k.val a (fun lv' => K S (pc + 1) lv' r))
  | .astore k => len = 2 ∧ z_sa st (fun a r => z_sto lv k a (fun lv' => K S (pc + 2) lv' r))
  | .iinc k n => len = 3 ∧ z_ldi lv k (fun a => K S (pc + 3) (z_st lv k (some (.int (a + Int32.ofInt n)))) st)
  | .iadd => len = 1 ∧ z_s2 st (fun a b r => K S (pc + 1) lv (.int (a + b) :: r))
  | .isub => len = 1 ∧ z_s2 st (fun a b r => K S (pc + 1) lv (.int (a - b) :: r))
  | .imul => len = 1 ∧ z_s2 st (fun a b r => K S (pc + 1) lv (.int (a * b) :: r))
  | .iand => len = 1 ∧ z_s2 st (fun a b r => K S (pc + 1) lv (.int (a &&& b) :: r))
  | .ior => len = 1 ∧ z_s2 st (fun a b r => K S (pc + 1) lv (.int (a ||| b) :: r))
  | .ixor => len = 1 ∧ z_s2 st (fun a b r => K S (pc + 1) lv (.int (a ^^^ b) :: r))
  | .ishl => len = 1 ∧ z_s2 st (fun a b r => K S (pc + 1) lv (.int (a <<< (b &&& 31)) :: r))
  | .ishr => len = 1 ∧ z_s2 st (fun a b r => K S (pc + 1) lv (.int (a >>> (b &&& 31)) :: r))
  | .i2b => len = 1 ∧ z_s1 st (fun a r => K S (pc + 1) lv (.int a.toInt8.toInt32 :: r))
  | .idiv => len = 1 ∧ z_s2 st (fun a b r => ¬ b = 0 ∧ K S (pc + 1) lv (.int (a / b) :: r))
  | .irem => len = 1 ∧ z_s2 st (fun a b r => ¬ b = 0 ∧ K S (pc + 1) lv (.int (a - a / b * b) :: r))
  | .i2c => len = 1 ∧ z_s1 st (fun a r => K S (pc + 1) lv (.int (a.toUInt32 % 65536).toInt32 :: r))
  | .dup => len = 1 ∧ z_sv st (fun v r => K S (pc + 1) lv (v :: v :: r))
  | .dup2 => len = 1 ∧ z_sv st (fun v r => z_sv r (fun w r => K S (pc + 1) lv (v :: w :: v :: w :: r)))
  | .pop => len = 1 ∧ z_sv st (fun _ r => K S (pc + 1) lv r)
  | .goto off => len = 3 ∧ 0 ≤ (pc : Int) + off ∧ K S ((pc : Int) + off).toNat lv st
  | .ifCond .eq off => len = 3 ∧ z_s1 st (fun a r => z_br K S pc off lv r (a = 0))
  | .ifCond .ne off => len = 3 ∧ z_s1 st (fun a r => z_bn K S pc off lv r (a = 0))
  | .ifCond .lt off => len = 3 ∧ z_s1 st (fun a r => z_br K S pc off lv r (a < 0))
  | .ifCond .ge off => len = 3 ∧ z_s1 st (fun a r => z_br K S pc off lv r (0 ≤ a))
  | .ifCond .gt off => len = 3 ∧ z_s1 st (fun a r => z_br K S pc off lv r (0 < a))
  | .ifCond .le off => len = 3 ∧ z_s1 st (fun a r => z_br K S pc off lv r (a ≤ 0))
  | .if_icmp .eq off => len = 3 ∧ z_s2 st (fun a b r => z_br K S pc off lv r (a = b))
  | .if_icmp .ne off => len = 3 ∧ z_s2 st (fun a b r => z_bn K S pc off lv r (a = b))
  | .if_icmp .lt off => len = 3 ∧ z_s2 st (fun a b r => z_br K S pc off lv r (a < b))
  | .if_icmp .ge off => len = 3 ∧ z_s2 st (fun a b r => z_br K S pc off lv r (b ≤ a))
  | .if_icmp .gt off => len = 3 ∧ z_s2 st (fun a b r => z_br K S pc off lv r (b < a))
  | .if_icmp .le off => len = 3 ∧ z_s2 st (fun a b r => z_br K S pc off lv r (a ≤ b))
  | .ifnull off => len = 3 ∧ 0 ≤ (pc : Int) + off ∧ z_sa st (fun v r => match v with
    | .null => K S ((pc : Int) + off).toNat lv r
    | _ => K S (pc + 3) lv r)
  | .ifnonnull off => len = 3 ∧ 0 ≤ (pc : Int) + off ∧ z_sa st (fun v r => match v with
    | .null => K S (pc + 3) lv r
    | _ => K S ((pc : Int) + off).toNat lv r)
  | .getfield ix => len = 3 ∧ (match st with
    | .ref a :: r => (match z_fld cn ix with
      | some (ci, k) => z_ob S a ci (fun fs => match z_at fs k with
        | some v => K S (pc + 3) lv (v :: r)
        | none => False)
      | none => False)
    | _ => False)
  | .putfield ix => len = 3 ∧ (match st with
    | v :: .ref a :: r => (match z_fld cn ix with
      | some (ci, k) => z_ob S a ci (fun fs => z_fit cn ini ci k v ∧ (match z_at fs k with
        | some _ => K (z_up S.1 a (.inr (ci, z_st fs k v)), S.2) (pc + 3) lv r
        | none => False))
      | none => False)
    | _ => False)
  | .iaload => len = 1 ∧ (match st with
    | .int j :: .ref a :: r => z_ar S a 0 (fun n f => vp_in j n ∧ K S (pc + 1) lv (.int (f j.toNatClampNeg) :: r))
    | _ => False)
  | .baload => len = 1 ∧ (match st with
    | .int j :: .ref a :: r => z_ar S a 1 (fun n f => vp_in j n ∧ K S (pc + 1) lv (.int (f j.toNatClampNeg) :: r))
    | _ => False)
  | .aaload => len = 1 ∧ (match st with
    | .int j :: .ref a :: r => z_aq S a (fun n f => vp_in j n ∧ K S (pc + 1) lv (va_rf (f j.toNatClampNeg) :: r))
    | _ => False)
  | .iastore => len = 1 ∧ (match st with
    | .int b :: .int j :: .ref a :: r => z_ar S a 0 (fun n f => vp_in j n ∧ K (z_up S.1 a (.inl (0, n, .inl (upd f j.toNatClampNeg b))), S.2) (pc + 1) lv r)
    | _ => False)
  | .bastore => len = 1 ∧ (match st with
    | .int b :: .int j :: .ref a :: r => z_ar S a 1 (fun n f => vp_in j n ∧ K (z_up S.1 a (.inl (1, n, .inl (upd f j.toNatClampNeg (vp_nar .boolean b)))), S.2) (pc + 1) lv r)
    | _ => False)
  | .arraylength => len = 1 ∧ (match st with
    | .ref a :: r => z_al S a (fun n => K S (pc + 1) lv (.int (nI n) :: r))
    | _ => False)
  | .ireturn => len = 1 ∧ (match st with
    | [.int v] => z_rt rt v ∧ Kr (some (.int v)) S
    | _ => False)
  | .areturn => len = 1 ∧ z_ra rt ∧ (match st with
    | [.ref v] => Kr (some (.ref v)) S
    | [.null] => Kr (some .null) S
    | _ => False)
  | .return_ => len = 1 ∧ rt = none ∧ (match st with
    | [] => Kr none S
    | _ => False)
  | _ => False
theorem z_R.cell {E : zE} {M : zH} {z : Nat} {H : Heap} {a : Nat} {e : zC} (h : z_R E M z H) (ha : M a = some e) : va_P E.1 vwCl [(a, z_cv E e)] H := by
  intro k q hq
  have hz : k < 1 := (List.getElem?_eq_some_iff.mp hq).1
  rw [show k = 0 by omega] at hq
  cases hq
  exact (h.2 a e ha).2
theorem z_R.put {E : zE} {M : zH} {z : Nat} {H H1 : Heap} {a : Nat} {e e' : zC} (h : z_R E M z H) (ha : M a = some e) (hz : H1.size = H.size) (he : va_at E.1 vwCl (a, z_cv E e') H1) (oq : ∀ q : Nat, q ≠ a → H1[q]? = H[q]?) : z_R E (z_up M a e') z H1 := by
  refine ⟨hz.trans h.1, fun b e2 hb => ?_⟩
  by_cases hba : b = a
  · subst hba
    rw [z_up_s] at hb
    cases hb
    exact ⟨(h.2 b e ha).1, he⟩
  · rw [z_up_n hba] at hb
    obtain ⟨h1, h2⟩ := h.2 b e2 hb
    exact ⟨h1, h2.kept (oq b hba)⟩
theorem z_ob_spec {S : zS} {a ci : Nat} {k : List Value → Prop} (h : z_ob S a ci k) : ∃ fs, S.1 a = some (.inr (ci, fs)) ∧ k fs := by
  unfold z_ob at h
  split at h
  · rename_i cj fs he
    obtain ⟨rfl, h⟩ := h
    exact ⟨fs, he, h⟩
  · exact h.elim
theorem z_ar_spec {S : zS} {a t : Nat} {k : Nat → (Nat → Int32) → Prop} (h : z_ar S a t k) : ∃ n f, S.1 a = some (.inl (t, n, .inl f)) ∧ k n f := by
  unfold z_ar at h
  split at h
  · rename_i u n f he
    obtain ⟨rfl, h⟩ := h
    exact ⟨n, f, he, h⟩
  · exact h.elim
theorem z_aq_spec {S : zS} {a : Nat} {k : Nat → (Nat → Option Nat) → Prop} (h : z_aq S a k) : ∃ t n f, (t = 2 ∨ t = 3) ∧ S.1 a = some (.inl (t, n, .inr (.inr (.inr (.inr f))))) ∧ k n f := by
  unfold z_aq at h
  split at h
  · rename_i u n f he
    exact ⟨u, n, f, h.1, he, h.2⟩
  · exact h.elim
theorem z_al_spec {S : zS} {a : Nat} {k : Nat → Prop} (h : z_al S a k) : ∃ t y, t < 4 ∧ S.1 a = some (.inl (t, y)) ∧ k y.1 := by
  unfold z_al at h
  split at h
  · rename_i u n y he
    exact ⟨u, (n, y), h.1, he, h.2⟩
  · exact h.elim
theorem z_ldi_spec {lv : zL} {i : Nat} {k : Int32 → Prop} (h : z_ldi lv i k) : ∃ a, z_at lv i = some (some (.int a)) ∧ k a := by
  unfold z_ldi at h
  split at h
  · rename_i a he
    exact ⟨a, he, h⟩
  · exact h.elim
theorem z_lda_spec {lv : zL} {i : Nat} {k : Value → Prop} (h : z_lda lv i k) : (∃ a, z_at lv i = some (some (.ref a)) ∧ k (.ref a)) ∨ (z_at lv i = some (some .null) ∧ k .null) := by
  unfold z_lda at h
  split at h
  · rename_i a he
    exact Or.inl ⟨a, he, h⟩
  · rename_i he
    exact Or.inr ⟨he, h⟩
  · exact h.elim
theorem z_sto_spec {lv : zL} {i : Nat} {v : Value} {k : zL → Prop} (h : z_sto lv i v k) : i < lv.length ∧ k (z_st lv i (some v)) := by
  unfold z_sto at h
  split at h
  · rename_i a he
    exact ⟨z_at_lt he, h⟩
  · exact h.elim
theorem z_s1_spec {st : List Value} {k : Int32 → List Value → Prop} (h : z_s1 st k) : ∃ a r, st = .int a :: r ∧ k a r := by
  unfold z_s1 at h
  split at h
  · exact ⟨_, _, rfl, h⟩
  · exact h.elim
theorem z_s2_spec {st : List Value} {k : Int32 → Int32 → List Value → Prop} (h : z_s2 st k) : ∃ a b r, st = .int b :: .int a :: r ∧ k a b r := by
  unfold z_s2 at h
  split at h
  · exact ⟨_, _, _, rfl, h⟩
  · exact h.elim
theorem z_sa_spec {st : List Value} {k : Value → List Value → Prop} (h : z_sa st k) : (∃ a r, st = .ref a :: r ∧ k (.ref a) r) ∨ ∃ r, st = .null :: r ∧ k .null r := by
  unfold z_sa at h
  split at h
  · exact Or.inl ⟨_, _, rfl, h⟩
  · exact Or.inr ⟨_, rfl, h⟩
  · exact h.elim
theorem z_sv_spec {st : List Value} {k : Value → List Value → Prop} (h : z_sv st k) : ∃ v r, st = v :: r ∧ v.category = 1 ∧ k v r := by
  unfold z_sv at h
  split at h
  · exact ⟨_, _, rfl, rfl, h⟩
  · exact ⟨_, _, rfl, rfl, h⟩
  · exact ⟨_, _, rfl, rfl, h⟩
  · exact h.elim
end
section
/-! the step is right -/
set_option maxHeartbeats 4000000 in
set_option maxRecDepth 100000 in
theorem z_n_ok {P K : zP} {l : Launch} {E : zE} {R : Room} {cn : Nat} {cc : ByteArray} {nL : Nat} {rt : Option FieldType} {ini : Bool} {Kr : Option Value → zS → Prop} (C : z_OK P l E R cn cc nL rt ini Kr) (hK : ∀ S pc lv st, K S pc lv st → P S pc lv st) {S : zS} {pc : Nat} {lv : zL} {st : List Value} {len : Nat} {i : Instr} (hd : decode cc pc = .ok (i, len)) (h : z_n K Kr cn rt ini S pc lv st len i) : P S pc lv st := by
  obtain ⟨p, e, s, m, args, below, meth, c, Q, rfl, ⟨hx, hb, hml, hrt, hown, hts, hlocks, hini, hKK, hN, hsz⟩, hQ⟩ := C
  intro H locs ls hR hS hl
  have ld : ∀ {j : Nat} {v : Value}, z_at lv j = some (some v) → ls[j]? = some (.val v) := fun h => hl.get h
  obtain ⟨l0, hl1, hl2, hl3, hl4⟩ := id hl
  have br : ∀ {off : Int} {r : List Value} {q : Prop}, z_br K S pc off lv r q → ((pc : Int) + off = (((pc : Int) + off).toNat : Int)) ∧ (q → W p l e R s m args below meth c H locs S.2.2.1 S.2.2.2 Q (F0 m ((pc : Int) + off).toNat ls r)) ∧ (¬ q → W p l e R s m args below meth c H locs S.2.2.1 S.2.2.2 Q (F0 m (pc + 3) ls r)) := fun hq => ⟨(Int.toNat_of_nonneg hq.1).symm, fun z => hK _ _ _ _ (hq.2.1 z) H locs ls hR hS hl, fun z => hK _ _ _ _ (hq.2.2 z) H locs ls hR hS hl⟩
  have bn : ∀ {off : Int} {r : List Value} {q : Prop}, z_bn K S pc off lv r q → ((pc : Int) + off = (((pc : Int) + off).toNat : Int)) ∧ (q → W p l e R s m args below meth c H locs S.2.2.1 S.2.2.2 Q (F0 m (pc + 3) ls r)) ∧ (¬ q → W p l e R s m args below meth c H locs S.2.2.1 S.2.2.2 Q (F0 m ((pc : Int) + off).toNat ls r)) := fun hq => ⟨(Int.toNat_of_nonneg hq.1).symm, fun z => hK _ _ _ _ (hq.2.1 z) H locs ls hR hS hl, fun z => hK _ _ _ _ (hq.2.2 z) H locs ls hR hS hl⟩
  cases i
  case iconst n => obtain ⟨rfl, h⟩ := h; exact lv_iconst hx hb hd rfl (hK _ _ _ _ h H locs ls hR hS hl)
  case bipush n => obtain ⟨rfl, h⟩ := h; exact lv_bipush hx hb hd rfl (hK _ _ _ _ h H locs ls hR hS hl)
  case sipush n => obtain ⟨rfl, h⟩ := h; exact lv_sipush hx hb hd rfl (hK _ _ _ _ h H locs ls hR hS hl)
  case aconst_null => obtain ⟨rfl, h⟩ := h; exact lv_null hx hb hd (hK _ _ _ _ h H locs ls hR hS hl)
  case iload_n k => obtain ⟨rfl, h⟩ := h; replace h := z_ldi_spec h; obtain ⟨a, h1, h⟩ := h; exact lv_iload_n hx hb hd rfl (ld h1) (hK _ _ _ _ h H locs ls hR hS hl)
  case iload k => obtain ⟨rfl, h⟩ := h; replace h := z_ldi_spec h; obtain ⟨a, h1, h⟩ := h; exact lv_iload hx hb hd (ld h1) (hK _ _ _ _ h H locs ls hR hS hl)
  case aload_n k =>
    obtain ⟨rfl, h⟩ := h
    replace h := z_lda_spec h; rcases h with ⟨a, h1, h⟩ | ⟨h1, h⟩
    · exact lv_aload_n hx hb hd rfl (ld h1) (hK _ _ _ _ h H locs ls hR hS hl)
    · exact lv_aload_nN hx hb hd rfl (ld h1) (hK _ _ _ _ h H locs ls hR hS hl)
  case aload k =>
    obtain ⟨rfl, h⟩ := h
    replace h := z_lda_spec h; rcases h with ⟨a, h1, h⟩ | ⟨h1, h⟩
    · exact lv_aload hx hb hd (ld h1) (hK _ _ _ _ h H locs ls hR hS hl)
    · exact lv_aloadN hx hb hd (ld h1) (hK _ _ _ _ h H locs ls hR hS hl)
  case istore_n k =>
    obtain ⟨rfl, h⟩ := h; replace h := z_s1_spec h; obtain ⟨a, r, rfl, h⟩ := h; replace h := z_sto_spec h; obtain ⟨h1, h⟩ := h
    exact lv_istore_n hx hb hd rfl hl1 (by rw [← hl3]; exact h1) rfl (fun ls' hl' => hK _ _ _ _ h H locs ls' hR hS (z_L.put hl2 hl3 hl4 rfl hl'))
  case istore k =>
    obtain ⟨rfl, h⟩ := h; replace h := z_s1_spec h; obtain ⟨a, r, rfl, h⟩ := h; replace h := z_sto_spec h; obtain ⟨h1, h⟩ := h
    exact lv_istore hx hb hd hl1 (by rw [← hl3]; exact h1) rfl (fun ls' hl' => hK _ _ _ _ h H locs ls' hR hS (z_L.put hl2 hl3 hl4 rfl hl'))
  case astore_n k =>
    obtain ⟨rfl, h⟩ := h
    replace h := z_sa_spec h; rcases h with ⟨a, r, rfl, h⟩ | ⟨r, rfl, h⟩ <;> (replace h := z_sto_spec h; obtain ⟨h1, h⟩ := h)
    · exact lv_astore_n hx hb hd rfl hl1 (by rw [← hl3]; exact h1) rfl (fun ls' hl' => hK _ _ _ _ h H locs ls' hR hS (z_L.put hl2 hl3 hl4 rfl hl'))
    · exact lv_astore_nN hx hb hd rfl hl1 (by rw [← hl3]; exact h1) rfl (fun ls' hl' => hK _ _ _ _ h H locs ls' hR hS (z_L.put hl2 hl3 hl4 rfl hl'))
  case astore k =>
    obtain ⟨rfl, h⟩ := h
    replace h := z_sa_spec h; rcases h with ⟨a, r, rfl, h⟩ | ⟨r, rfl, h⟩ <;> (replace h := z_sto_spec h; obtain ⟨h1, h⟩ := h)
    · exact lv_astore hx hb hd hl1 (by rw [← hl3]; exact h1) rfl (fun ls' hl' => hK _ _ _ _ h H locs ls' hR hS (z_L.put hl2 hl3 hl4 rfl hl'))
    · exact lv_astoreN hx hb hd hl1 (by rw [← hl3]; exact h1) rfl (fun ls' hl' => hK _ _ _ _ h H locs ls' hR hS (z_L.put hl2 hl3 hl4 rfl hl'))
  case iinc k n =>
    obtain ⟨rfl, h⟩ := h; replace h := z_ldi_spec h; obtain ⟨a, h1, h⟩ := h
    obtain ⟨j, hj⟩ := List.getElem?_of_mem (hl4 _ _ h1)
    exact lv_iinc hx hb hd hl1 hj rfl (by rw [← hl3]; exact z_at_lt h1) rfl (fun ls' hl' => hK _ _ _ _ h H locs ls' hR hS (z_L.put hl2 hl3 hl4 rfl hl'))
  case iadd => obtain ⟨rfl, h⟩ := h; replace h := z_s2_spec h; obtain ⟨a, b, r, rfl, h⟩ := h; exact lv_iadd hx hb hd (hK _ _ _ _ h H locs ls hR hS hl)
  case isub => obtain ⟨rfl, h⟩ := h; replace h := z_s2_spec h; obtain ⟨a, b, r, rfl, h⟩ := h; exact lv_isub hx hb hd (hK _ _ _ _ h H locs ls hR hS hl)
  case imul => obtain ⟨rfl, h⟩ := h; replace h := z_s2_spec h; obtain ⟨a, b, r, rfl, h⟩ := h; exact lv_imul hx hb hd (hK _ _ _ _ h H locs ls hR hS hl)
  case iand => obtain ⟨rfl, h⟩ := h; replace h := z_s2_spec h; obtain ⟨a, b, r, rfl, h⟩ := h; exact lv_iand hx hb hd (hK _ _ _ _ h H locs ls hR hS hl)
  case ior => obtain ⟨rfl, h⟩ := h; replace h := z_s2_spec h; obtain ⟨a, b, r, rfl, h⟩ := h; exact lv_ior hx hb hd (hK _ _ _ _ h H locs ls hR hS hl)
  case ixor => obtain ⟨rfl, h⟩ := h; replace h := z_s2_spec h; obtain ⟨a, b, r, rfl, h⟩ := h; exact lv_ixor hx hb hd (hK _ _ _ _ h H locs ls hR hS hl)
  case ishl => obtain ⟨rfl, h⟩ := h; replace h := z_s2_spec h; obtain ⟨a, b, r, rfl, h⟩ := h; exact lv_ishl hx hb hd (hK _ _ _ _ h H locs ls hR hS hl)
  case ishr => obtain ⟨rfl, h⟩ := h; replace h := z_s2_spec h; obtain ⟨a, b, r, rfl, h⟩ := h; exact lv_ishr hx hb hd (hK _ _ _ _ h H locs ls hR hS hl)
  case i2b => obtain ⟨rfl, h⟩ := h; replace h := z_s1_spec h; obtain ⟨a, r, rfl, h⟩ := h; exact lv_i2b hx hb hd rfl (hK _ _ _ _ h H locs ls hR hS hl)
  case idiv => obtain ⟨rfl, h⟩ := h; replace h := z_s2_spec h; obtain ⟨a, b, r, rfl, h0, h⟩ := h; exact lv_idiv hx hb hd h0 (hK _ _ _ _ h H locs ls hR hS hl)
  case irem => obtain ⟨rfl, h⟩ := h; replace h := z_s2_spec h; obtain ⟨a, b, r, rfl, h0, h⟩ := h; exact lv_irem hx hb hd h0 (hK _ _ _ _ h H locs ls hR hS hl)
  case i2c => obtain ⟨rfl, h⟩ := h; replace h := z_s1_spec h; obtain ⟨a, r, rfl, h⟩ := h; exact lv_i2c hx hb hd rfl (hK _ _ _ _ h H locs ls hR hS hl)
  case dup => obtain ⟨rfl, h⟩ := h; replace h := z_sv_spec h; obtain ⟨v, r, rfl, hc, h⟩ := h; exact lv_dup hx hb hd hc (hK _ _ _ _ h H locs ls hR hS hl)
  case dup2 => obtain ⟨rfl, h⟩ := h; replace h := z_sv_spec h; obtain ⟨v, r, rfl, hc, h⟩ := h; replace h := z_sv_spec h; obtain ⟨w, r, rfl, hc2, h⟩ := h; exact lv_dup2_11 hx hb hd hc hc2 (hK _ _ _ _ h H locs ls hR hS hl)
  case pop => obtain ⟨rfl, h⟩ := h; replace h := z_sv_spec h; obtain ⟨v, r, rfl, hc, h⟩ := h; exact lv_pop hx hb hd hc (hK _ _ _ _ h H locs ls hR hS hl)
  case goto off => obtain ⟨rfl, h0, h⟩ := h; exact lv_goto hx hb hd (Int.toNat_of_nonneg h0).symm (hK _ _ _ _ h H locs ls hR hS hl)
  case ifCond q off =>
    cases q
    case eq => obtain ⟨rfl, h⟩ := h; replace h := z_s1_spec h; obtain ⟨a, r, rfl, h⟩ := h; obtain ⟨h1, h2, h3⟩ := br h; exact lv_if_eq hx hb hd h1 h2 h3
    case ne => obtain ⟨rfl, h⟩ := h; replace h := z_s1_spec h; obtain ⟨a, r, rfl, h⟩ := h; obtain ⟨h1, h2, h3⟩ := bn h; exact lv_if_ne hx hb hd h1 h3 h2
    case lt => obtain ⟨rfl, h⟩ := h; replace h := z_s1_spec h; obtain ⟨a, r, rfl, h⟩ := h; obtain ⟨h1, h2, h3⟩ := br h; exact lv_if_lt hx hb hd h1 h2 h3
    case ge => obtain ⟨rfl, h⟩ := h; replace h := z_s1_spec h; obtain ⟨a, r, rfl, h⟩ := h; obtain ⟨h1, h2, h3⟩ := br h; exact lv_if_ge hx hb hd h1 h2 h3
    case gt => obtain ⟨rfl, h⟩ := h; replace h := z_s1_spec h; obtain ⟨a, r, rfl, h⟩ := h; obtain ⟨h1, h2, h3⟩ := br h; exact lv_if_gt hx hb hd h1 h2 h3
    case le => obtain ⟨rfl, h⟩ := h; replace h := z_s1_spec h; obtain ⟨a, r, rfl, h⟩ := h; obtain ⟨h1, h2, h3⟩ := br h; exact lv_if_le hx hb hd h1 h2 h3
  case if_icmp q off =>
    cases q
    case eq => obtain ⟨rfl, h⟩ := h; replace h := z_s2_spec h; obtain ⟨a, b, r, rfl, h⟩ := h; obtain ⟨h1, h2, h3⟩ := br h; exact lv_icmp_eq hx hb hd h1 h2 h3
    case ne => obtain ⟨rfl, h⟩ := h; replace h := z_s2_spec h; obtain ⟨a, b, r, rfl, h⟩ := h; obtain ⟨h1, h2, h3⟩ := bn h; exact lv_icmp_ne hx hb hd h1 h3 h2
    case lt => obtain ⟨rfl, h⟩ := h; replace h := z_s2_spec h; obtain ⟨a, b, r, rfl, h⟩ := h; obtain ⟨h1, h2, h3⟩ := br h; exact lv_icmp_lt hx hb hd h1 h2 h3
    case ge => obtain ⟨rfl, h⟩ := h; replace h := z_s2_spec h; obtain ⟨a, b, r, rfl, h⟩ := h; obtain ⟨h1, h2, h3⟩ := br h; exact lv_icmp_ge hx hb hd h1 h2 h3
    case gt => obtain ⟨rfl, h⟩ := h; replace h := z_s2_spec h; obtain ⟨a, b, r, rfl, h⟩ := h; obtain ⟨h1, h2, h3⟩ := br h; exact lv_icmp_gt hx hb hd h1 h2 h3
    case le => obtain ⟨rfl, h⟩ := h; replace h := z_s2_spec h; obtain ⟨a, b, r, rfl, h⟩ := h; obtain ⟨h1, h2, h3⟩ := br h; exact lv_icmp_le hx hb hd h1 h2 h3
  case ifnull off =>
    obtain ⟨rfl, h0, h⟩ := h
    replace h := z_sa_spec h; rcases h with ⟨a, r, rfl, h⟩ | ⟨r, rfl, h⟩
    · exact lv_ifnull hx hb hd (hK _ _ _ _ h H locs ls hR hS hl)
    · exact lv_ifnullN hx hb hd (Int.toNat_of_nonneg h0).symm (hK _ _ _ _ h H locs ls hR hS hl)
  case ifnonnull off =>
    obtain ⟨rfl, h0, h⟩ := h
    replace h := z_sa_spec h; rcases h with ⟨a, r, rfl, h⟩ | ⟨r, rfl, h⟩
    · exact lv_ifnonnull hx hb hd (Int.toNat_of_nonneg h0).symm (hK _ _ _ _ h H locs ls hR hS hl)
    · exact lv_ifnonnullN hx hb hd (hK _ _ _ _ h H locs ls hR hS hl)
  case getfield ix =>
    obtain ⟨rfl, h⟩ := h
    split at h
    · rename_i a r
      split at h
      · rename_i ci k hf
        replace h := z_ob_spec h; obtain ⟨fs, h1, h⟩ := h
        split at h
        · rename_i v hv
          obtain ⟨q, g1, g2, g3, -⟩ := z_fld_ok hf
          obtain ⟨u1, -⟩ := z_cl_ok g1
          rw [z_at_eq] at g1 hv
          exact va_get (q0 := 0) (k := k) hx hb hts u1 hown hKK (hR.cell h1) rfl g1 g2 (hts _ g3) (fun _ h9 => h9) hv hd (hK _ _ _ _ h H locs ls hR hS hl)
        · exact h.elim
      · exact h.elim
    · exact h.elim
  case putfield ix =>
    obtain ⟨rfl, h⟩ := h
    split at h
    · rename_i v a r
      split at h
      · rename_i ci k hf
        replace h := z_ob_spec h; obtain ⟨fs, h1, hfit, h⟩ := h
        split at h
        · rename_i w hw
          obtain ⟨q, g1, g2, g3, g4⟩ := z_fld_ok hf
          obtain ⟨u1, u2, u3, u4⟩ := z_cl_ok g1
          have hfs := z_at_lt hw
          obtain ⟨f1, f2, f3⟩ := hfit
          have hfin : z_fin ci k = (q.2.1 k).2.2.2 := by unfold z_fin; rw [g1]
          rw [z_at_eq] at g1
          have hap := va_apart (own := z_own cn) hts u1 (z_ty ci) u2 u3 hKK g1
          obtain ⟨r', e1, cell, q1, q2, q3, q4⟩ := (hR.2 a _ h1).2
          have hr' : r' = q := Option.some.inj (e1.symm.trans g1)
          subst hr'
          obtain ⟨hSl, hfc, kC, hkC, hkind⟩ := hKK.1 ci _ g1
          obtain ⟨cf, kf, fi, f, hi, hsl⟩ := hSl k g2
          have hst := (u_facts hfc hkC (u_lays hts u1 g2) hi).1
          have fin : ∀ H' : Heap, H'[a]? = some (cell.setSlot f.slot v) → H'.size = H.size → (∀ q : Nat, q ≠ a → H'[q]? = H[q]?) → ∀ locs', locs' = locs ++ [⟨a, f.slot⟩] → W p l e R s m args below meth c H' locs' S.2.2.1 S.2.2.2 Q (F0 m (pc + 3) ls r) := by
            intro H' w1 w2 w3 locs' hlocs
            subst hlocs
            rw [hsl] at w1 ⊢
            have hfs2 : k < fs.length := hfs
            refine hK _ _ _ _ h H' _ ls (hR.put h1 w2 ?_ w3) (hS.put w2 w3 (hR.2 a _ h1).1) hl
            rw [z_st_eq]
            exact ⟨_, g1, t_OB.to (V := updV (vp_V fs) k v) ⟨_, w1, q2, q3, t_set q4 hap g2 v⟩ (fun j _ => vp_updV_set hfs2 v j)⟩
          have hlay := hts _ (u1 _ (u_in_lay g2))
          unfold u_lay at hlay
          cases hF : (r'.2.1 k).2.2.2 with
          | false =>
            rw [if_neg (by rw [hF]; decide)] at hlay
            have h6 := u_store hfc hkC hkind hlay hi (u2 k g2) f1 f2
            exact W.putK hx hb (f := f) ⟨hown, hts _ g3, ⟨_, _, _, hi⟩, hst⟩ (by rw [q2]; exact h6) q1 q3 (by rw [hsl]; exact k2_hasslot (q4 k g2)) rfl rfl hd fun H' w1 w2 w3 => fin H' w1 w2 w3 _ rfl
          | true =>
            rw [if_pos hF] at hlay
            obtain ⟨i1, i2⟩ := f3 (hfin.trans hF)
            have hcf : m.cls = cf := by
              obtain ⟨_, _, c', _, _, _, -, -, hf', -, -, -, hown2, -⟩ := Cond.laysFinal_spec hlay
              have e1 : c' = cf := by have := hi.symm.trans hf'; simp at this; exact this.1.symm
              rw [g4, ← i2] at hown2
              rw [← e1]; exact Option.some.inj (hown.symm.trans hown2)
            have h6 := u_fits hfc hkC hkind (Or.inr hlay) hi (u2 k g2) f1 f2
            exact W.putFinK hx hb hown (hts _ g3) hi hst hcf (hini i1) (by rw [q2]; exact h6) q1 q3 (by rw [hsl]; exact k2_hasslot (q4 k g2)) rfl rfl hd fun H' w1 w2 w3 => fin H' w1 w2 w3 _ rfl
        · exact h.elim
      · exact h.elim
    · exact h.elim
  case iaload =>
    obtain ⟨rfl, h⟩ := h
    split at h
    · rename_i j a r
      replace h := z_ar_spec h; obtain ⟨n, f, h1, h2, h⟩ := h
      exact va_iald (q0 := 0) (t0 := 0) hx hb hKK (hR.cell h1) rfl rfl h2 hd (hK _ _ _ _ h H locs ls hR hS hl)
    · exact h.elim
  case baload =>
    obtain ⟨rfl, h⟩ := h
    split at h
    · rename_i j a r
      replace h := z_ar_spec h; obtain ⟨n, f, h1, h2, h⟩ := h
      exact va_zald (q0 := 0) (t0 := 1) hx hb hKK (hR.cell h1) rfl rfl h2 hd (hK _ _ _ _ h H locs ls hR hS hl)
    · exact h.elim
  case aaload =>
    obtain ⟨rfl, h⟩ := h
    split at h
    · rename_i j a r
      replace h := z_aq_spec h; obtain ⟨t, n, f, ht, h1, h2, h⟩ := h
      rcases ht with rfl | rfl
      · exact va_aldq (q0 := 0) (t0 := 2) hx hb hKK (hR.cell h1) rfl rfl h2 hd (hK _ _ _ _ h H locs ls hR hS hl)
      · exact va_aldq (q0 := 0) (t0 := 3) hx hb hKK (hR.cell h1) rfl rfl h2 hd (hK _ _ _ _ h H locs ls hR hS hl)
    · exact h.elim
  case iastore =>
    obtain ⟨rfl, h⟩ := h
    split at h
    · rename_i b j a r
      replace h := z_ar_spec h; obtain ⟨n, f, h1, h2, h⟩ := h
      have hP := hR.cell h1
      refine W.iast hx hb (hP 0 _ rfl) ((hKK.2 0 _ rfl).1 n (fun j => .int (f j))) (fun q => by cases q) (by show ¬ (j < 0 ∨ (arrV _ _ _).slots.size ≤ _); rw [arrV_size]; exact h2) rfl rfl hd fun H1 e1 z oq => ?_
      refine hK _ _ _ _ h H1 _ ls (hR.put h1 z ?_ oq) (hS.put z oq (hR.2 a _ h1).1) hl
      show H1[a]? = some (vp_cell _ _)
      rw [e1]
      simp only [z_cv]
      rw [vp_cell_i, vp_cell_i, arrV_store]
      congr 2
      funext q
      by_cases hq : q = j.toNatClampNeg
      · subst hq
        simp [updV, upd]
      · simp [updV, upd, hq]
    · exact h.elim
  case bastore =>
    obtain ⟨rfl, h⟩ := h
    split at h
    · rename_i b j a r
      replace h := z_ar_spec h; obtain ⟨n, f, h1, h2, h⟩ := h
      have hP := hR.cell h1
      refine W.zast hx hb (hP 0 _ rfl) ((hKK.2 1 _ rfl).1 n (fun j => .int (f j))) (fun q => by cases q) (by show ¬ (j < 0 ∨ (arrV _ _ _).slots.size ≤ _); rw [arrV_size]; exact h2) rfl rfl hd fun H1 e1 z oq => ?_
      refine hK _ _ _ _ h H1 _ ls (hR.put h1 z ?_ oq) (hS.put z oq (hR.2 a _ h1).1) hl
      show H1[a]? = some (vp_cell _ _)
      rw [e1]
      simp only [z_cv]
      rw [vp_cell_i, vp_cell_i, arrV_store]
      congr 2
      funext q
      by_cases hq : q = j.toNatClampNeg
      · subst hq
        simp [updV, upd, vp_nar]
        try rfl
      · simp [updV, upd, hq]
    · exact h.elim
  case arraylength =>
    obtain ⟨rfl, h⟩ := h
    split at h
    · rename_i a r
      replace h := z_al_spec h; obtain ⟨t, y, ht, h1, h⟩ := h
      rcases (show t = 0 ∨ t = 1 ∨ t = 2 ∨ t = 3 by omega) with rfl | rfl | rfl | rfl
      · exact va_alen (q0 := 0) (t0 := 0) hx hb hKK (hR.cell h1) rfl rfl rfl hd (hK _ _ _ _ h H locs ls hR hS hl)
      · exact va_alen (q0 := 0) (t0 := 1) hx hb hKK (hR.cell h1) rfl rfl rfl hd (hK _ _ _ _ h H locs ls hR hS hl)
      · exact va_alen (q0 := 0) (t0 := 2) hx hb hKK (hR.cell h1) rfl rfl rfl hd (hK _ _ _ _ h H locs ls hR hS hl)
      · exact va_alen (q0 := 0) (t0 := 3) hx hb hKK (hR.cell h1) rfl rfl rfl hd (hK _ _ _ _ h H locs ls hR hS hl)
    · exact h.elim
  case ireturn =>
    obtain ⟨rfl, h⟩ := h
    split at h
    · rename_i v
      obtain ⟨h1, h2⟩ := h
      obtain ⟨post, mc, ms, rfl, c1, c2, hp⟩ := hQ _ _ h2
      refine W.widen c1 c2 ?_
      unfold z_rt at h1
      split at h1
      · exact W.iret (v := v) hx hb hrt (fun t ht hW => ⟨⟨_, S.1, S.2.1, rfl, hp, by rw [ht]; exact hR⟩, hS.F ht⟩) hS.2.2 hd
      · exact W.zret (v := v) hx hb hrt h1 (fun t ht hW => ⟨⟨_, S.1, S.2.1, rfl, hp, by rw [ht]; exact hR⟩, hS.F ht⟩) hS.2.2 hd
      · exact W.zret (v := v) hx hb hrt h1 (fun t ht hW => ⟨⟨_, S.1, S.2.1, rfl, hp, by rw [ht]; exact hR⟩, hS.F ht⟩) hS.2.2 hd
      · exact W.zret (v := v) hx hb hrt h1 (fun t ht hW => ⟨⟨_, S.1, S.2.1, rfl, hp, by rw [ht]; exact hR⟩, hS.F ht⟩) hS.2.2 hd
      · exact h1.elim
    · exact h.elim
  case areturn =>
    obtain ⟨rfl, h1, h⟩ := h
    unfold z_ra at h1
    split at h1
    · split at h
      · obtain ⟨post, mc, ms, rfl, c1, c2, hp⟩ := hQ _ _ h
        refine W.widen c1 c2 ?_
        exact W.aret hx hb hrt (Or.inl ⟨_, rfl⟩) (Or.inr ⟨_, rfl⟩) (fun t ht hW => ⟨⟨_, S.1, S.2.1, rfl, hp, by rw [ht]; exact hR⟩, hS.F ht⟩) hS.2.2 hd
      · obtain ⟨post, mc, ms, rfl, c1, c2, hp⟩ := hQ _ _ h
        refine W.widen c1 c2 ?_
        exact W.aret hx hb hrt (Or.inl ⟨_, rfl⟩) (Or.inl rfl) (fun t ht hW => ⟨⟨_, S.1, S.2.1, rfl, hp, by rw [ht]; exact hR⟩, hS.F ht⟩) hS.2.2 hd
      · exact h.elim
    · exact h1.elim
  case return_ =>
    obtain ⟨rfl, h1, h⟩ := h
    split at h
    · obtain ⟨post, mc, ms, rfl, c1, c2, hp⟩ := hQ _ _ h
      refine W.widen c1 c2 ?_
      exact W.vret hx hb (hrt.trans h1) (fun t ht hW => ⟨⟨_, S.1, S.2.1, rfl, hp, by rw [ht]; exact hR⟩, hS.F ht⟩) hS.2.2 hd
    · exact h.elim
  all_goals exact False.elim h
def z_mem : Nat → List Nat → Bool
  | _, [] => false
  | a, b :: l => (a == b) || z_mem a l
/-- the walk of up to n steps; it stops at calls, and where the places of ss are reached -/
def z_x (P : zP) (Kr : Option Value → zS → Prop) (cn : Nat) (cc : ByteArray) (rt : Option FieldType) (ini : Bool) (ss : List Nat) : Nat → zS → Nat → zL → List Value → Prop
  | 0, S, pc, lv, st => P S pc lv st
  | n + 1, S, pc, lv, st => match decode cc pc with
    | .ok (i, len) => if z_stop i = true then P S pc lv st else z_n (fun S pc lv st => if z_mem pc ss = true then P S pc lv st else z_x P Kr cn cc rt ini ss n S pc lv st) Kr cn rt ini S pc lv st len i
    | _ => False
theorem z_run {P : zP} {l : Launch} {E : zE} {R : Room} {cn : Nat} {cc : ByteArray} {nL : Nat} {rt : Option FieldType} {ini : Bool} {Kr : Option Value → zS → Prop} (C : z_OK P l E R cn cc nL rt ini Kr) (ss : List Nat) : ∀ (n : Nat) {S : zS} {pc : Nat} {lv : zL} {st : List Value}, z_x P Kr cn cc rt ini ss n S pc lv st → P S pc lv st
  | 0, S, pc, lv, st, h => h
  | n + 1, S, pc, lv, st, h => by
    unfold z_x at h
    split at h
    · rename_i i len hd
      split at h
      · exact h
      · refine z_n_ok C (fun S pc lv st h => ?_) hd h
        split at h
        · exact h
        · exact z_run C ss n h
    · exact h.elim
end
section
/-! CALLS -/
theorem z_blind {E : zE} {as : List Value} {M : zH} {z : Nat} : FrameBlind (va_Pc as (z_U E M z)) := by
  intro a U g mk h
  obtain ⟨h0, h1, h2, h3, h4, g2, g3, g4, g5, g6, g7⟩ := h
  refine ⟨h0, h1, h2, va_K.moved (u := U) (U := U.calling g mk a) (Vm.Alike.refl U.vm) h3, fun w hw => ?_, g2.moved (U := U.calling g mk a) (Vm.Alike.refl U.vm), g3.same rfl, g4.same rfl, g5.moved (U := U.calling g mk a) (Vm.Alike.refl U.vm), g6.moved (U := U.calling g mk a) (Vm.Alike.refl U.vm), g7⟩
  have h8 := h4 w hw
  simp only [z_nw, List.mem_cons, List.not_mem_nil, or_false] at hw
  rcases hw with rfl | rfl | rfl | rfl <;> exact va_Nw.same rfl rfl h8
theorem z_go {p : Program} {l : Launch} {e : Env} {R : Room} {s : State} {m : MethodId} {args : Array Value} {below : List Frame} {meth : Method} {c : Code} {H : Heap} {locs : List Loc} {cells slots mc ms : Nat} {Q : State → Prop} {pc : Nat} {ls : Array Slot} {rest st0 : List Value} {a : Array Value} {E : zE} {post : Option Value → zH → Nat → Prop}
    (hr : va_Run p l e R s m args below meth c H locs cells slots mc ms (F0 m pc ls st0) rest (z_Qc E post a) (z_A E)) (hS : va_S (z_A E) s.heap H locs)
    (kk : ∀ (r : Option Value) (M' : zH) (z' : Nat) (H1 : Heap) (locs1 : List Loc), post r M' z' → z_R E M' z' H1 → va_S (z_A E) s.heap H1 locs1 → W p l e R s m args below meth c H1 locs1 (cells + mc) (slots + ms) Q (F0 m (pc + 3) ls (r.toList ++ rest))) : W p l e R s m args below meth c H locs cells slots Q (F0 m pc ls st0) := by
  intro T hT X
  obtain ⟨v, st₀, t, T', L, h0, X', hL, e1, e2, ⟨⟨r, M', z', hv, hp, hb⟩, hz, hk⟩, st⟩ := hr T hT X
  cases hv
  rw [h0] at hz hk
  obtain ⟨t2, a1, b1⟩ := kk v M' z' T'.heap (locs ++ L) hp (by rw [e1]; exact hb)
    ⟨Nat.le_trans hS.1 (by rw [e1]; exact hz), fun q h1 h2 => by rw [e1, hk q (Nat.lt_of_lt_of_le h1 hS.1) h2]; exact hS.2.1 q h1 h2, fun q hq => by
      rcases List.mem_append.mp hq with h | h
      · exact hS.2.2 q h
      · exact hL q h⟩ T' rfl X'
  exact ⟨t2, st t2 a1, b1⟩
theorem z_callB {R : Room} {s : State} {args : Array Value} {cn idx : Nat} {nm : MethodName} {cc : ByteArray} {nL : Nat} {rt : Option FieldType} {n d mc ms : Nat} {w2 : List Cond} (hts : ∀ w ∈ z_gw, w.before args s = true) (hk : z_lk cn idx nm cc nL rt n w2) (hR : d + 1 ≤ R.frames ∧ 60 * d + 60 ≤ R.locals) : CallB R s args (z_own cn) idx nm cc nL rt (z_ws nm cc nL rt) (z_rm d mc ms) mc ms n := by
  obtain ⟨k1, k2, k3, k4, k5⟩ := hk
  refine callB_of n hts (fun w hw => ?_) rfl rfl rfl (hts _ (k1 _ (by simp))) (hts _ (k1 _ (by simp))) ⟨k2, k3, k4⟩ ⟨hR.1, ?_⟩
  · rcases List.mem_cons.mp hw with rfl | hw
    · have hm := k1 (.code nm cc nL rt) (by simp)
      exact ⟨hm, z_gw_good _ hm⟩
    · exact ⟨hw, z_gw_good _ hw⟩
  · show 8 + (nL + 11) + 60 * d ≤ R.locals
    omega
section ZCALL
variable {P : zP} {l : Launch} {E : zE} {R : Room} {cn : Nat} {cc : ByteArray} {nL : Nat} {rt : Option FieldType} {ini : Bool} {Kr : Option Value → zS → Prop} {S : zS} {pc : Nat} {lv : zL} {st : List Value} {idx : Nat} {nm : MethodName} {cc' : ByteArray} {nL' : Nat} {rt' : Option FieldType} {n b ci d mc ms : Nat} {as rest fs : List Value} {post : Option Value → zH → Nat → Prop}
set_option maxHeartbeats 4000000 in
theorem z_cV (C : z_OK P l E R cn cc nL rt ini Kr) (hd : decode cc pc = .ok (.invokevirtual idx, 3)) (hk : z_lk cn idx nm cc' nL' rt' n [.instanceMethod nm, .selects nm.cls nm nm]) (hc : z_Ct l E d nm cc' nL' rt' (.ref b :: as) S.1 S.2.1 mc ms post) (hst : st = as.reverse ++ .ref b :: rest) (hb : S.1 b = some (.inr (ci, fs))) (hcls : z_own ci = nm.cls) (hR : d + 1 ≤ R.frames ∧ 60 * d + 60 ≤ R.locals) (hm : S.2.2.1 + mc ≤ R.cells ∧ S.2.2.2 + ms ≤ R.slots) (hn : as.length = n) (hrest : (rest.map fun v => v.category).sum ≤ 8)
    (kk : ∀ (r : Option Value) (M' : zH) (z' : Nat), post r M' z' → P (M', z', S.2.2.1 + mc, S.2.2.2 + ms) (pc + 3) lv (r.toList ++ rest)) : P S pc lv st := by
  subst hst
  obtain ⟨p, e, s, m, args, below, meth, c, Q, rfl, ⟨hx, hcb, hml, hrt, hown, hts, hlocks, hini, hKK, hN, hsz⟩, hQ⟩ := C
  intro H locs ls hRR hS hl
  obtain ⟨l0, hl1, hl2, hl3, hl4⟩ := id hl
  obtain ⟨r9, hc9, cell, g1, g2, g3, -⟩ := (hRR.2 b _ hb).2
  have hcl := hKK.1 ci r9 hc9
  have hnm : r9.1 = nm.cls := by
    obtain ⟨-, -, -, u4⟩ := z_cl_ok (ci := ci) (r := r9) (by rw [z_at_eq]; exact hc9)
    rw [u4, hcls]
  refine z_go (va_runV (C := nm.cls) (b := b) (As := as) (rest := rest) (g := F0 m pc ls (as.reverse ++ .ref b :: rest)) ⟨hx, hcb, hml, hown, hts⟩ hc ⟨z_callB hts hk hR, hts _ (hk.1 _ (by simp)), hts _ (hk.1 _ (by simp))⟩ ⟨z_blind, ⟨cell, g1, by rw [g3]; rfl, by rw [g2, ← hnm]; exact hcl.2.1⟩, fun U hU hW => ⟨rfl, ?_, ?_, va_K.moved hW.alike hKK, z_Nmove (locs := locs) hN hW (by rw [hU]; exact hS)⟩⟩ rfl hn hl1.1 rfl (lv_room hrest) hd hm) hS (fun r M' z' H1 locs1 hp hr hs => kk r M' z' hp H1 locs1 ls hr hs hl)
  · rw [hU]; exact Nat.le_trans hsz hS.1
  · rw [hU]; exact hRR
set_option maxHeartbeats 4000000 in
theorem z_cS (C : z_OK P l E R cn cc nL rt ini Kr) (hd : decode cc pc = .ok (.invokestatic idx, 3)) (hk : z_lk cn idx nm cc' nL' rt' n [.static nm]) (hc : z_Ct l E d nm cc' nL' rt' as S.1 S.2.1 mc ms post) (hst : st = as.reverse ++ rest) (hR : d + 1 ≤ R.frames ∧ 60 * d + 60 ≤ R.locals) (hm : S.2.2.1 + mc ≤ R.cells ∧ S.2.2.2 + ms ≤ R.slots) (hn : as.length = n) (hrest : (rest.map fun v => v.category).sum ≤ 8)
    (kk : ∀ (r : Option Value) (M' : zH) (z' : Nat), post r M' z' → P (M', z', S.2.2.1 + mc, S.2.2.2 + ms) (pc + 3) lv (r.toList ++ rest)) : P S pc lv st := by
  subst hst
  obtain ⟨p, e, s, m, args, below, meth, c, Q, rfl, ⟨hx, hcb, hml, hrt, hown, hts, hlocks, hini, hKK, hN, hsz⟩, hQ⟩ := C
  intro H locs ls hRR hS hl
  obtain ⟨l0, hl1, hl2, hl3, hl4⟩ := id hl
  refine z_go (va_runS (As := as) (rest := rest) (g := F0 m pc ls (as.reverse ++ rest)) ⟨hx, hcb, hml, hown, hts⟩ hc ⟨z_callB hts hk hR, hts _ (hk.1 _ (by simp))⟩ ⟨z_blind, fun U hU hW => ⟨rfl, ?_, ?_, va_K.moved hW.alike hKK, z_Nmove (locs := locs) hN hW (by rw [hU]; exact hS)⟩⟩ rfl hn hl1.1 rfl (lv_room hrest) hd hm) hS (fun r M' z' H1 locs1 hp hr hs => kk r M' z' hp H1 locs1 ls hr hs hl)
  · rw [hU]; exact Nat.le_trans hsz hS.1
  · rw [hU]; exact hRR
set_option maxHeartbeats 4000000 in
theorem z_cI (C : z_OK P l E R cn cc nL rt ini Kr) (hd : decode cc pc = .ok (.invokespecial idx, 3)) (hk : z_lk cn idx nm cc' nL' none n [.instanceMethod nm]) (hc : z_Ct l E d nm cc' nL' none (.ref b :: as) S.1 S.2.1 mc ms post) (hst : st = as.reverse ++ .ref b :: rest) (hni : nm.name = "<init>") (hR : d + 1 ≤ R.frames ∧ 60 * d + 60 ≤ R.locals) (hm : S.2.2.1 + mc ≤ R.cells ∧ S.2.2.2 + ms ≤ R.slots) (hn : as.length = n) (hrest : (rest.map fun v => v.category).sum ≤ 8)
    (kk : ∀ (r : Option Value) (M' : zH) (z' : Nat), post r M' z' → P (M', z', S.2.2.1 + mc, S.2.2.2 + ms) (pc + 3) lv (r.toList ++ rest)) : P S pc lv st := by
  subst hst
  obtain ⟨p, e, s, m, args, below, meth, c, Q, rfl, ⟨hx, hcb, hml, hrt, hown, hts, hlocks, hini, hKK, hN, hsz⟩, hQ⟩ := C
  intro H locs ls hRR hS hl
  obtain ⟨l0, hl1, hl2, hl3, hl4⟩ := id hl
  refine z_go (va_runI (b := b) (As := as) (rest := rest) (g := F0 m pc ls (as.reverse ++ .ref b :: rest)) ⟨hx, hcb, hml, hown, hts⟩ hc ⟨z_callB hts hk hR, hni, hts _ (hk.1 _ (by simp))⟩ ⟨z_blind, fun U hU hW => ⟨rfl, ?_, ?_, va_K.moved hW.alike hKK, z_Nmove (locs := locs) hN hW (by rw [hU]; exact hS)⟩⟩ rfl hn hl1.1 rfl (lv_room hrest) hd hm) hS (fun r M' z' H1 locs1 hp hr hs => kk r M' z' hp H1 locs1 ls hr hs hl)
  · rw [hU]; exact Nat.le_trans hsz hS.1
  · rw [hU]; exact hRR
set_option maxHeartbeats 4000000 in
/-- a static method of a nest mate -/
theorem z_cN (C : z_OK P l E R cn cc nL rt ini Kr) (hd : decode cc pc = .ok (.invokestatic idx, 3)) {host : String} (hnw : Cond.methodLinkNest (z_own cn) idx nm host ∈ z_nw) (hw : (Cond.static nm ∈ z_gw ∧ Cond.initialized nm.cls ∈ z_gw ∧ Cond.code nm cc' nL' rt' ∈ z_gw) ∧ nm.cls ≠ "java/lang/invoke/MethodHandle" ∧ nm.cls ≠ "java/lang/invoke/VarHandle" ∧ (parseMethodDescriptor nm.desc).map (fun d => d.parameters.length) = some n ∧ nL' ≤ 41) (hc : z_Ct l E d nm cc' nL' rt' as S.1 S.2.1 mc ms post) (hst : st = as.reverse ++ rest) (hR : d + 1 ≤ R.frames ∧ 60 * d + 60 ≤ R.locals) (hm : S.2.2.1 + mc ≤ R.cells ∧ S.2.2.2 + ms ≤ R.slots) (hn : as.length = n) (hrest : (rest.map fun v => v.category).sum ≤ 8)
    (kk : ∀ (r : Option Value) (M' : zH) (z' : Nat), post r M' z' → P (M', z', S.2.2.1 + mc, S.2.2.2 + ms) (pc + 3) lv (r.toList ++ rest)) : P S pc lv st := by
  subst hst
  obtain ⟨p, e, s, m, args, below, meth, c, Q, rfl, ⟨hx, hcb, hml, hrt, hown, hts, hlocks, hini, hKK, hN, hsz⟩, hQ⟩ := C
  intro H locs ls hRR hS hl
  obtain ⟨l0, hl1, hl2, hl3, hl4⟩ := id hl
  obtain ⟨⟨w1, w2, w3⟩, w4, w5, w6, w7⟩ := hw
  have hG : GoodIn z_gw (z_ws nm cc' nL' rt') := fun w hw => by
    rcases List.mem_cons.mp hw with rfl | hw
    · exact ⟨w3, z_gw_good _ w3⟩
    · exact ⟨hw, z_gw_good _ hw⟩
  refine z_go (va_runSN (As := as) (rest := rest) (g := F0 m pc ls (as.reverse ++ rest)) ⟨hx, hcb, hml, hown, hts⟩ hc ⟨va_cnB n hts hG rfl rfl rfl (hN.1 _ hnw) (hts _ w2) ⟨w4, w5, w6⟩ ⟨hR.1, ?_⟩, hts _ w1, trivial⟩ ⟨z_blind, fun U hU hW => ⟨rfl, ?_, ?_, va_K.moved hW.alike hKK, z_Nmove (locs := locs) hN hW (by rw [hU]; exact hS)⟩⟩ rfl hn hl1.1 rfl (lv_room hrest) hd hm) hS (fun r M' z' H1 locs1 hp hr hs => kk r M' z' hp H1 locs1 ls hr hs hl)
  · show 8 + (nL' + 11) + 60 * d ≤ R.locals
    omega
  · rw [hU]; exact Nat.le_trans hsz hS.1
  · rw [hU]; exact hRR
end ZCALL
/-- a contract of a method that makes nothing -/
def z_Cn (l : Launch) (E : zE) (d : Nat) (nm : MethodName) (cc : ByteArray) (nL : Nat) (rt : Option FieldType) (as : List Value) (M : zH) (post : Option Value → zH → Prop) : Prop := ∀ z : Nat, z_Ct l E d nm cc nL rt as M z 0 0 (fun r M' z' => z' = z ∧ post r M')
def z_i (post : Int32 → zH → Prop) : Option Value → zH → Prop := fun r M' => ∃ v, r = some (.int v) ∧ post v M'
def z_v (post : zH → Prop) : Option Value → zH → Prop := fun r M' => r = none ∧ post M'
def z_K0 (z : Nat) (post : Option Value → zH → Prop) : Option Value → zS → Prop := z_Kr 0 0 (fun r M' z' => z' = z ∧ post r M')
theorem z_cn {l : Launch} {E : zE} {d : Nat} {nm : MethodName} {cc : ByteArray} {nL : Nat} {rt : Option FieldType} {as : List Value} {M : zH} {post : Option Value → zH → Prop} (cn : Nat) (h : ∀ (P : zP) (z : Nat), z_OK P l E (z_rm d 0 0) cn cc nL rt false (z_K0 z post) → P (M, z, 0, 0) 0 (z_lv as nL) []) (hy : plainName nm.cls = true := by decide) (hcn : nm.cls = z_own cn := by rfl) (hc : ∀ v ∈ as, v.category = 1 := by simp [Value.category]) (hn : as.length ≤ nL := by simp) : z_Cn l E d nm cc nL rt as M post :=
  fun z => z_ct cn false hy hcn (fun h => by cases h) hc hn (fun P C => h P z C)
abbrev z_hi (post : Int32 → zH → Prop) (v : Int32) (M : zH) : Prop := post v M
abbrev z_hv (post : zH → Prop) (M : zH) : Prop := post M
theorem z_K0i (z : Nat) (post : Int32 → zH → Prop) (v : Int32) (M : zH) : z_K0 z (z_i post) (some (.int v)) (M, z, 0, 0) = z_hi post v M := propext ⟨fun h => by obtain ⟨-, -, -, w, e, h⟩ := h; cases e; exact h, fun h => ⟨Nat.le_refl _, Nat.le_refl _, rfl, v, rfl, h⟩⟩
theorem z_K0v (z : Nat) (post : zH → Prop) (M : zH) : z_K0 z (z_v post) none (M, z, 0, 0) = z_hv post M := propext ⟨fun h => by obtain ⟨-, -, -, -, h⟩ := h; exact h, fun h => ⟨Nat.le_refl _, Nat.le_refl _, rfl, rfl, h⟩⟩
theorem z_K0o (z : Nat) (post : Option Value → zH → Prop) (r : Option Value) (M : zH) : z_K0 z post r (M, z, 0, 0) = post r M := propext ⟨fun h => h.2.2.2, fun h => ⟨Nat.le_refl _, Nat.le_refl _, rfl, h⟩⟩
section ZCALL0
variable {P : zP} {l : Launch} {E : zE} {cn : Nat} {cc : ByteArray} {nL : Nat} {rt : Option FieldType} {ini : Bool} {Kr : Option Value → zS → Prop} {M : zH} {z : Nat} {pc : Nat} {lv : zL} {st : List Value} {idx : Nat} {nm : MethodName} {cc' : ByteArray} {nL' : Nat} {rt' : Option FieldType} {n b ci d : Nat} {as rest fs : List Value}
theorem z_rr {d mc ms : Nat} : d + 1 ≤ (z_rm (d + 1) mc ms).frames ∧ 60 * d + 60 ≤ (z_rm (d + 1) mc ms).locals := ⟨Nat.le_refl _, by show 60 * d + 60 ≤ 60 * (d + 1); omega⟩
theorem z_vo {post : Option Value → zH → Prop} (C : z_OK P l E (z_rm (d + 1) 0 0) cn cc nL rt ini Kr) (hd : decode cc pc = .ok (.invokevirtual idx, 3)) (hk : z_lk cn idx nm cc' nL' rt' n [.instanceMethod nm, .selects nm.cls nm nm]) (hc : z_Cn l E d nm cc' nL' rt' (.ref b :: as) M post) (hst : st = as.reverse ++ .ref b :: rest) (hb : M b = some (.inr (ci, fs))) (kk : ∀ (r : Option Value) (M' : zH), post r M' → P (M', z, 0, 0) (pc + 3) lv (r.toList ++ rest)) (hcls : z_own ci = nm.cls := by rfl) (hn : as.length = n := by rfl) (hrest : (rest.map fun v => v.category).sum ≤ 8 := by simp [Value.category]) : P (M, z, 0, 0) pc lv st :=
  z_cV C hd hk (hc z) hst hb hcls z_rr ⟨Nat.le_refl _, Nat.le_refl _⟩ hn hrest (fun r M' z' h => by obtain ⟨rfl, h⟩ := h; exact kk r M' h)
theorem z_vi {post : Int32 → zH → Prop} (C : z_OK P l E (z_rm (d + 1) 0 0) cn cc nL rt ini Kr) (hd : decode cc pc = .ok (.invokevirtual idx, 3)) (hk : z_lk cn idx nm cc' nL' rt' n [.instanceMethod nm, .selects nm.cls nm nm]) (hc : z_Cn l E d nm cc' nL' rt' (.ref b :: as) M (z_i post)) (hst : st = as.reverse ++ .ref b :: rest) (hb : M b = some (.inr (ci, fs))) (kk : ∀ (v : Int32) (M' : zH), post v M' → P (M', z, 0, 0) (pc + 3) lv (.int v :: rest)) (hcls : z_own ci = nm.cls := by rfl) (hn : as.length = n := by rfl) (hrest : (rest.map fun v => v.category).sum ≤ 8 := by simp [Value.category]) : P (M, z, 0, 0) pc lv st :=
  z_vo C hd hk hc hst hb (fun r M' h => by obtain ⟨v, rfl, h⟩ := h; exact kk v M' h) hcls hn hrest
theorem z_vv {post : zH → Prop} (C : z_OK P l E (z_rm (d + 1) 0 0) cn cc nL rt ini Kr) (hd : decode cc pc = .ok (.invokevirtual idx, 3)) (hk : z_lk cn idx nm cc' nL' rt' n [.instanceMethod nm, .selects nm.cls nm nm]) (hc : z_Cn l E d nm cc' nL' rt' (.ref b :: as) M (z_v post)) (hst : st = as.reverse ++ .ref b :: rest) (hb : M b = some (.inr (ci, fs))) (kk : ∀ (M' : zH), post M' → P (M', z, 0, 0) (pc + 3) lv rest) (hcls : z_own ci = nm.cls := by rfl) (hn : as.length = n := by rfl) (hrest : (rest.map fun v => v.category).sum ≤ 8 := by simp [Value.category]) : P (M, z, 0, 0) pc lv st :=
  z_vo C hd hk hc hst hb (fun r M' h => by obtain ⟨rfl, h⟩ := h; exact kk M' h) hcls hn hrest
theorem z_si {post : Int32 → zH → Prop} (C : z_OK P l E (z_rm (d + 1) 0 0) cn cc nL rt ini Kr) (hd : decode cc pc = .ok (.invokestatic idx, 3)) (hk : z_lk cn idx nm cc' nL' rt' n [.static nm]) (hc : z_Cn l E d nm cc' nL' rt' as M (z_i post)) (hst : st = as.reverse ++ rest) (kk : ∀ (v : Int32) (M' : zH), post v M' → P (M', z, 0, 0) (pc + 3) lv (.int v :: rest)) (hn : as.length = n := by rfl) (hrest : (rest.map fun v => v.category).sum ≤ 8 := by simp [Value.category]) : P (M, z, 0, 0) pc lv st :=
  z_cS C hd hk (hc z) hst z_rr ⟨Nat.le_refl _, Nat.le_refl _⟩ hn hrest (fun r M' z' h => by obtain ⟨rfl, v, rfl, h⟩ := h; exact kk v M' h)
theorem z_sw {post : zH → Prop} (C : z_OK P l E (z_rm (d + 1) 0 0) cn cc nL rt ini Kr) (hd : decode cc pc = .ok (.invokestatic idx, 3)) (hk : z_lk cn idx nm cc' nL' rt' n [.static nm]) (hc : z_Cn l E d nm cc' nL' rt' as M (z_v post)) (hst : st = as.reverse ++ rest) (kk : ∀ (M' : zH), post M' → P (M', z, 0, 0) (pc + 3) lv rest) (hn : as.length = n := by rfl) (hrest : (rest.map fun v => v.category).sum ≤ 8 := by simp [Value.category]) : P (M, z, 0, 0) pc lv st :=
  z_cS C hd hk (hc z) hst z_rr ⟨Nat.le_refl _, Nat.le_refl _⟩ hn hrest (fun r M' z' h => by obtain ⟨rfl, rfl, h⟩ := h; exact kk M' h)
theorem z_ni {post : Int32 → zH → Prop} {host : String} (C : z_OK P l E (z_rm (d + 1) 0 0) cn cc nL rt ini Kr) (hd : decode cc pc = .ok (.invokestatic idx, 3)) (hk : z_lkN cn idx nm cc' nL' rt' n host) (hc : z_Cn l E d nm cc' nL' rt' as M (z_i post)) (hst : st = as.reverse ++ rest) (kk : ∀ (v : Int32) (M' : zH), post v M' → P (M', z, 0, 0) (pc + 3) lv (.int v :: rest)) (hn : as.length = n := by rfl) (hrest : (rest.map fun v => v.category).sum ≤ 8 := by simp [Value.category]) : P (M, z, 0, 0) pc lv st :=
  z_cN C hd hk.1 hk.2 (hc z) hst z_rr ⟨Nat.le_refl _, Nat.le_refl _⟩ hn hrest (fun r M' z' h => by obtain ⟨rfl, v, rfl, h⟩ := h; exact kk v M' h)
end ZCALL0
end
section
theorem zf_2_15 : z_fld 2 15 = some (2, 0) := by decide +kernel
theorem zf_2_21 : z_fld 2 21 = some (2, 1) := by decide +kernel
theorem zf_4_11 : z_fld 4 11 = some (4, 0) := by decide +kernel
theorem zf_1_9 : z_fld 1 9 = some (1, 0) := by decide +kernel
theorem zf_1_15 : z_fld 1 15 = some (1, 1) := by decide +kernel
theorem zf_1_18 : z_fld 1 18 = some (1, 2) := by decide +kernel
theorem zf_1_22 : z_fld 1 22 = some (1, 3) := by decide +kernel
theorem zf_3_9 : z_fld 3 9 = some (3, 0) := by decide +kernel
theorem zf_3_15 : z_fld 3 15 = some (3, 1) := by decide +kernel
theorem zf_3_19 : z_fld 3 19 = some (3, 2) := by decide +kernel
theorem zf_3_22 : z_fld 3 22 = some (3, 3) := by decide +kernel
theorem zf_0_9 : z_fld 0 9 = some (0, 0) := by decide +kernel
theorem zf_0_15 : z_fld 0 15 = some (0, 1) := by decide +kernel
theorem zf_5_14 : z_fld 5 14 = some (5, 0) := by decide +kernel
theorem zf_5_18 : z_fld 5 18 = some (5, 1) := by decide +kernel
theorem zf_5_21 : z_fld 5 21 = some (5, 2) := by decide +kernel
theorem zf_5_24 : z_fld 5 24 = some (5, 3) := by decide +kernel
theorem zf_5_27 : z_fld 5 27 = some (5, 4) := by decide +kernel
theorem zf_5_30 : z_fld 5 30 = some (5, 5) := by decide +kernel
theorem zf_5_33 : z_fld 5 33 = some (5, 6) := by decide +kernel
theorem zf_5_39 : z_fld 5 39 = some (5, 7) := by decide +kernel
theorem zf_5_43 : z_fld 5 43 = some (5, 8) := by decide +kernel
theorem zf_5_52 : z_fld 5 52 = some (5, 9) := by decide +kernel
theorem zf_5_59 : z_fld 5 59 = some (5, 10) := by decide +kernel
theorem zf_5_66 : z_fld 5 66 = some (5, 11) := by decide +kernel
theorem zf_5_70 : z_fld 5 70 = some (5, 12) := by decide +kernel
theorem zf_5_74 : z_fld 5 74 = some (5, 13) := by decide +kernel
theorem zf_6_7 : z_fld 6 7 = some (6, 0) := by decide +kernel
theorem zf_6_13 : z_fld 6 13 = some (6, 1) := by decide +kernel
theorem zf_6_16 : z_fld 6 16 = some (6, 2) := by decide +kernel
theorem zf_6_20 : z_fld 6 20 = some (6, 3) := by decide +kernel
theorem zf_6_61 : z_fld 6 61 = some (6, 4) := by decide +kernel
theorem zf_6_23 : z_fld 6 23 = some (6, 5) := by decide +kernel
theorem zf_6_27 : z_fld 6 27 = some (6, 6) := by decide +kernel
theorem zf_6_30 : z_fld 6 30 = some (6, 7) := by decide +kernel
theorem zf_6_33 : z_fld 6 33 = some (6, 8) := by decide +kernel
theorem zf_6_36 : z_fld 6 36 = some (6, 9) := by decide +kernel
theorem zf_6_39 : z_fld 6 39 = some (6, 10) := by decide +kernel
theorem zf_6_42 : z_fld 6 42 = some (6, 11) := by decide +kernel
theorem zf_6_98 : z_fld 6 98 = some (6, 12) := by decide +kernel
theorem zf_6_45 : z_fld 6 45 = some (6, 13) := by decide +kernel
theorem zf_6_48 : z_fld 6 48 = some (6, 14) := by decide +kernel
theorem zf_6_131 : z_fld 6 131 = some (6, 15) := by decide +kernel
theorem zf_6_51 : z_fld 6 51 = some (6, 16) := by decide +kernel
theorem zf_6_145 : z_fld 6 145 = some (6, 17) := by decide +kernel
theorem zf_6_54 : z_fld 6 54 = some (6, 18) := by decide +kernel
theorem zt_0_0 (x : Nat) : z_fit 0 true 0 0 (.ref x) = True := eq_true ⟨rfl, rfl, fun _ => ⟨rfl, rfl⟩⟩
theorem zt_0_1 (x : Nat) : z_fit 0 true 0 1 (.ref x) = True := eq_true ⟨rfl, rfl, fun _ => ⟨rfl, rfl⟩⟩
theorem zt_1_0 (x : Nat) : z_fit 1 true 1 0 (.ref x) = True := eq_true ⟨rfl, rfl, fun _ => ⟨rfl, rfl⟩⟩
theorem zt_1_1 (x : Nat) : z_fit 1 true 1 1 (.ref x) = True := eq_true ⟨rfl, rfl, fun _ => ⟨rfl, rfl⟩⟩
theorem zt_1_2 (cn : Nat) (ini : Bool) (x : Int32) : z_fit cn ini 1 2 (.int x) = True := eq_true ⟨rfl, rfl, fun h => absurd h (by decide +kernel)⟩
theorem zt_1_3 (cn : Nat) (ini : Bool) (x : Int32) : z_fit cn ini 1 3 (.int x) = z_bo x := propext ⟨fun h => ⟨h.1, h.2.1⟩, fun h => ⟨h.1, h.2, fun h => absurd h (by decide +kernel)⟩⟩
theorem zt_2_0 (x : Nat) : z_fit 2 true 2 0 (.ref x) = True := eq_true ⟨rfl, rfl, fun _ => ⟨rfl, rfl⟩⟩
theorem zt_2_1 (cn : Nat) (ini : Bool) (x : Int32) : z_fit cn ini 2 1 (.int x) = True := eq_true ⟨rfl, rfl, fun h => absurd h (by decide +kernel)⟩
theorem zt_3_0 (x : Nat) : z_fit 3 true 3 0 (.ref x) = True := eq_true ⟨rfl, rfl, fun _ => ⟨rfl, rfl⟩⟩
theorem zt_3_1 (x : Nat) : z_fit 3 true 3 1 (.ref x) = True := eq_true ⟨rfl, rfl, fun _ => ⟨rfl, rfl⟩⟩
theorem zt_3_2 (x : Nat) : z_fit 3 true 3 2 (.ref x) = True := eq_true ⟨rfl, rfl, fun _ => ⟨rfl, rfl⟩⟩
theorem zt_3_3 (x : Nat) : z_fit 3 true 3 3 (.ref x) = True := eq_true ⟨rfl, rfl, fun _ => ⟨rfl, rfl⟩⟩
theorem zt_4_0 (x : Nat) : z_fit 4 true 4 0 (.ref x) = True := eq_true ⟨rfl, rfl, fun _ => ⟨rfl, rfl⟩⟩
theorem zt_5_0 (x : Nat) : z_fit 5 true 5 0 (.ref x) = True := eq_true ⟨rfl, rfl, fun _ => ⟨rfl, rfl⟩⟩
theorem zt_5_1 (x : Nat) : z_fit 5 true 5 1 (.ref x) = True := eq_true ⟨rfl, rfl, fun _ => ⟨rfl, rfl⟩⟩
theorem zt_5_2 (x : Nat) : z_fit 5 true 5 2 (.ref x) = True := eq_true ⟨rfl, rfl, fun _ => ⟨rfl, rfl⟩⟩
theorem zt_5_3 (x : Nat) : z_fit 5 true 5 3 (.ref x) = True := eq_true ⟨rfl, rfl, fun _ => ⟨rfl, rfl⟩⟩
theorem zt_5_4 (x : Nat) : z_fit 5 true 5 4 (.ref x) = True := eq_true ⟨rfl, rfl, fun _ => ⟨rfl, rfl⟩⟩
theorem zt_5_5 (x : Nat) : z_fit 5 true 5 5 (.ref x) = True := eq_true ⟨rfl, rfl, fun _ => ⟨rfl, rfl⟩⟩
theorem zt_5_6 (x : Nat) : z_fit 5 true 5 6 (.ref x) = True := eq_true ⟨rfl, rfl, fun _ => ⟨rfl, rfl⟩⟩
theorem zt_5_7 (x : Nat) : z_fit 5 true 5 7 (.ref x) = True := eq_true ⟨rfl, rfl, fun _ => ⟨rfl, rfl⟩⟩
theorem zt_5_8 (x : Nat) : z_fit 5 true 5 8 (.ref x) = True := eq_true ⟨rfl, rfl, fun _ => ⟨rfl, rfl⟩⟩
theorem zt_5_9 (x : Nat) : z_fit 5 true 5 9 (.ref x) = True := eq_true ⟨rfl, rfl, fun _ => ⟨rfl, rfl⟩⟩
theorem zt_5_10 (x : Nat) : z_fit 5 true 5 10 (.ref x) = True := eq_true ⟨rfl, rfl, fun _ => ⟨rfl, rfl⟩⟩
theorem zt_5_11 (x : Nat) : z_fit 5 true 5 11 (.ref x) = True := eq_true ⟨rfl, rfl, fun _ => ⟨rfl, rfl⟩⟩
theorem zt_5_12 (cn : Nat) (ini : Bool) (x : Int32) : z_fit cn ini 5 12 (.int x) = True := eq_true ⟨rfl, rfl, fun h => absurd h (by decide +kernel)⟩
theorem zt_5_13 (cn : Nat) (ini : Bool) (x : Int32) : z_fit cn ini 5 13 (.int x) = True := eq_true ⟨rfl, rfl, fun h => absurd h (by decide +kernel)⟩
theorem zt_6_0 (x : Nat) : z_fit 6 true 6 0 (.ref x) = True := eq_true ⟨rfl, rfl, fun _ => ⟨rfl, rfl⟩⟩
theorem zt_6_1 (x : Nat) : z_fit 6 true 6 1 (.ref x) = True := eq_true ⟨rfl, rfl, fun _ => ⟨rfl, rfl⟩⟩
theorem zt_6_2 (x : Nat) : z_fit 6 true 6 2 (.ref x) = True := eq_true ⟨rfl, rfl, fun _ => ⟨rfl, rfl⟩⟩
theorem zt_6_3 (x : Nat) : z_fit 6 true 6 3 (.ref x) = True := eq_true ⟨rfl, rfl, fun _ => ⟨rfl, rfl⟩⟩
theorem zt_6_4 (cn : Nat) (ini : Bool) (x : Int32) : z_fit cn ini 6 4 (.int x) = True := eq_true ⟨rfl, rfl, fun h => absurd h (by decide +kernel)⟩
theorem zt_6_5 (cn : Nat) (ini : Bool) (x : Int32) : z_fit cn ini 6 5 (.int x) = True := eq_true ⟨rfl, rfl, fun h => absurd h (by decide +kernel)⟩
theorem zt_6_6 (x : Nat) : z_fit 6 true 6 6 (.ref x) = True := eq_true ⟨rfl, rfl, fun _ => ⟨rfl, rfl⟩⟩
theorem zt_6_7 (x : Nat) : z_fit 6 true 6 7 (.ref x) = True := eq_true ⟨rfl, rfl, fun _ => ⟨rfl, rfl⟩⟩
theorem zt_6_8 (x : Nat) : z_fit 6 true 6 8 (.ref x) = True := eq_true ⟨rfl, rfl, fun _ => ⟨rfl, rfl⟩⟩
theorem zt_6_9 (x : Nat) : z_fit 6 true 6 9 (.ref x) = True := eq_true ⟨rfl, rfl, fun _ => ⟨rfl, rfl⟩⟩
theorem zt_6_10 (x : Nat) : z_fit 6 true 6 10 (.ref x) = True := eq_true ⟨rfl, rfl, fun _ => ⟨rfl, rfl⟩⟩
theorem zt_6_11 (x : Nat) : z_fit 6 true 6 11 (.ref x) = True := eq_true ⟨rfl, rfl, fun _ => ⟨rfl, rfl⟩⟩
theorem zt_6_12 (cn : Nat) (ini : Bool) (x : Int32) : z_fit cn ini 6 12 (.int x) = True := eq_true ⟨rfl, rfl, fun h => absurd h (by decide +kernel)⟩
theorem zt_6_13 (x : Nat) : z_fit 6 true 6 13 (.ref x) = True := eq_true ⟨rfl, rfl, fun _ => ⟨rfl, rfl⟩⟩
theorem zt_6_14 (x : Nat) : z_fit 6 true 6 14 (.ref x) = True := eq_true ⟨rfl, rfl, fun _ => ⟨rfl, rfl⟩⟩
theorem zt_6_15 (cn : Nat) (ini : Bool) (x : Int32) : z_fit cn ini 6 15 (.int x) = True := eq_true ⟨rfl, rfl, fun h => absurd h (by decide +kernel)⟩
theorem zt_6_16 (x : Nat) : z_fit 6 true 6 16 (.ref x) = True := eq_true ⟨rfl, rfl, fun _ => ⟨rfl, rfl⟩⟩
theorem zt_6_17 (cn : Nat) (ini : Bool) (x : Int32) : z_fit cn ini 6 17 (.int x) = True := eq_true ⟨rfl, rfl, fun h => absurd h (by decide +kernel)⟩
theorem zt_6_18 (x : Nat) : z_fit 6 true 6 18 (.ref x) = True := eq_true ⟨rfl, rfl, fun _ => ⟨rfl, rfl⟩⟩
theorem zk_0 : (0 : Fin 4).val = 0 := rfl
theorem zk_1 : (1 : Fin 4).val = 1 := rfl
theorem zk_2 : (2 : Fin 4).val = 2 := rfl
theorem zk_3 : (3 : Fin 4).val = 3 := rfl
theorem zi_m1 : Int32.ofInt (-1) = (-1) := by decide
theorem zi_0 : Int32.ofInt (0) = (0) := by decide
theorem zi_1 : Int32.ofInt (1) = (1) := by decide
theorem zi_2 : Int32.ofInt (2) = (2) := by decide
theorem zi_3 : Int32.ofInt (3) = (3) := by decide
theorem zi_4 : Int32.ofInt (4) = (4) := by decide
theorem zi_5 : Int32.ofInt (5) = (5) := by decide
theorem zb_m7 : (Int8.ofInt (-7)).toInt32 = (-7) := by decide
theorem zb_m6 : (Int8.ofInt (-6)).toInt32 = (-6) := by decide
theorem zb_m4 : (Int8.ofInt (-4)).toInt32 = (-4) := by decide
theorem zb_m3 : (Int8.ofInt (-3)).toInt32 = (-3) := by decide
theorem zb_m2 : (Int8.ofInt (-2)).toInt32 = (-2) := by decide
theorem zb_7 : (Int8.ofInt (7)).toInt32 = (7) := by decide
theorem zb_8 : (Int8.ofInt (8)).toInt32 = (8) := by decide
theorem zb_9 : (Int8.ofInt (9)).toInt32 = (9) := by decide
theorem zb_10 : (Int8.ofInt (10)).toInt32 = (10) := by decide
theorem zb_15 : (Int8.ofInt (15)).toInt32 = (15) := by decide
theorem zb_16 : (Int8.ofInt (16)).toInt32 = (16) := by decide
theorem zb_17 : (Int8.ofInt (17)).toInt32 = (17) := by decide
theorem zb_31 : (Int8.ofInt (31)).toInt32 = (31) := by decide
theorem zb_33 : (Int8.ofInt (33)).toInt32 = (33) := by decide
theorem zb_40 : (Int8.ofInt (40)).toInt32 = (40) := by decide
theorem zb_41 : (Int8.ofInt (41)).toInt32 = (41) := by decide
theorem zb_48 : (Int8.ofInt (48)).toInt32 = (48) := by decide
theorem zb_49 : (Int8.ofInt (49)).toInt32 = (49) := by decide
theorem zb_50 : (Int8.ofInt (50)).toInt32 = (50) := by decide
theorem zb_51 : (Int8.ofInt (51)).toInt32 = (51) := by decide
theorem zb_57 : (Int8.ofInt (57)).toInt32 = (57) := by decide
theorem zb_60 : (Int8.ofInt (60)).toInt32 = (60) := by decide
theorem zb_67 : (Int8.ofInt (67)).toInt32 = (67) := by decide
theorem zb_68 : (Int8.ofInt (68)).toInt32 = (68) := by decide
theorem zb_80 : (Int8.ofInt (80)).toInt32 = (80) := by decide
theorem zb_84 : (Int8.ofInt (84)).toInt32 = (84) := by decide
theorem zb_85 : (Int8.ofInt (85)).toInt32 = (85) := by decide
theorem zb_120 : (Int8.ofInt (120)).toInt32 = (120) := by decide
theorem zb_126 : (Int8.ofInt (126)).toInt32 = (126) := by decide
theorem zs_240 : (Int16.ofInt (240)).toInt32 = (240) := by decide
theorem zs_244 : (Int16.ofInt (244)).toInt32 = (244) := by decide
theorem zs_255 : (Int16.ofInt (255)).toInt32 = (255) := by decide
theorem zs_488 : (Int16.ofInt (488)).toInt32 = (488) := by decide
theorem zs_1023 : (Int16.ofInt (1023)).toInt32 = (1023) := by decide
end
section
abbrev kX0_init (l : Launch) (E : zE) (d : Nat) (as : List Value) (M : zH) (z mc ms : Nat) (post : Option Value → zH → Nat → Prop) : Prop := z_Ct l E d yX0_init cX0_init 1 none as M z mc ms post
abbrev nX0_init (l : Launch) (E : zE) (d : Nat) (as : List Value) (M : zH) (post : Option Value → zH → Prop) : Prop := z_Cn l E d yX0_init cX0_init 1 none as M post
abbrev kX0_layAsAtFirst (l : Launch) (E : zE) (d : Nat) (as : List Value) (M : zH) (z mc ms : Nat) (post : Option Value → zH → Nat → Prop) : Prop := z_Ct l E d yX0_layAsAtFirst cX0_layAsAtFirst 2 none as M z mc ms post
abbrev nX0_layAsAtFirst (l : Launch) (E : zE) (d : Nat) (as : List Value) (M : zH) (post : Option Value → zH → Prop) : Prop := z_Cn l E d yX0_layAsAtFirst cX0_layAsAtFirst 2 none as M post
abbrev kX2_size (l : Launch) (E : zE) (d : Nat) (as : List Value) (M : zH) (z mc ms : Nat) (post : Option Value → zH → Nat → Prop) : Prop := z_Ct l E d yX2_size cX2_size 1 (some .int) as M z mc ms post
abbrev nX2_size (l : Launch) (E : zE) (d : Nat) (as : List Value) (M : zH) (post : Option Value → zH → Prop) : Prop := z_Cn l E d yX2_size cX2_size 1 (some .int) as M post
abbrev kX2_get (l : Launch) (E : zE) (d : Nat) (as : List Value) (M : zH) (z mc ms : Nat) (post : Option Value → zH → Nat → Prop) : Prop := z_Ct l E d yX2_get cX2_get 2 (some .int) as M z mc ms post
abbrev nX2_get (l : Launch) (E : zE) (d : Nat) (as : List Value) (M : zH) (post : Option Value → zH → Prop) : Prop := z_Cn l E d yX2_get cX2_get 2 (some .int) as M post
abbrev kX5_placeOf (l : Launch) (E : zE) (d : Nat) (as : List Value) (M : zH) (z mc ms : Nat) (post : Option Value → zH → Nat → Prop) : Prop := z_Ct l E d yX5_placeOf cX5_placeOf 1 (some .int) as M z mc ms post
abbrev nX5_placeOf (l : Launch) (E : zE) (d : Nat) (as : List Value) (M : zH) (post : Option Value → zH → Prop) : Prop := z_Cn l E d yX5_placeOf cX5_placeOf 1 (some .int) as M post
abbrev kX0_swap (l : Launch) (E : zE) (d : Nat) (as : List Value) (M : zH) (z mc ms : Nat) (post : Option Value → zH → Nat → Prop) : Prop := z_Ct l E d yX0_swap cX0_swap 4 none as M z mc ms post
abbrev nX0_swap (l : Launch) (E : zE) (d : Nat) (as : List Value) (M : zH) (post : Option Value → zH → Prop) : Prop := z_Cn l E d yX0_swap cX0_swap 4 none as M post
abbrev kX0_layBehind (l : Launch) (E : zE) (d : Nat) (as : List Value) (M : zH) (z mc ms : Nat) (post : Option Value → zH → Nat → Prop) : Prop := z_Ct l E d yX0_layBehind cX0_layBehind 3 none as M z mc ms post
abbrev nX0_layBehind (l : Launch) (E : zE) (d : Nat) (as : List Value) (M : zH) (post : Option Value → zH → Prop) : Prop := z_Cn l E d yX0_layBehind cX0_layBehind 3 none as M post
abbrev kX0_bobbinAt (l : Launch) (E : zE) (d : Nat) (as : List Value) (M : zH) (z mc ms : Nat) (post : Option Value → zH → Nat → Prop) : Prop := z_Ct l E d yX0_bobbinAt cX0_bobbinAt 2 (some .int) as M z mc ms post
abbrev nX0_bobbinAt (l : Launch) (E : zE) (d : Nat) (as : List Value) (M : zH) (post : Option Value → zH → Prop) : Prop := z_Cn l E d yX0_bobbinAt cX0_bobbinAt 2 (some .int) as M post
abbrev kX5_isRightOver (l : Launch) (E : zE) (d : Nat) (as : List Value) (M : zH) (z mc ms : Nat) (post : Option Value → zH → Nat → Prop) : Prop := z_Ct l E d yX5_isRightOver cX5_isRightOver 1 (some .boolean) as M z mc ms post
abbrev nX5_isRightOver (l : Launch) (E : zE) (d : Nat) (as : List Value) (M : zH) (post : Option Value → zH → Prop) : Prop := z_Cn l E d yX5_isRightOver cX5_isRightOver 1 (some .boolean) as M post
abbrev kX0_upper (l : Launch) (E : zE) (d : Nat) (as : List Value) (M : zH) (z mc ms : Nat) (post : Option Value → zH → Nat → Prop) : Prop := z_Ct l E d yX0_upper cX0_upper 2 (some .int) as M z mc ms post
abbrev nX0_upper (l : Launch) (E : zE) (d : Nat) (as : List Value) (M : zH) (post : Option Value → zH → Prop) : Prop := z_Cn l E d yX0_upper cX0_upper 2 (some .int) as M post
abbrev kX0_lower (l : Launch) (E : zE) (d : Nat) (as : List Value) (M : zH) (z mc ms : Nat) (post : Option Value → zH → Nat → Prop) : Prop := z_Ct l E d yX0_lower cX0_lower 2 (some .int) as M z mc ms post
abbrev nX0_lower (l : Launch) (E : zE) (d : Nat) (as : List Value) (M : zH) (post : Option Value → zH → Prop) : Prop := z_Cn l E d yX0_lower cX0_lower 2 (some .int) as M post
abbrev kX0_lyingAsAtFirst (l : Launch) (E : zE) (d : Nat) (as : List Value) (M : zH) (z mc ms : Nat) (post : Option Value → zH → Nat → Prop) : Prop := z_Ct l E d yX0_lyingAsAtFirst cX0_lyingAsAtFirst 3 (some .int) as M z mc ms post
abbrev nX0_lyingAsAtFirst (l : Launch) (E : zE) (d : Nat) (as : List Value) (M : zH) (post : Option Value → zH → Prop) : Prop := z_Cn l E d yX0_lyingAsAtFirst cX0_lyingAsAtFirst 3 (some .int) as M post
abbrev kX0_turnOnce (l : Launch) (E : zE) (d : Nat) (as : List Value) (M : zH) (z mc ms : Nat) (post : Option Value → zH → Nat → Prop) : Prop := z_Ct l E d yX0_turnOnce cX0_turnOnce 3 (some .boolean) as M z mc ms post
abbrev nX0_turnOnce (l : Launch) (E : zE) (d : Nat) (as : List Value) (M : zH) (post : Option Value → zH → Prop) : Prop := z_Cn l E d yX0_turnOnce cX0_turnOnce 3 (some .boolean) as M post
abbrev kX0_turnsTillAsAtFirst (l : Launch) (E : zE) (d : Nat) (as : List Value) (M : zH) (z mc ms : Nat) (post : Option Value → zH → Nat → Prop) : Prop := z_Ct l E d yX0_turnsTillAsAtFirst cX0_turnsTillAsAtFirst 2 (some .int) as M z mc ms post
abbrev nX0_turnsTillAsAtFirst (l : Launch) (E : zE) (d : Nat) (as : List Value) (M : zH) (post : Option Value → zH → Prop) : Prop := z_Cn l E d yX0_turnsTillAsAtFirst cX0_turnsTillAsAtFirst 2 (some .int) as M post
abbrev kX1_init (l : Launch) (E : zE) (d : Nat) (as : List Value) (M : zH) (z mc ms : Nat) (post : Option Value → zH → Nat → Prop) : Prop := z_Ct l E d yX1_init cX1_init 3 none as M z mc ms post
abbrev nX1_init (l : Launch) (E : zE) (d : Nat) (as : List Value) (M : zH) (post : Option Value → zH → Prop) : Prop := z_Cn l E d yX1_init cX1_init 3 none as M post
abbrev kX1_isSpot (l : Launch) (E : zE) (d : Nat) (as : List Value) (M : zH) (z mc ms : Nat) (post : Option Value → zH → Nat → Prop) : Prop := z_Ct l E d yX1_isSpot cX1_isSpot 1 (some .boolean) as M z mc ms post
abbrev nX1_isSpot (l : Launch) (E : zE) (d : Nat) (as : List Value) (M : zH) (post : Option Value → zH → Prop) : Prop := z_Cn l E d yX1_isSpot cX1_isSpot 1 (some .boolean) as M post
abbrev kJ0_isLatin1_aae02 (l : Launch) (E : zE) (d : Nat) (as : List Value) (M : zH) (z mc ms : Nat) (post : Option Value → zH → Nat → Prop) : Prop := z_Ct l E d yJ0_isLatin1_aae02 cJ0_isLatin1_aae02 1 (some .boolean) as M z mc ms post
abbrev nJ0_isLatin1_aae02 (l : Launch) (E : zE) (d : Nat) (as : List Value) (M : zH) (post : Option Value → zH → Prop) : Prop := z_Cn l E d yJ0_isLatin1_aae02 cJ0_isLatin1_aae02 1 (some .boolean) as M post
abbrev kJ0_coder_7d493 (l : Launch) (E : zE) (d : Nat) (as : List Value) (M : zH) (z mc ms : Nat) (post : Option Value → zH → Nat → Prop) : Prop := z_Ct l E d yJ0_coder_7d493 cJ0_coder_7d493 1 (some .byte) as M z mc ms post
abbrev nJ0_coder_7d493 (l : Launch) (E : zE) (d : Nat) (as : List Value) (M : zH) (post : Option Value → zH → Prop) : Prop := z_Cn l E d yJ0_coder_7d493 cJ0_coder_7d493 1 (some .byte) as M post
abbrev kJ0_length_8abf5 (l : Launch) (E : zE) (d : Nat) (as : List Value) (M : zH) (z mc ms : Nat) (post : Option Value → zH → Nat → Prop) : Prop := z_Ct l E d yJ0_length_8abf5 cJ0_length_8abf5 1 (some .int) as M z mc ms post
abbrev nJ0_length_8abf5 (l : Launch) (E : zE) (d : Nat) (as : List Value) (M : zH) (post : Option Value → zH → Prop) : Prop := z_Cn l E d yJ0_length_8abf5 cJ0_length_8abf5 1 (some .int) as M post
abbrev kJ1_canEncode_9a6ad (l : Launch) (E : zE) (d : Nat) (as : List Value) (M : zH) (z mc ms : Nat) (post : Option Value → zH → Nat → Prop) : Prop := z_Ct l E d yJ1_canEncode_9a6ad cJ1_canEncode_9a6ad 1 (some .boolean) as M z mc ms post
abbrev nJ1_canEncode_9a6ad (l : Launch) (E : zE) (d : Nat) (as : List Value) (M : zH) (post : Option Value → zH → Prop) : Prop := z_Cn l E d yJ1_canEncode_9a6ad cJ1_canEncode_9a6ad 1 (some .boolean) as M post
abbrev kJ1_indexOfChar_4cfef (l : Launch) (E : zE) (d : Nat) (as : List Value) (M : zH) (z mc ms : Nat) (post : Option Value → zH → Nat → Prop) : Prop := z_Ct l E d yJ1_indexOfChar_4cfef cJ1_indexOfChar_4cfef 6 (some .int) as M z mc ms post
abbrev nJ1_indexOfChar_4cfef (l : Launch) (E : zE) (d : Nat) (as : List Value) (M : zH) (post : Option Value → zH → Prop) : Prop := z_Cn l E d yJ1_indexOfChar_4cfef cJ1_indexOfChar_4cfef 6 (some .int) as M post
abbrev kJ1_indexOf_4cfef (l : Launch) (E : zE) (d : Nat) (as : List Value) (M : zH) (z mc ms : Nat) (post : Option Value → zH → Nat → Prop) : Prop := z_Ct l E d yJ1_indexOf_4cfef cJ1_indexOf_4cfef 4 (some .int) as M z mc ms post
abbrev nJ1_indexOf_4cfef (l : Launch) (E : zE) (d : Nat) (as : List Value) (M : zH) (post : Option Value → zH → Prop) : Prop := z_Cn l E d yJ1_indexOf_4cfef cJ1_indexOf_4cfef 4 (some .int) as M post
abbrev kJ2_length_9d52b (l : Launch) (E : zE) (d : Nat) (as : List Value) (M : zH) (z mc ms : Nat) (post : Option Value → zH → Nat → Prop) : Prop := z_Ct l E d yJ2_length_9d52b cJ2_length_9d52b 1 (some .int) as M z mc ms post
abbrev nJ2_length_9d52b (l : Launch) (E : zE) (d : Nat) (as : List Value) (M : zH) (post : Option Value → zH → Prop) : Prop := z_Cn l E d yJ2_length_9d52b cJ2_length_9d52b 1 (some .int) as M post
abbrev kJ3_checkFromToIndex_8c36e (l : Launch) (E : zE) (d : Nat) (as : List Value) (M : zH) (z mc ms : Nat) (post : Option Value → zH → Nat → Prop) : Prop := z_Ct l E d yJ3_checkFromToIndex_8c36e cJ3_checkFromToIndex_8c36e 4 (some .int) as M z mc ms post
abbrev nJ3_checkFromToIndex_8c36e (l : Launch) (E : zE) (d : Nat) (as : List Value) (M : zH) (post : Option Value → zH → Prop) : Prop := z_Cn l E d yJ3_checkFromToIndex_8c36e cJ3_checkFromToIndex_8c36e 4 (some .int) as M post
abbrev kJ0_checkBoundsBeginEnd_23922 (l : Launch) (E : zE) (d : Nat) (as : List Value) (M : zH) (z mc ms : Nat) (post : Option Value → zH → Nat → Prop) : Prop := z_Ct l E d yJ0_checkBoundsBeginEnd_23922 cJ0_checkBoundsBeginEnd_23922 3 none as M z mc ms post
abbrev nJ0_checkBoundsBeginEnd_23922 (l : Launch) (E : zE) (d : Nat) (as : List Value) (M : zH) (post : Option Value → zH → Prop) : Prop := z_Cn l E d yJ0_checkBoundsBeginEnd_23922 cJ0_checkBoundsBeginEnd_23922 3 none as M post
abbrev kJ2_checkBoundsBeginEnd_d044e (l : Launch) (E : zE) (d : Nat) (as : List Value) (M : zH) (z mc ms : Nat) (post : Option Value → zH → Nat → Prop) : Prop := z_Ct l E d yJ2_checkBoundsBeginEnd_d044e cJ2_checkBoundsBeginEnd_d044e 3 none as M z mc ms post
abbrev nJ2_checkBoundsBeginEnd_d044e (l : Launch) (E : zE) (d : Nat) (as : List Value) (M : zH) (post : Option Value → zH → Prop) : Prop := z_Cn l E d yJ2_checkBoundsBeginEnd_d044e cJ2_checkBoundsBeginEnd_d044e 3 none as M post
abbrev kJ2_getChar_3b067 (l : Launch) (E : zE) (d : Nat) (as : List Value) (M : zH) (z mc ms : Nat) (post : Option Value → zH → Nat → Prop) : Prop := z_Ct l E d yJ2_getChar_3b067 cJ2_getChar_3b067 2 (some .char) as M z mc ms post
abbrev nJ2_getChar_3b067 (l : Launch) (E : zE) (d : Nat) (as : List Value) (M : zH) (post : Option Value → zH → Prop) : Prop := z_Cn l E d yJ2_getChar_3b067 cJ2_getChar_3b067 2 (some .char) as M post
abbrev kJ2_indexOfCharUnsafe_4cfef (l : Launch) (E : zE) (d : Nat) (as : List Value) (M : zH) (z mc ms : Nat) (post : Option Value → zH → Nat → Prop) : Prop := z_Ct l E d yJ2_indexOfCharUnsafe_4cfef cJ2_indexOfCharUnsafe_4cfef 5 (some .int) as M z mc ms post
abbrev nJ2_indexOfCharUnsafe_4cfef (l : Launch) (E : zE) (d : Nat) (as : List Value) (M : zH) (post : Option Value → zH → Prop) : Prop := z_Cn l E d yJ2_indexOfCharUnsafe_4cfef cJ2_indexOfCharUnsafe_4cfef 5 (some .int) as M post
abbrev kJ2_indexOfChar_4cfef (l : Launch) (E : zE) (d : Nat) (as : List Value) (M : zH) (z mc ms : Nat) (post : Option Value → zH → Nat → Prop) : Prop := z_Ct l E d yJ2_indexOfChar_4cfef cJ2_indexOfChar_4cfef 4 (some .int) as M z mc ms post
abbrev nJ2_indexOfChar_4cfef (l : Launch) (E : zE) (d : Nat) (as : List Value) (M : zH) (post : Option Value → zH → Prop) : Prop := z_Cn l E d yJ2_indexOfChar_4cfef cJ2_indexOfChar_4cfef 4 (some .int) as M post
abbrev kJ11_isValidCodePoint_9a6ad (l : Launch) (E : zE) (d : Nat) (as : List Value) (M : zH) (z mc ms : Nat) (post : Option Value → zH → Nat → Prop) : Prop := z_Ct l E d yJ11_isValidCodePoint_9a6ad cJ11_isValidCodePoint_9a6ad 2 (some .boolean) as M z mc ms post
abbrev nJ11_isValidCodePoint_9a6ad (l : Launch) (E : zE) (d : Nat) (as : List Value) (M : zH) (post : Option Value → zH → Prop) : Prop := z_Cn l E d yJ11_isValidCodePoint_9a6ad cJ11_isValidCodePoint_9a6ad 2 (some .boolean) as M post
abbrev kJ11_highSurrogate_5068e (l : Launch) (E : zE) (d : Nat) (as : List Value) (M : zH) (z mc ms : Nat) (post : Option Value → zH → Nat → Prop) : Prop := z_Ct l E d yJ11_highSurrogate_5068e cJ11_highSurrogate_5068e 1 (some .char) as M z mc ms post
abbrev nJ11_highSurrogate_5068e (l : Launch) (E : zE) (d : Nat) (as : List Value) (M : zH) (post : Option Value → zH → Prop) : Prop := z_Cn l E d yJ11_highSurrogate_5068e cJ11_highSurrogate_5068e 1 (some .char) as M post
abbrev kJ11_lowSurrogate_5068e (l : Launch) (E : zE) (d : Nat) (as : List Value) (M : zH) (z mc ms : Nat) (post : Option Value → zH → Nat → Prop) : Prop := z_Ct l E d yJ11_lowSurrogate_5068e cJ11_lowSurrogate_5068e 1 (some .char) as M z mc ms post
abbrev nJ11_lowSurrogate_5068e (l : Launch) (E : zE) (d : Nat) (as : List Value) (M : zH) (post : Option Value → zH → Prop) : Prop := z_Cn l E d yJ11_lowSurrogate_5068e cJ11_lowSurrogate_5068e 1 (some .char) as M post
abbrev kJ2_indexOfSupplementary_4cfef (l : Launch) (E : zE) (d : Nat) (as : List Value) (M : zH) (z mc ms : Nat) (post : Option Value → zH → Nat → Prop) : Prop := z_Ct l E d yJ2_indexOfSupplementary_4cfef cJ2_indexOfSupplementary_4cfef 7 (some .int) as M z mc ms post
abbrev nJ2_indexOfSupplementary_4cfef (l : Launch) (E : zE) (d : Nat) (as : List Value) (M : zH) (post : Option Value → zH → Prop) : Prop := z_Cn l E d yJ2_indexOfSupplementary_4cfef cJ2_indexOfSupplementary_4cfef 7 (some .int) as M post
abbrev kJ2_indexOf_4cfef (l : Launch) (E : zE) (d : Nat) (as : List Value) (M : zH) (z mc ms : Nat) (post : Option Value → zH → Nat → Prop) : Prop := z_Ct l E d yJ2_indexOf_4cfef cJ2_indexOf_4cfef 4 (some .int) as M z mc ms post
abbrev nJ2_indexOf_4cfef (l : Launch) (E : zE) (d : Nat) (as : List Value) (M : zH) (post : Option Value → zH → Prop) : Prop := z_Cn l E d yJ2_indexOf_4cfef cJ2_indexOf_4cfef 4 (some .int) as M post
abbrev kJ0_indexOf_7cf53 (l : Launch) (E : zE) (d : Nat) (as : List Value) (M : zH) (z mc ms : Nat) (post : Option Value → zH → Nat → Prop) : Prop := z_Ct l E d yJ0_indexOf_7cf53 cJ0_indexOf_7cf53 3 (some .int) as M z mc ms post
abbrev nJ0_indexOf_7cf53 (l : Launch) (E : zE) (d : Nat) (as : List Value) (M : zH) (post : Option Value → zH → Prop) : Prop := z_Cn l E d yJ0_indexOf_7cf53 cJ0_indexOf_7cf53 3 (some .int) as M post
abbrev kJ0_indexOf_0f7a4 (l : Launch) (E : zE) (d : Nat) (as : List Value) (M : zH) (z mc ms : Nat) (post : Option Value → zH → Nat → Prop) : Prop := z_Ct l E d yJ0_indexOf_0f7a4 cJ0_indexOf_0f7a4 2 (some .int) as M z mc ms post
abbrev nJ0_indexOf_0f7a4 (l : Launch) (E : zE) (d : Nat) (as : List Value) (M : zH) (post : Option Value → zH → Prop) : Prop := z_Cn l E d yJ0_indexOf_0f7a4 cJ0_indexOf_0f7a4 2 (some .int) as M post
abbrev kX1_canStand (l : Launch) (E : zE) (d : Nat) (as : List Value) (M : zH) (z mc ms : Nat) (post : Option Value → zH → Nat → Prop) : Prop := z_Ct l E d yX1_canStand cX1_canStand 3 (some .boolean) as M z mc ms post
abbrev nX1_canStand (l : Launch) (E : zE) (d : Nat) (as : List Value) (M : zH) (post : Option Value → zH → Prop) : Prop := z_Cn l E d yX1_canStand cX1_canStand 3 (some .boolean) as M post
abbrev kX1_faultPlace (l : Launch) (E : zE) (d : Nat) (as : List Value) (M : zH) (z mc ms : Nat) (post : Option Value → zH → Nat → Prop) : Prop := z_Ct l E d yX1_faultPlace cX1_faultPlace 5 (some .int) as M z mc ms post
abbrev nX1_faultPlace (l : Launch) (E : zE) (d : Nat) (as : List Value) (M : zH) (post : Option Value → zH → Prop) : Prop := z_Cn l E d yX1_faultPlace cX1_faultPlace 5 (some .int) as M post
abbrev kX2_clear (l : Launch) (E : zE) (d : Nat) (as : List Value) (M : zH) (z mc ms : Nat) (post : Option Value → zH → Nat → Prop) : Prop := z_Ct l E d yX2_clear cX2_clear 1 none as M z mc ms post
abbrev nX2_clear (l : Launch) (E : zE) (d : Nat) (as : List Value) (M : zH) (post : Option Value → zH → Prop) : Prop := z_Cn l E d yX2_clear cX2_clear 1 none as M post
abbrev kX5_stepOf (l : Launch) (E : zE) (d : Nat) (as : List Value) (M : zH) (z mc ms : Nat) (post : Option Value → zH → Nat → Prop) : Prop := z_Ct l E d yX5_stepOf cX5_stepOf 2 (some .int) as M z mc ms post
abbrev nX5_stepOf (l : Launch) (E : zE) (d : Nat) (as : List Value) (M : zH) (post : Option Value → zH → Prop) : Prop := z_Cn l E d yX5_stepOf cX5_stepOf 2 (some .int) as M post
abbrev kX2_add (l : Launch) (E : zE) (d : Nat) (as : List Value) (M : zH) (z mc ms : Nat) (post : Option Value → zH → Nat → Prop) : Prop := z_Ct l E d yX2_add cX2_add 2 (some .boolean) as M z mc ms post
abbrev nX2_add (l : Launch) (E : zE) (d : Nat) (as : List Value) (M : zH) (post : Option Value → zH → Prop) : Prop := z_Cn l E d yX2_add cX2_add 2 (some .boolean) as M post
abbrev kX1_readSign (l : Launch) (E : zE) (d : Nat) (as : List Value) (M : zH) (z mc ms : Nat) (post : Option Value → zH → Nat → Prop) : Prop := z_Ct l E d yX1_readSign cX1_readSign 2 none as M z mc ms post
abbrev nX1_readSign (l : Launch) (E : zE) (d : Nat) (as : List Value) (M : zH) (post : Option Value → zH → Prop) : Prop := z_Cn l E d yX1_readSign cX1_readSign 2 none as M post
abbrev kX1_readPart (l : Launch) (E : zE) (d : Nat) (as : List Value) (M : zH) (z mc ms : Nat) (post : Option Value → zH → Nat → Prop) : Prop := z_Ct l E d yX1_readPart cX1_readPart 7 (some .int) as M z mc ms post
abbrev nX1_readPart (l : Launch) (E : zE) (d : Nat) (as : List Value) (M : zH) (post : Option Value → zH → Prop) : Prop := z_Cn l E d yX1_readPart cX1_readPart 7 (some .int) as M post
abbrev kX1_readText (l : Launch) (E : zE) (d : Nat) (as : List Value) (M : zH) (z mc ms : Nat) (post : Option Value → zH → Nat → Prop) : Prop := z_Ct l E d yX1_readText cX1_readText 4 (some .int) as M z mc ms post
abbrev nX1_readText (l : Launch) (E : zE) (d : Nat) (as : List Value) (M : zH) (post : Option Value → zH → Prop) : Prop := z_Cn l E d yX1_readText cX1_readText 4 (some .int) as M post
abbrev kX1_readSteps (l : Launch) (E : zE) (d : Nat) (as : List Value) (M : zH) (z mc ms : Nat) (post : Option Value → zH → Nat → Prop) : Prop := z_Ct l E d yX1_readSteps cX1_readSteps 1 (some .boolean) as M z mc ms post
abbrev nX1_readSteps (l : Launch) (E : zE) (d : Nat) (as : List Value) (M : zH) (post : Option Value → zH → Prop) : Prop := z_Cn l E d yX1_readSteps cX1_readSteps 1 (some .boolean) as M post
abbrev kX2_init (l : Launch) (E : zE) (d : Nat) (as : List Value) (M : zH) (z mc ms : Nat) (post : Option Value → zH → Nat → Prop) : Prop := z_Ct l E d yX2_init cX2_init 2 none as M z mc ms post
abbrev nX2_init (l : Launch) (E : zE) (d : Nat) (as : List Value) (M : zH) (post : Option Value → zH → Prop) : Prop := z_Cn l E d yX2_init cX2_init 2 none as M post
abbrev kX2_addAll (l : Launch) (E : zE) (d : Nat) (as : List Value) (M : zH) (z mc ms : Nat) (post : Option Value → zH → Nat → Prop) : Prop := z_Ct l E d yX2_addAll cX2_addAll 4 none as M z mc ms post
abbrev nX2_addAll (l : Launch) (E : zE) (d : Nat) (as : List Value) (M : zH) (post : Option Value → zH → Prop) : Prop := z_Cn l E d yX2_addAll cX2_addAll 4 none as M post
abbrev kX2_become (l : Launch) (E : zE) (d : Nat) (as : List Value) (M : zH) (z mc ms : Nat) (post : Option Value → zH → Nat → Prop) : Prop := z_Ct l E d yX2_become cX2_become 2 none as M z mc ms post
abbrev nX2_become (l : Launch) (E : zE) (d : Nat) (as : List Value) (M : zH) (post : Option Value → zH → Prop) : Prop := z_Cn l E d yX2_become cX2_become 2 none as M post
abbrev kX2_isLike (l : Launch) (E : zE) (d : Nat) (as : List Value) (M : zH) (z mc ms : Nat) (post : Option Value → zH → Nat → Prop) : Prop := z_Ct l E d yX2_isLike cX2_isLike 3 (some .boolean) as M z mc ms post
abbrev nX2_isLike (l : Launch) (E : zE) (d : Nat) (as : List Value) (M : zH) (post : Option Value → zH → Prop) : Prop := z_Cn l E d yX2_isLike cX2_isLike 3 (some .boolean) as M post
abbrev kX2_comesAgainAfter (l : Launch) (E : zE) (d : Nat) (as : List Value) (M : zH) (z mc ms : Nat) (post : Option Value → zH → Nat → Prop) : Prop := z_Ct l E d yX2_comesAgainAfter cX2_comesAgainAfter 3 (some .boolean) as M z mc ms post
abbrev nX2_comesAgainAfter (l : Launch) (E : zE) (d : Nat) (as : List Value) (M : zH) (post : Option Value → zH → Prop) : Prop := z_Cn l E d yX2_comesAgainAfter cX2_comesAgainAfter 3 (some .boolean) as M post
abbrev kX3_init (l : Launch) (E : zE) (d : Nat) (as : List Value) (M : zH) (z mc ms : Nat) (post : Option Value → zH → Nat → Prop) : Prop := z_Ct l E d yX3_init cX3_init 1 none as M z mc ms post
abbrev nX3_init (l : Launch) (E : zE) (d : Nat) (as : List Value) (M : zH) (post : Option Value → zH → Prop) : Prop := z_Cn l E d yX3_init cX3_init 1 none as M post
abbrev kJ7_fill_53178 (l : Launch) (E : zE) (d : Nat) (as : List Value) (M : zH) (z mc ms : Nat) (post : Option Value → zH → Nat → Prop) : Prop := z_Ct l E d yJ7_fill_53178 cJ7_fill_53178 4 none as M z mc ms post
abbrev nJ7_fill_53178 (l : Launch) (E : zE) (d : Nat) (as : List Value) (M : zH) (post : Option Value → zH → Prop) : Prop := z_Cn l E d yJ7_fill_53178 cJ7_fill_53178 4 none as M post
abbrev kX3_isFree (l : Launch) (E : zE) (d : Nat) (as : List Value) (M : zH) (z mc ms : Nat) (post : Option Value → zH → Nat → Prop) : Prop := z_Ct l E d yX3_isFree cX3_isFree 2 (some .boolean) as M z mc ms post
abbrev nX3_isFree (l : Launch) (E : zE) (d : Nat) (as : List Value) (M : zH) (post : Option Value → zH → Prop) : Prop := z_Cn l E d yX3_isFree cX3_isFree 2 (some .boolean) as M post
abbrev kX3_markWhatStays (l : Launch) (E : zE) (d : Nat) (as : List Value) (M : zH) (z mc ms : Nat) (post : Option Value → zH → Nat → Prop) : Prop := z_Ct l E d yX3_markWhatStays cX3_markWhatStays 6 none as M z mc ms post
abbrev nX3_markWhatStays (l : Launch) (E : zE) (d : Nat) (as : List Value) (M : zH) (post : Option Value → zH → Prop) : Prop := z_Cn l E d yX3_markWhatStays cX3_markWhatStays 6 none as M post
abbrev kX3_nextThatStays (l : Launch) (E : zE) (d : Nat) (as : List Value) (M : zH) (z mc ms : Nat) (post : Option Value → zH → Nat → Prop) : Prop := z_Ct l E d yX3_nextThatStays cX3_nextThatStays 6 (some .int) as M z mc ms post
abbrev nX3_nextThatStays (l : Launch) (E : zE) (d : Nat) (as : List Value) (M : zH) (post : Option Value → zH → Prop) : Prop := z_Cn l E d yX3_nextThatStays cX3_nextThatStays 6 (some .int) as M post
abbrev kX3_leastPlaceThatCanCome (l : Launch) (E : zE) (d : Nat) (as : List Value) (M : zH) (z mc ms : Nat) (post : Option Value → zH → Nat → Prop) : Prop := z_Ct l E d yX3_leastPlaceThatCanCome cX3_leastPlaceThatCanCome 3 (some .int) as M z mc ms post
abbrev nX3_leastPlaceThatCanCome (l : Launch) (E : zE) (d : Nat) (as : List Value) (M : zH) (post : Option Value → zH → Prop) : Prop := z_Cn l E d yX3_leastPlaceThatCanCome cX3_leastPlaceThatCanCome 3 (some .int) as M post
abbrev kX3_putLeastFirst (l : Launch) (E : zE) (d : Nat) (as : List Value) (M : zH) (z mc ms : Nat) (post : Option Value → zH → Nat → Prop) : Prop := z_Ct l E d yX3_putLeastFirst cX3_putLeastFirst 6 none as M z mc ms post
abbrev nX3_putLeastFirst (l : Launch) (E : zE) (d : Nat) (as : List Value) (M : zH) (post : Option Value → zH → Prop) : Prop := z_Cn l E d yX3_putLeastFirst cX3_putLeastFirst 6 none as M post
abbrev kX3_shortForm (l : Launch) (E : zE) (d : Nat) (as : List Value) (M : zH) (z mc ms : Nat) (post : Option Value → zH → Nat → Prop) : Prop := z_Ct l E d yX3_shortForm cX3_shortForm 3 none as M z mc ms post
abbrev nX3_shortForm (l : Launch) (E : zE) (d : Nat) (as : List Value) (M : zH) (post : Option Value → zH → Prop) : Prop := z_Cn l E d yX3_shortForm cX3_shortForm 3 none as M post
abbrev kX4_init (l : Launch) (E : zE) (d : Nat) (as : List Value) (M : zH) (z mc ms : Nat) (post : Option Value → zH → Nat → Prop) : Prop := z_Ct l E d yX4_init cX4_init 2 none as M z mc ms post
abbrev nX4_init (l : Launch) (E : zE) (d : Nat) (as : List Value) (M : zH) (post : Option Value → zH → Prop) : Prop := z_Cn l E d yX4_init cX4_init 2 none as M post
abbrev kX4_row (l : Launch) (E : zE) (d : Nat) (as : List Value) (M : zH) (z mc ms : Nat) (post : Option Value → zH → Nat → Prop) : Prop := z_Ct l E d yX4_row cX4_row 2 (some (.object "LaceWorks$Row")) as M z mc ms post
abbrev nX4_row (l : Launch) (E : zE) (d : Nat) (as : List Value) (M : zH) (post : Option Value → zH → Prop) : Prop := z_Cn l E d yX4_row cX4_row 2 (some (.object "LaceWorks$Row")) as M post
abbrev kX4_become (l : Launch) (E : zE) (d : Nat) (as : List Value) (M : zH) (z mc ms : Nat) (post : Option Value → zH → Nat → Prop) : Prop := z_Ct l E d yX4_become cX4_become 4 none as M z mc ms post
abbrev nX4_become (l : Launch) (E : zE) (d : Nat) (as : List Value) (M : zH) (post : Option Value → zH → Prop) : Prop := z_Cn l E d yX4_become cX4_become 4 none as M post
abbrev kX4_stepsInAll (l : Launch) (E : zE) (d : Nat) (as : List Value) (M : zH) (z mc ms : Nat) (post : Option Value → zH → Nat → Prop) : Prop := z_Ct l E d yX4_stepsInAll cX4_stepsInAll 3 (some .int) as M z mc ms post
abbrev nX4_stepsInAll (l : Launch) (E : zE) (d : Nat) (as : List Value) (M : zH) (post : Option Value → zH → Prop) : Prop := z_Cn l E d yX4_stepsInAll cX4_stepsInAll 3 (some .int) as M post
abbrev kX5_init (l : Launch) (E : zE) (d : Nat) (as : List Value) (M : zH) (z mc ms : Nat) (post : Option Value → zH → Nat → Prop) : Prop := z_Ct l E d yX5_init cX5_init 2 none as M z mc ms post
abbrev nX5_init (l : Launch) (E : zE) (d : Nat) (as : List Value) (M : zH) (post : Option Value → zH → Prop) : Prop := z_Cn l E d yX5_init cX5_init 2 none as M post
abbrev kX5_say (l : Launch) (E : zE) (d : Nat) (as : List Value) (M : zH) (z mc ms : Nat) (post : Option Value → zH → Nat → Prop) : Prop := z_Ct l E d yX5_say cX5_say 2 (some .int) as M z mc ms post
abbrev nX5_say (l : Launch) (E : zE) (d : Nat) (as : List Value) (M : zH) (post : Option Value → zH → Prop) : Prop := z_Cn l E d yX5_say cX5_say 2 (some .int) as M post
abbrev kX5_wipe (l : Launch) (E : zE) (d : Nat) (as : List Value) (M : zH) (z mc ms : Nat) (post : Option Value → zH → Nat → Prop) : Prop := z_Ct l E d yX5_wipe cX5_wipe 2 (some .int) as M z mc ms post
abbrev nX5_wipe (l : Launch) (E : zE) (d : Nat) (as : List Value) (M : zH) (post : Option Value → zH → Prop) : Prop := z_Cn l E d yX5_wipe cX5_wipe 2 (some .int) as M post
abbrev kX5_fault (l : Launch) (E : zE) (d : Nat) (as : List Value) (M : zH) (z mc ms : Nat) (post : Option Value → zH → Nat → Prop) : Prop := z_Ct l E d yX5_fault cX5_fault 1 (some .int) as M z mc ms post
abbrev nX5_fault (l : Launch) (E : zE) (d : Nat) (as : List Value) (M : zH) (post : Option Value → zH → Prop) : Prop := z_Cn l E d yX5_fault cX5_fault 1 (some .int) as M post
abbrev kX5_work (l : Launch) (E : zE) (d : Nat) (as : List Value) (M : zH) (z mc ms : Nat) (post : Option Value → zH → Nat → Prop) : Prop := z_Ct l E d yX5_work cX5_work 4 (some .int) as M z mc ms post
abbrev nX5_work (l : Launch) (E : zE) (d : Nat) (as : List Value) (M : zH) (post : Option Value → zH → Prop) : Prop := z_Cn l E d yX5_work cX5_work 4 (some .int) as M post
abbrev kX5_join (l : Launch) (E : zE) (d : Nat) (as : List Value) (M : zH) (z mc ms : Nat) (post : Option Value → zH → Nat → Prop) : Prop := z_Ct l E d yX5_join cX5_join 7 (some .int) as M z mc ms post
abbrev nX5_join (l : Launch) (E : zE) (d : Nat) (as : List Value) (M : zH) (post : Option Value → zH → Prop) : Prop := z_Cn l E d yX5_join cX5_join 7 (some .int) as M post
abbrev kX5_kindOf (l : Launch) (E : zE) (d : Nat) (as : List Value) (M : zH) (z mc ms : Nat) (post : Option Value → zH → Nat → Prop) : Prop := z_Ct l E d yX5_kindOf cX5_kindOf 1 (some .int) as M z mc ms post
abbrev nX5_kindOf (l : Launch) (E : zE) (d : Nat) (as : List Value) (M : zH) (post : Option Value → zH → Prop) : Prop := z_Cn l E d yX5_kindOf cX5_kindOf 1 (some .int) as M post
abbrev kX5_spotOf (l : Launch) (E : zE) (d : Nat) (as : List Value) (M : zH) (z mc ms : Nat) (post : Option Value → zH → Nat → Prop) : Prop := z_Ct l E d yX5_spotOf cX5_spotOf 1 (some .int) as M z mc ms post
abbrev nX5_spotOf (l : Launch) (E : zE) (d : Nat) (as : List Value) (M : zH) (post : Option Value → zH → Prop) : Prop := z_Cn l E d yX5_spotOf cX5_spotOf 1 (some .int) as M post
abbrev kX5_opposite (l : Launch) (E : zE) (d : Nat) (as : List Value) (M : zH) (z mc ms : Nat) (post : Option Value → zH → Nat → Prop) : Prop := z_Ct l E d yX5_opposite cX5_opposite 2 (some .int) as M z mc ms post
abbrev nX5_opposite (l : Launch) (E : zE) (d : Nat) (as : List Value) (M : zH) (post : Option Value → zH → Prop) : Prop := z_Cn l E d yX5_opposite cX5_opposite 2 (some .int) as M post
abbrev kX5_undone (l : Launch) (E : zE) (d : Nat) (as : List Value) (M : zH) (z mc ms : Nat) (post : Option Value → zH → Nat → Prop) : Prop := z_Ct l E d yX5_undone cX5_undone 6 (some .int) as M z mc ms post
abbrev nX5_undone (l : Launch) (E : zE) (d : Nat) (as : List Value) (M : zH) (post : Option Value → zH → Prop) : Prop := z_Cn l E d yX5_undone cX5_undone 6 (some .int) as M post
abbrev kX5_step (l : Launch) (E : zE) (d : Nat) (as : List Value) (M : zH) (z mc ms : Nat) (post : Option Value → zH → Nat → Prop) : Prop := z_Ct l E d yX5_step cX5_step 5 (some .int) as M z mc ms post
abbrev nX5_step (l : Launch) (E : zE) (d : Nat) (as : List Value) (M : zH) (post : Option Value → zH → Prop) : Prop := z_Cn l E d yX5_step cX5_step 5 (some .int) as M post
abbrev kJ3_checkIndex_8e157 (l : Launch) (E : zE) (d : Nat) (as : List Value) (M : zH) (z mc ms : Nat) (post : Option Value → zH → Nat → Prop) : Prop := z_Ct l E d yJ3_checkIndex_8e157 cJ3_checkIndex_8e157 3 (some .int) as M z mc ms post
abbrev nJ3_checkIndex_8e157 (l : Launch) (E : zE) (d : Nat) (as : List Value) (M : zH) (post : Option Value → zH → Prop) : Prop := z_Cn l E d yJ3_checkIndex_8e157 cJ3_checkIndex_8e157 3 (some .int) as M post
abbrev kJ0_checkIndex_df160 (l : Launch) (E : zE) (d : Nat) (as : List Value) (M : zH) (z mc ms : Nat) (post : Option Value → zH → Nat → Prop) : Prop := z_Ct l E d yJ0_checkIndex_df160 cJ0_checkIndex_df160 2 none as M z mc ms post
abbrev nJ0_checkIndex_df160 (l : Launch) (E : zE) (d : Nat) (as : List Value) (M : zH) (post : Option Value → zH → Prop) : Prop := z_Cn l E d yJ0_checkIndex_df160 cJ0_checkIndex_df160 2 none as M post
abbrev kJ1_charAt_3b067 (l : Launch) (E : zE) (d : Nat) (as : List Value) (M : zH) (z mc ms : Nat) (post : Option Value → zH → Nat → Prop) : Prop := z_Ct l E d yJ1_charAt_3b067 cJ1_charAt_3b067 2 (some .char) as M z mc ms post
abbrev nJ1_charAt_3b067 (l : Launch) (E : zE) (d : Nat) (as : List Value) (M : zH) (post : Option Value → zH → Prop) : Prop := z_Cn l E d yJ1_charAt_3b067 cJ1_charAt_3b067 2 (some .char) as M post
abbrev kJ2_checkIndex_2214a (l : Launch) (E : zE) (d : Nat) (as : List Value) (M : zH) (z mc ms : Nat) (post : Option Value → zH → Nat → Prop) : Prop := z_Ct l E d yJ2_checkIndex_2214a cJ2_checkIndex_2214a 2 none as M z mc ms post
abbrev nJ2_checkIndex_2214a (l : Launch) (E : zE) (d : Nat) (as : List Value) (M : zH) (post : Option Value → zH → Prop) : Prop := z_Cn l E d yJ2_checkIndex_2214a cJ2_checkIndex_2214a 2 none as M post
abbrev kJ2_charAt_3b067 (l : Launch) (E : zE) (d : Nat) (as : List Value) (M : zH) (z mc ms : Nat) (post : Option Value → zH → Nat → Prop) : Prop := z_Ct l E d yJ2_charAt_3b067 cJ2_charAt_3b067 2 (some .char) as M z mc ms post
abbrev nJ2_charAt_3b067 (l : Launch) (E : zE) (d : Nat) (as : List Value) (M : zH) (post : Option Value → zH → Prop) : Prop := z_Cn l E d yJ2_charAt_3b067 cJ2_charAt_3b067 2 (some .char) as M post
abbrev kJ0_charAt_5068e (l : Launch) (E : zE) (d : Nat) (as : List Value) (M : zH) (z mc ms : Nat) (post : Option Value → zH → Nat → Prop) : Prop := z_Ct l E d yJ0_charAt_5068e cJ0_charAt_5068e 2 (some .char) as M z mc ms post
abbrev nJ0_charAt_5068e (l : Launch) (E : zE) (d : Nat) (as : List Value) (M : zH) (post : Option Value → zH → Prop) : Prop := z_Cn l E d yJ0_charAt_5068e cJ0_charAt_5068e 2 (some .char) as M post
abbrev kX5_signOf (l : Launch) (E : zE) (d : Nat) (as : List Value) (M : zH) (z mc ms : Nat) (post : Option Value → zH → Nat → Prop) : Prop := z_Ct l E d yX5_signOf cX5_signOf 1 (some .int) as M z mc ms post
abbrev nX5_signOf (l : Launch) (E : zE) (d : Nat) (as : List Value) (M : zH) (post : Option Value → zH → Prop) : Prop := z_Cn l E d yX5_signOf cX5_signOf 1 (some .int) as M post
abbrev kX5_writeOut (l : Launch) (E : zE) (d : Nat) (as : List Value) (M : zH) (z mc ms : Nat) (post : Option Value → zH → Nat → Prop) : Prop := z_Ct l E d yX5_writeOut cX5_writeOut 5 none as M z mc ms post
abbrev nX5_writeOut (l : Launch) (E : zE) (d : Nat) (as : List Value) (M : zH) (post : Option Value → zH → Prop) : Prop := z_Cn l E d yX5_writeOut cX5_writeOut 5 none as M post
abbrev kX5_sizeOrItem (l : Launch) (E : zE) (d : Nat) (as : List Value) (M : zH) (z mc ms : Nat) (post : Option Value → zH → Nat → Prop) : Prop := z_Ct l E d yX5_sizeOrItem cX5_sizeOrItem 2 (some .int) as M z mc ms post
abbrev nX5_sizeOrItem (l : Launch) (E : zE) (d : Nat) (as : List Value) (M : zH) (post : Option Value → zH → Prop) : Prop := z_Cn l E d yX5_sizeOrItem cX5_sizeOrItem 2 (some .int) as M post
abbrev kX5_written (l : Launch) (E : zE) (d : Nat) (as : List Value) (M : zH) (z mc ms : Nat) (post : Option Value → zH → Nat → Prop) : Prop := z_Ct l E d yX5_written cX5_written 4 (some .int) as M z mc ms post
abbrev nX5_written (l : Launch) (E : zE) (d : Nat) (as : List Value) (M : zH) (post : Option Value → zH → Prop) : Prop := z_Cn l E d yX5_written cX5_written 4 (some .int) as M post
abbrev kX5_isPlace (l : Launch) (E : zE) (d : Nat) (as : List Value) (M : zH) (z mc ms : Nat) (post : Option Value → zH → Nat → Prop) : Prop := z_Ct l E d yX5_isPlace cX5_isPlace 1 (some .boolean) as M z mc ms post
abbrev nX5_isPlace (l : Launch) (E : zE) (d : Nat) (as : List Value) (M : zH) (post : Option Value → zH → Prop) : Prop := z_Cn l E d yX5_isPlace cX5_isPlace 1 (some .boolean) as M post
abbrev kX5_changesIn (l : Launch) (E : zE) (d : Nat) (as : List Value) (M : zH) (z mc ms : Nat) (post : Option Value → zH → Nat → Prop) : Prop := z_Ct l E d yX5_changesIn cX5_changesIn 2 (some .int) as M z mc ms post
abbrev nX5_changesIn (l : Launch) (E : zE) (d : Nat) (as : List Value) (M : zH) (post : Option Value → zH → Prop) : Prop := z_Cn l E d yX5_changesIn cX5_changesIn 2 (some .int) as M post
abbrev kX5_letterOf (l : Launch) (E : zE) (d : Nat) (as : List Value) (M : zH) (z mc ms : Nat) (post : Option Value → zH → Nat → Prop) : Prop := z_Ct l E d yX5_letterOf cX5_letterOf 5 (some .int) as M z mc ms post
abbrev nX5_letterOf (l : Launch) (E : zE) (d : Nat) (as : List Value) (M : zH) (post : Option Value → zH → Prop) : Prop := z_Cn l E d yX5_letterOf cX5_letterOf 5 (some .int) as M post
abbrev kX5_spell (l : Launch) (E : zE) (d : Nat) (as : List Value) (M : zH) (z mc ms : Nat) (post : Option Value → zH → Nat → Prop) : Prop := z_Ct l E d yX5_spell cX5_spell 6 none as M z mc ms post
abbrev nX5_spell (l : Launch) (E : zE) (d : Nat) (as : List Value) (M : zH) (post : Option Value → zH → Prop) : Prop := z_Cn l E d yX5_spell cX5_spell 6 none as M post
abbrev kX5_at (l : Launch) (E : zE) (d : Nat) (as : List Value) (M : zH) (z mc ms : Nat) (post : Option Value → zH → Nat → Prop) : Prop := z_Ct l E d yX5_at cX5_at 5 (some .int) as M z mc ms post
abbrev nX5_at (l : Launch) (E : zE) (d : Nat) (as : List Value) (M : zH) (post : Option Value → zH → Prop) : Prop := z_Cn l E d yX5_at cX5_at 5 (some .int) as M post
abbrev kX5_meetings (l : Launch) (E : zE) (d : Nat) (as : List Value) (M : zH) (z mc ms : Nat) (post : Option Value → zH → Nat → Prop) : Prop := z_Ct l E d yX5_meetings cX5_meetings 10 (some .int) as M z mc ms post
abbrev nX5_meetings (l : Launch) (E : zE) (d : Nat) (as : List Value) (M : zH) (post : Option Value → zH → Prop) : Prop := z_Cn l E d yX5_meetings cX5_meetings 10 (some .int) as M post
abbrev kX5_met (l : Launch) (E : zE) (d : Nat) (as : List Value) (M : zH) (z mc ms : Nat) (post : Option Value → zH → Nat → Prop) : Prop := z_Ct l E d yX5_met cX5_met 6 (some .int) as M z mc ms post
abbrev nX5_met (l : Launch) (E : zE) (d : Nat) (as : List Value) (M : zH) (post : Option Value → zH → Prop) : Prop := z_Cn l E d yX5_met cX5_met 6 (some .int) as M post
abbrev kX5_pinsIn (l : Launch) (E : zE) (d : Nat) (as : List Value) (M : zH) (z mc ms : Nat) (post : Option Value → zH → Nat → Prop) : Prop := z_Ct l E d yX5_pinsIn cX5_pinsIn 3 (some .int) as M z mc ms post
abbrev nX5_pinsIn (l : Launch) (E : zE) (d : Nat) (as : List Value) (M : zH) (post : Option Value → zH → Prop) : Prop := z_Cn l E d yX5_pinsIn cX5_pinsIn 3 (some .int) as M post
abbrev kX5_neverChanged (l : Launch) (E : zE) (d : Nat) (as : List Value) (M : zH) (z mc ms : Nat) (post : Option Value → zH → Nat → Prop) : Prop := z_Ct l E d yX5_neverChanged cX5_neverChanged 3 (some .int) as M z mc ms post
abbrev nX5_neverChanged (l : Launch) (E : zE) (d : Nat) (as : List Value) (M : zH) (post : Option Value → zH → Prop) : Prop := z_Cn l E d yX5_neverChanged cX5_neverChanged 3 (some .int) as M post
abbrev kX5_told (l : Launch) (E : zE) (d : Nat) (as : List Value) (M : zH) (z mc ms : Nat) (post : Option Value → zH → Nat → Prop) : Prop := z_Ct l E d yX5_told cX5_told 4 (some .int) as M z mc ms post
abbrev nX5_told (l : Launch) (E : zE) (d : Nat) (as : List Value) (M : zH) (post : Option Value → zH → Prop) : Prop := z_Cn l E d yX5_told cX5_told 4 (some .int) as M post
abbrev kX5_pinStep (l : Launch) (E : zE) (d : Nat) (as : List Value) (M : zH) (z mc ms : Nat) (post : Option Value → zH → Nat → Prop) : Prop := z_Ct l E d yX5_pinStep cX5_pinStep 4 (some .int) as M z mc ms post
abbrev nX5_pinStep (l : Launch) (E : zE) (d : Nat) (as : List Value) (M : zH) (post : Option Value → zH → Prop) : Prop := z_Cn l E d yX5_pinStep cX5_pinStep 4 (some .int) as M post
abbrev kX5_pin (l : Launch) (E : zE) (d : Nat) (as : List Value) (M : zH) (z mc ms : Nat) (post : Option Value → zH → Nat → Prop) : Prop := z_Ct l E d yX5_pin cX5_pin 7 (some .int) as M z mc ms post
abbrev nX5_pin (l : Launch) (E : zE) (d : Nat) (as : List Value) (M : zH) (post : Option Value → zH → Prop) : Prop := z_Cn l E d yX5_pin cX5_pin 7 (some .int) as M post
abbrev kX5_letter (l : Launch) (E : zE) (d : Nat) (as : List Value) (M : zH) (z mc ms : Nat) (post : Option Value → zH → Nat → Prop) : Prop := z_Ct l E d yX5_letter cX5_letter 4 (some .int) as M z mc ms post
abbrev nX5_letter (l : Launch) (E : zE) (d : Nat) (as : List Value) (M : zH) (post : Option Value → zH → Prop) : Prop := z_Cn l E d yX5_letter cX5_letter 4 (some .int) as M post
abbrev kX5_shorten (l : Launch) (E : zE) (d : Nat) (as : List Value) (M : zH) (z mc ms : Nat) (post : Option Value → zH → Nat → Prop) : Prop := z_Ct l E d yX5_shorten cX5_shorten 3 none as M z mc ms post
abbrev nX5_shorten (l : Launch) (E : zE) (d : Nat) (as : List Value) (M : zH) (post : Option Value → zH → Prop) : Prop := z_Cn l E d yX5_shorten cX5_shorten 3 none as M post
abbrev kX5_shortest (l : Launch) (E : zE) (d : Nat) (as : List Value) (M : zH) (z mc ms : Nat) (post : Option Value → zH → Nat → Prop) : Prop := z_Ct l E d yX5_shortest cX5_shortest 4 (some .int) as M z mc ms post
abbrev nX5_shortest (l : Launch) (E : zE) (d : Nat) (as : List Value) (M : zH) (post : Option Value → zH → Prop) : Prop := z_Cn l E d yX5_shortest cX5_shortest 4 (some .int) as M post
abbrev kX5_same (l : Launch) (E : zE) (d : Nat) (as : List Value) (M : zH) (z mc ms : Nat) (post : Option Value → zH → Nat → Prop) : Prop := z_Ct l E d yX5_same cX5_same 5 (some .int) as M z mc ms post
abbrev nX5_same (l : Launch) (E : zE) (d : Nat) (as : List Value) (M : zH) (post : Option Value → zH → Prop) : Prop := z_Cn l E d yX5_same cX5_same 5 (some .int) as M post
abbrev kX5_part (l : Launch) (E : zE) (d : Nat) (as : List Value) (M : zH) (z mc ms : Nat) (post : Option Value → zH → Nat → Prop) : Prop := z_Ct l E d yX5_part cX5_part 4 (some .int) as M z mc ms post
abbrev nX5_part (l : Launch) (E : zE) (d : Nat) (as : List Value) (M : zH) (post : Option Value → zH → Prop) : Prop := z_Cn l E d yX5_part cX5_part 4 (some .int) as M post
abbrev kX5_image (l : Launch) (E : zE) (d : Nat) (as : List Value) (M : zH) (z mc ms : Nat) (post : Option Value → zH → Nat → Prop) : Prop := z_Ct l E d yX5_image cX5_image 2 (some .int) as M z mc ms post
abbrev nX5_image (l : Launch) (E : zE) (d : Nat) (as : List Value) (M : zH) (post : Option Value → zH → Prop) : Prop := z_Cn l E d yX5_image cX5_image 2 (some .int) as M post
abbrev kX5_restore (l : Launch) (E : zE) (d : Nat) (as : List Value) (M : zH) (z mc ms : Nat) (post : Option Value → zH → Nat → Prop) : Prop := z_Ct l E d yX5_restore cX5_restore 2 (some .int) as M z mc ms post
abbrev nX5_restore (l : Launch) (E : zE) (d : Nat) (as : List Value) (M : zH) (post : Option Value → zH → Prop) : Prop := z_Cn l E d yX5_restore cX5_restore 2 (some .int) as M post
abbrev kX5_count (l : Launch) (E : zE) (d : Nat) (as : List Value) (M : zH) (z mc ms : Nat) (post : Option Value → zH → Nat → Prop) : Prop := z_Ct l E d yX5_count cX5_count 2 (some .int) as M z mc ms post
abbrev nX5_count (l : Launch) (E : zE) (d : Nat) (as : List Value) (M : zH) (post : Option Value → zH → Prop) : Prop := z_Cn l E d yX5_count cX5_count 2 (some .int) as M post
abbrev kX6_init (l : Launch) (E : zE) (d : Nat) (as : List Value) (M : zH) (z mc ms : Nat) (post : Option Value → zH → Nat → Prop) : Prop := z_Ct l E d yX6_init cX6_init 1 none as M z mc ms post
abbrev nX6_init (l : Launch) (E : zE) (d : Nat) (as : List Value) (M : zH) (post : Option Value → zH → Prop) : Prop := z_Cn l E d yX6_init cX6_init 1 none as M post
abbrev kX6_in (l : Launch) (E : zE) (d : Nat) (as : List Value) (M : zH) (z mc ms : Nat) (post : Option Value → zH → Nat → Prop) : Prop := z_Ct l E d yX6_in cX6_in 3 (some .boolean) as M z mc ms post
abbrev nX6_in (l : Launch) (E : zE) (d : Nat) (as : List Value) (M : zH) (post : Option Value → zH → Prop) : Prop := z_Cn l E d yX6_in cX6_in 3 (some .boolean) as M post
abbrev kX6_isWork (l : Launch) (E : zE) (d : Nat) (as : List Value) (M : zH) (z mc ms : Nat) (post : Option Value → zH → Nat → Prop) : Prop := z_Ct l E d yX6_isWork cX6_isWork 1 (some .boolean) as M z mc ms post
abbrev nX6_isWork (l : Launch) (E : zE) (d : Nat) (as : List Value) (M : zH) (post : Option Value → zH → Prop) : Prop := z_Cn l E d yX6_isWork cX6_isWork 1 (some .boolean) as M post
abbrev kX6_many (l : Launch) (E : zE) (d : Nat) (as : List Value) (M : zH) (z mc ms : Nat) (post : Option Value → zH → Nat → Prop) : Prop := z_Ct l E d yX6_many cX6_many 2 (some .int) as M z mc ms post
abbrev nX6_many (l : Launch) (E : zE) (d : Nat) (as : List Value) (M : zH) (post : Option Value → zH → Prop) : Prop := z_Cn l E d yX6_many cX6_many 2 (some .int) as M post
abbrev kX6_kindOf (l : Launch) (E : zE) (d : Nat) (as : List Value) (M : zH) (z mc ms : Nat) (post : Option Value → zH → Nat → Prop) : Prop := z_Ct l E d yX6_kindOf cX6_kindOf 3 (some .int) as M z mc ms post
abbrev nX6_kindOf (l : Launch) (E : zE) (d : Nat) (as : List Value) (M : zH) (post : Option Value → zH → Prop) : Prop := z_Cn l E d yX6_kindOf cX6_kindOf 3 (some .int) as M post
abbrev kX6_spotOf (l : Launch) (E : zE) (d : Nat) (as : List Value) (M : zH) (z mc ms : Nat) (post : Option Value → zH → Nat → Prop) : Prop := z_Ct l E d yX6_spotOf cX6_spotOf 3 (some .int) as M z mc ms post
abbrev nX6_spotOf (l : Launch) (E : zE) (d : Nat) (as : List Value) (M : zH) (post : Option Value → zH → Prop) : Prop := z_Cn l E d yX6_spotOf cX6_spotOf 3 (some .int) as M post
abbrev kX6_say (l : Launch) (E : zE) (d : Nat) (as : List Value) (M : zH) (z mc ms : Nat) (post : Option Value → zH → Nat → Prop) : Prop := z_Ct l E d yX6_say cX6_say 2 (some .int) as M z mc ms post
abbrev nX6_say (l : Launch) (E : zE) (d : Nat) (as : List Value) (M : zH) (post : Option Value → zH → Prop) : Prop := z_Cn l E d yX6_say cX6_say 2 (some .int) as M post
abbrev kX6_wipe (l : Launch) (E : zE) (d : Nat) (as : List Value) (M : zH) (z mc ms : Nat) (post : Option Value → zH → Nat → Prop) : Prop := z_Ct l E d yX6_wipe cX6_wipe 2 (some .int) as M z mc ms post
abbrev nX6_wipe (l : Launch) (E : zE) (d : Nat) (as : List Value) (M : zH) (post : Option Value → zH → Prop) : Prop := z_Cn l E d yX6_wipe cX6_wipe 2 (some .int) as M post
abbrev kX6_kindBy (l : Launch) (E : zE) (d : Nat) (as : List Value) (M : zH) (z mc ms : Nat) (post : Option Value → zH → Nat → Prop) : Prop := z_Ct l E d yX6_kindBy cX6_kindBy 1 (some .int) as M z mc ms post
abbrev nX6_kindBy (l : Launch) (E : zE) (d : Nat) (as : List Value) (M : zH) (post : Option Value → zH → Prop) : Prop := z_Cn l E d yX6_kindBy cX6_kindBy 1 (some .int) as M post
abbrev kX6_fault (l : Launch) (E : zE) (d : Nat) (as : List Value) (M : zH) (z mc ms : Nat) (post : Option Value → zH → Nat → Prop) : Prop := z_Ct l E d yX6_fault cX6_fault 5 (some .int) as M z mc ms post
abbrev nX6_fault (l : Launch) (E : zE) (d : Nat) (as : List Value) (M : zH) (post : Option Value → zH → Prop) : Prop := z_Cn l E d yX6_fault cX6_fault 5 (some .int) as M post
abbrev kX6_endOf (l : Launch) (E : zE) (d : Nat) (as : List Value) (M : zH) (z mc ms : Nat) (post : Option Value → zH → Nat → Prop) : Prop := z_Ct l E d yX6_endOf cX6_endOf 5 (some .int) as M z mc ms post
abbrev nX6_endOf (l : Launch) (E : zE) (d : Nat) (as : List Value) (M : zH) (post : Option Value → zH → Prop) : Prop := z_Cn l E d yX6_endOf cX6_endOf 5 (some .int) as M post
abbrev kX6_unfold (l : Launch) (E : zE) (d : Nat) (as : List Value) (M : zH) (z mc ms : Nat) (post : Option Value → zH → Nat → Prop) : Prop := z_Ct l E d yX6_unfold cX6_unfold 6 (some .int) as M z mc ms post
abbrev nX6_unfold (l : Launch) (E : zE) (d : Nat) (as : List Value) (M : zH) (post : Option Value → zH → Prop) : Prop := z_Cn l E d yX6_unfold cX6_unfold 6 (some .int) as M post
abbrev kX6_take (l : Launch) (E : zE) (d : Nat) (as : List Value) (M : zH) (z mc ms : Nat) (post : Option Value → zH → Nat → Prop) : Prop := z_Ct l E d yX6_take cX6_take 4 (some .int) as M z mc ms post
abbrev nX6_take (l : Launch) (E : zE) (d : Nat) (as : List Value) (M : zH) (post : Option Value → zH → Prop) : Prop := z_Cn l E d yX6_take cX6_take 4 (some .int) as M post
abbrev kX6_work (l : Launch) (E : zE) (d : Nat) (as : List Value) (M : zH) (z mc ms : Nat) (post : Option Value → zH → Nat → Prop) : Prop := z_Ct l E d yX6_work cX6_work 4 (some .int) as M z mc ms post
abbrev nX6_work (l : Launch) (E : zE) (d : Nat) (as : List Value) (M : zH) (post : Option Value → zH → Prop) : Prop := z_Cn l E d yX6_work cX6_work 4 (some .int) as M post
abbrev kX6_join (l : Launch) (E : zE) (d : Nat) (as : List Value) (M : zH) (z mc ms : Nat) (post : Option Value → zH → Nat → Prop) : Prop := z_Ct l E d yX6_join cX6_join 6 (some .int) as M z mc ms post
abbrev nX6_join (l : Launch) (E : zE) (d : Nat) (as : List Value) (M : zH) (post : Option Value → zH → Prop) : Prop := z_Cn l E d yX6_join cX6_join 6 (some .int) as M post
abbrev kX6_undone (l : Launch) (E : zE) (d : Nat) (as : List Value) (M : zH) (z mc ms : Nat) (post : Option Value → zH → Nat → Prop) : Prop := z_Ct l E d yX6_undone cX6_undone 7 (some .int) as M z mc ms post
abbrev nX6_undone (l : Launch) (E : zE) (d : Nat) (as : List Value) (M : zH) (post : Option Value → zH → Prop) : Prop := z_Cn l E d yX6_undone cX6_undone 7 (some .int) as M post
abbrev kX6_step (l : Launch) (E : zE) (d : Nat) (as : List Value) (M : zH) (z mc ms : Nat) (post : Option Value → zH → Nat → Prop) : Prop := z_Ct l E d yX6_step cX6_step 4 (some .int) as M z mc ms post
abbrev nX6_step (l : Launch) (E : zE) (d : Nat) (as : List Value) (M : zH) (post : Option Value → zH → Prop) : Prop := z_Cn l E d yX6_step cX6_step 4 (some .int) as M post
abbrev kX6_signOf (l : Launch) (E : zE) (d : Nat) (as : List Value) (M : zH) (z mc ms : Nat) (post : Option Value → zH → Nat → Prop) : Prop := z_Ct l E d yX6_signOf cX6_signOf 1 (some .int) as M z mc ms post
abbrev nX6_signOf (l : Launch) (E : zE) (d : Nat) (as : List Value) (M : zH) (post : Option Value → zH → Prop) : Prop := z_Cn l E d yX6_signOf cX6_signOf 1 (some .int) as M post
abbrev kX6_written (l : Launch) (E : zE) (d : Nat) (as : List Value) (M : zH) (z mc ms : Nat) (post : Option Value → zH → Nat → Prop) : Prop := z_Ct l E d yX6_written cX6_written 5 (some .int) as M z mc ms post
abbrev nX6_written (l : Launch) (E : zE) (d : Nat) (as : List Value) (M : zH) (post : Option Value → zH → Prop) : Prop := z_Cn l E d yX6_written cX6_written 5 (some .int) as M post
abbrev kX6_addLetter (l : Launch) (E : zE) (d : Nat) (as : List Value) (M : zH) (z mc ms : Nat) (post : Option Value → zH → Nat → Prop) : Prop := z_Ct l E d yX6_addLetter cX6_addLetter 4 none as M z mc ms post
abbrev nX6_addLetter (l : Launch) (E : zE) (d : Nat) (as : List Value) (M : zH) (post : Option Value → zH → Prop) : Prop := z_Cn l E d yX6_addLetter cX6_addLetter 4 none as M post
abbrev kX6_layLetters (l : Launch) (E : zE) (d : Nat) (as : List Value) (M : zH) (z mc ms : Nat) (post : Option Value → zH → Nat → Prop) : Prop := z_Ct l E d yX6_layLetters cX6_layLetters 4 none as M z mc ms post
abbrev nX6_layLetters (l : Launch) (E : zE) (d : Nat) (as : List Value) (M : zH) (post : Option Value → zH → Prop) : Prop := z_Cn l E d yX6_layLetters cX6_layLetters 4 none as M post
abbrev kX6_begin (l : Launch) (E : zE) (d : Nat) (as : List Value) (M : zH) (z mc ms : Nat) (post : Option Value → zH → Nat → Prop) : Prop := z_Ct l E d yX6_begin cX6_begin 2 none as M z mc ms post
abbrev nX6_begin (l : Launch) (E : zE) (d : Nat) (as : List Value) (M : zH) (post : Option Value → zH → Prop) : Prop := z_Cn l E d yX6_begin cX6_begin 2 none as M post
abbrev kX6_change (l : Launch) (E : zE) (d : Nat) (as : List Value) (M : zH) (z mc ms : Nat) (post : Option Value → zH → Nat → Prop) : Prop := z_Ct l E d yX6_change cX6_change 4 none as M z mc ms post
abbrev nX6_change (l : Launch) (E : zE) (d : Nat) (as : List Value) (M : zH) (post : Option Value → zH → Prop) : Prop := z_Cn l E d yX6_change cX6_change 4 none as M post
abbrev kX6_goTo (l : Launch) (E : zE) (d : Nat) (as : List Value) (M : zH) (z mc ms : Nat) (post : Option Value → zH → Nat → Prop) : Prop := z_Ct l E d yX6_goTo cX6_goTo 4 none as M z mc ms post
abbrev nX6_goTo (l : Launch) (E : zE) (d : Nat) (as : List Value) (M : zH) (post : Option Value → zH → Prop) : Prop := z_Cn l E d yX6_goTo cX6_goTo 4 none as M post
abbrev kX6_at (l : Launch) (E : zE) (d : Nat) (as : List Value) (M : zH) (z mc ms : Nat) (post : Option Value → zH → Nat → Prop) : Prop := z_Ct l E d yX6_at cX6_at 4 (some .int) as M z mc ms post
abbrev nX6_at (l : Launch) (E : zE) (d : Nat) (as : List Value) (M : zH) (post : Option Value → zH → Prop) : Prop := z_Cn l E d yX6_at cX6_at 4 (some .int) as M post
abbrev kX6_met (l : Launch) (E : zE) (d : Nat) (as : List Value) (M : zH) (z mc ms : Nat) (post : Option Value → zH → Nat → Prop) : Prop := z_Ct l E d yX6_met cX6_met 11 (some .int) as M z mc ms post
abbrev nX6_met (l : Launch) (E : zE) (d : Nat) (as : List Value) (M : zH) (post : Option Value → zH → Prop) : Prop := z_Cn l E d yX6_met cX6_met 11 (some .int) as M post
abbrev kX6_pins (l : Launch) (E : zE) (d : Nat) (as : List Value) (M : zH) (z mc ms : Nat) (post : Option Value → zH → Nat → Prop) : Prop := z_Ct l E d yX6_pins cX6_pins 4 (some .int) as M z mc ms post
abbrev nX6_pins (l : Launch) (E : zE) (d : Nat) (as : List Value) (M : zH) (post : Option Value → zH → Prop) : Prop := z_Cn l E d yX6_pins cX6_pins 4 (some .int) as M post
abbrev kX6_asAtFirst (l : Launch) (E : zE) (d : Nat) (as : List Value) (M : zH) (z mc ms : Nat) (post : Option Value → zH → Nat → Prop) : Prop := z_Ct l E d yX6_asAtFirst cX6_asAtFirst 3 (some .int) as M z mc ms post
abbrev nX6_asAtFirst (l : Launch) (E : zE) (d : Nat) (as : List Value) (M : zH) (post : Option Value → zH → Prop) : Prop := z_Cn l E d yX6_asAtFirst cX6_asAtFirst 3 (some .int) as M post
abbrev kX6_timesOf (l : Launch) (E : zE) (d : Nat) (as : List Value) (M : zH) (z mc ms : Nat) (post : Option Value → zH → Nat → Prop) : Prop := z_Ct l E d yX6_timesOf cX6_timesOf 5 (some .int) as M z mc ms post
abbrev nX6_timesOf (l : Launch) (E : zE) (d : Nat) (as : List Value) (M : zH) (post : Option Value → zH → Prop) : Prop := z_Cn l E d yX6_timesOf cX6_timesOf 5 (some .int) as M post
abbrev kX6_still (l : Launch) (E : zE) (d : Nat) (as : List Value) (M : zH) (z mc ms : Nat) (post : Option Value → zH → Nat → Prop) : Prop := z_Ct l E d yX6_still cX6_still 5 (some .int) as M z mc ms post
abbrev nX6_still (l : Launch) (E : zE) (d : Nat) (as : List Value) (M : zH) (post : Option Value → zH → Prop) : Prop := z_Cn l E d yX6_still cX6_still 5 (some .int) as M post
abbrev kX6_told (l : Launch) (E : zE) (d : Nat) (as : List Value) (M : zH) (z mc ms : Nat) (post : Option Value → zH → Nat → Prop) : Prop := z_Ct l E d yX6_told cX6_told 3 (some .int) as M z mc ms post
abbrev nX6_told (l : Launch) (E : zE) (d : Nat) (as : List Value) (M : zH) (post : Option Value → zH → Prop) : Prop := z_Cn l E d yX6_told cX6_told 3 (some .int) as M post
abbrev kX6_pin (l : Launch) (E : zE) (d : Nat) (as : List Value) (M : zH) (z mc ms : Nat) (post : Option Value → zH → Nat → Prop) : Prop := z_Ct l E d yX6_pin cX6_pin 7 (some .int) as M z mc ms post
abbrev nX6_pin (l : Launch) (E : zE) (d : Nat) (as : List Value) (M : zH) (post : Option Value → zH → Prop) : Prop := z_Cn l E d yX6_pin cX6_pin 7 (some .int) as M post
abbrev kX6_letter (l : Launch) (E : zE) (d : Nat) (as : List Value) (M : zH) (z mc ms : Nat) (post : Option Value → zH → Nat → Prop) : Prop := z_Ct l E d yX6_letter cX6_letter 3 (some .int) as M z mc ms post
abbrev nX6_letter (l : Launch) (E : zE) (d : Nat) (as : List Value) (M : zH) (post : Option Value → zH → Prop) : Prop := z_Cn l E d yX6_letter cX6_letter 3 (some .int) as M post
abbrev kX6_apart (l : Launch) (E : zE) (d : Nat) (as : List Value) (M : zH) (z mc ms : Nat) (post : Option Value → zH → Nat → Prop) : Prop := z_Ct l E d yX6_apart cX6_apart 3 (some .boolean) as M z mc ms post
abbrev nX6_apart (l : Launch) (E : zE) (d : Nat) (as : List Value) (M : zH) (post : Option Value → zH → Prop) : Prop := z_Cn l E d yX6_apart cX6_apart 3 (some .boolean) as M post
abbrev kX6_removeAt (l : Launch) (E : zE) (d : Nat) (as : List Value) (M : zH) (z mc ms : Nat) (post : Option Value → zH → Nat → Prop) : Prop := z_Ct l E d yX6_removeAt cX6_removeAt 4 none as M z mc ms post
abbrev nX6_removeAt (l : Launch) (E : zE) (d : Nat) (as : List Value) (M : zH) (post : Option Value → zH → Prop) : Prop := z_Cn l E d yX6_removeAt cX6_removeAt 4 none as M post
abbrev kX6_addLeft (l : Launch) (E : zE) (d : Nat) (as : List Value) (M : zH) (z mc ms : Nat) (post : Option Value → zH → Nat → Prop) : Prop := z_Ct l E d yX6_addLeft cX6_addLeft 3 none as M z mc ms post
abbrev nX6_addLeft (l : Launch) (E : zE) (d : Nat) (as : List Value) (M : zH) (post : Option Value → zH → Prop) : Prop := z_Cn l E d yX6_addLeft cX6_addLeft 3 none as M post
abbrev kX6_front (l : Launch) (E : zE) (d : Nat) (as : List Value) (M : zH) (z mc ms : Nat) (post : Option Value → zH → Nat → Prop) : Prop := z_Ct l E d yX6_front cX6_front 5 (some .int) as M z mc ms post
abbrev nX6_front (l : Launch) (E : zE) (d : Nat) (as : List Value) (M : zH) (post : Option Value → zH → Prop) : Prop := z_Cn l E d yX6_front cX6_front 5 (some .int) as M post
abbrev kX6_layShort (l : Launch) (E : zE) (d : Nat) (as : List Value) (M : zH) (z mc ms : Nat) (post : Option Value → zH → Nat → Prop) : Prop := z_Ct l E d yX6_layShort cX6_layShort 3 none as M z mc ms post
abbrev nX6_layShort (l : Launch) (E : zE) (d : Nat) (as : List Value) (M : zH) (post : Option Value → zH → Prop) : Prop := z_Cn l E d yX6_layShort cX6_layShort 3 none as M post
abbrev kX6_shortest (l : Launch) (E : zE) (d : Nat) (as : List Value) (M : zH) (z mc ms : Nat) (post : Option Value → zH → Nat → Prop) : Prop := z_Ct l E d yX6_shortest cX6_shortest 3 (some .int) as M z mc ms post
abbrev nX6_shortest (l : Launch) (E : zE) (d : Nat) (as : List Value) (M : zH) (post : Option Value → zH → Prop) : Prop := z_Cn l E d yX6_shortest cX6_shortest 3 (some .int) as M post
abbrev kX6_same (l : Launch) (E : zE) (d : Nat) (as : List Value) (M : zH) (z mc ms : Nat) (post : Option Value → zH → Nat → Prop) : Prop := z_Ct l E d yX6_same cX6_same 6 (some .int) as M z mc ms post
abbrev nX6_same (l : Launch) (E : zE) (d : Nat) (as : List Value) (M : zH) (post : Option Value → zH → Prop) : Prop := z_Cn l E d yX6_same cX6_same 6 (some .int) as M post
abbrev kX6_comesAgain (l : Launch) (E : zE) (d : Nat) (as : List Value) (M : zH) (z mc ms : Nat) (post : Option Value → zH → Nat → Prop) : Prop := z_Ct l E d yX6_comesAgain cX6_comesAgain 5 (some .boolean) as M z mc ms post
abbrev nX6_comesAgain (l : Launch) (E : zE) (d : Nat) (as : List Value) (M : zH) (post : Option Value → zH → Prop) : Prop := z_Cn l E d yX6_comesAgain cX6_comesAgain 5 (some .boolean) as M post
abbrev kX6_part (l : Launch) (E : zE) (d : Nat) (as : List Value) (M : zH) (z mc ms : Nat) (post : Option Value → zH → Nat → Prop) : Prop := z_Ct l E d yX6_part cX6_part 3 (some .int) as M z mc ms post
abbrev nX6_part (l : Launch) (E : zE) (d : Nat) (as : List Value) (M : zH) (post : Option Value → zH → Prop) : Prop := z_Cn l E d yX6_part cX6_part 3 (some .int) as M post
abbrev kX6_image (l : Launch) (E : zE) (d : Nat) (as : List Value) (M : zH) (z mc ms : Nat) (post : Option Value → zH → Nat → Prop) : Prop := z_Ct l E d yX6_image cX6_image 3 (some .int) as M z mc ms post
abbrev nX6_image (l : Launch) (E : zE) (d : Nat) (as : List Value) (M : zH) (post : Option Value → zH → Prop) : Prop := z_Cn l E d yX6_image cX6_image 3 (some .int) as M post
abbrev kX6_restore (l : Launch) (E : zE) (d : Nat) (as : List Value) (M : zH) (z mc ms : Nat) (post : Option Value → zH → Nat → Prop) : Prop := z_Ct l E d yX6_restore cX6_restore 3 (some .int) as M z mc ms post
abbrev nX6_restore (l : Launch) (E : zE) (d : Nat) (as : List Value) (M : zH) (post : Option Value → zH → Prop) : Prop := z_Cn l E d yX6_restore cX6_restore 3 (some .int) as M post
abbrev kX6_count (l : Launch) (E : zE) (d : Nat) (as : List Value) (M : zH) (z mc ms : Nat) (post : Option Value → zH → Nat → Prop) : Prop := z_Ct l E d yX6_count cX6_count 4 (some .int) as M z mc ms post
abbrev nX6_count (l : Launch) (E : zE) (d : Nat) (as : List Value) (M : zH) (post : Option Value → zH → Prop) : Prop := z_Cn l E d yX6_count cX6_count 4 (some .int) as M post
abbrev kJ9_max_7cf53 (l : Launch) (E : zE) (d : Nat) (as : List Value) (M : zH) (z mc ms : Nat) (post : Option Value → zH → Nat → Prop) : Prop := z_Ct l E d yJ9_max_7cf53 cJ9_max_7cf53 2 (some .int) as M z mc ms post
abbrev nJ9_max_7cf53 (l : Launch) (E : zE) (d : Nat) (as : List Value) (M : zH) (post : Option Value → zH → Prop) : Prop := z_Cn l E d yJ9_max_7cf53 cJ9_max_7cf53 2 (some .int) as M post
abbrev kJ9_min_7cf53 (l : Launch) (E : zE) (d : Nat) (as : List Value) (M : zH) (z mc ms : Nat) (post : Option Value → zH → Nat → Prop) : Prop := z_Ct l E d yJ9_min_7cf53 cJ9_min_7cf53 2 (some .int) as M z mc ms post
abbrev nJ9_min_7cf53 (l : Launch) (E : zE) (d : Nat) (as : List Value) (M : zH) (post : Option Value → zH → Prop) : Prop := z_Cn l E d yJ9_min_7cf53 cJ9_min_7cf53 2 (some .int) as M post
end
section
theorem z_up_i (M : zH) (a : Nat) (e : zC) (b : Nat) : z_up M a e b = if b = a then some e else M b := rfl
theorem z_tt : True := trivial
theorem z_ix {i : Int32} {n : Nat} (hn : n < 2 ^ 31) (h0 : ¬ i < 0) (h : ¬ nI n ≤ i) : ∃ j, j < n ∧ i = nI j := by
  rcases pk_ix i hn with q | q | q
  · exact absurd q h0
  · exact absurd q h
  · exact q
theorem zn_0 : (narrow FieldType.boolean (Value.int 0) = Value.int 0) = True := eq_true rfl
theorem zn_1 : (narrow FieldType.boolean (Value.int 1) = Value.int 1) = True := eq_true rfl
theorem zo_0 : z_bo 0 = True := eq_true ⟨rfl, rfl⟩
theorem zo_1 : z_bo 1 = True := eq_true ⟨rfl, rfl⟩
theorem z_ty_get {w : List Int32} {j : Nat} (h : j < w.length) : w.getD j (-6) = w[j] := by simp [h]
theorem z_take1 {α : Type} {w : List α} {i : Nat} {v : α} (h : w[i]? = some v) : w.take (i + 1) = w.take i ++ [v] := by
  rw [List.take_succ, h]; rfl
end
section
/-! ROWS: z_row M r cap l: at r a Row of that room, which holds l -/
def z_row (M : zH) (r cap : Nat) (l : List Int32) : Prop := ∃ f : Nat → Int32, M r = some (.inr (2, [.ref (r + 1), .int (nI l.length)])) ∧ M (r + 1) = some (.inl (0, cap, .inl f)) ∧ l.length ≤ cap ∧ cap ≤ 1000 ∧ ∀ j, j < l.length → l[j]? = some (f j)
def z_fr (M M' : zH) (A : List Nat) : Prop := ∀ q, q ∉ A → M' q = M q
theorem z_fr.rf {M : zH} {A : List Nat} : z_fr M M A := fun _ _ => rfl
theorem z_fr.tr {M M1 M2 : zH} {A : List Nat} (h : z_fr M M1 A) (h2 : z_fr M1 M2 A) : z_fr M M2 A := fun q hq => (h2 q hq).trans (h q hq)
theorem z_fr.sub {M M1 : zH} {A B : List Nat} (h : z_fr M M1 A) (hs : ∀ q, q ∈ A → q ∈ B) : z_fr M M1 B := fun q hq => h q (fun z => hq (hs q z))
theorem z_row.fr {M M' : zH} {A : List Nat} {r cap : Nat} {w : List Int32} (h : z_row M r cap w) (hf : z_fr M M' A) (h1 : r ∉ A) (h2 : r + 1 ∉ A) : z_row M' r cap w := by
  obtain ⟨f, g1, g2, g3⟩ := h
  exact ⟨f, (hf r h1).trans g1, (hf _ h2).trans g2, g3⟩
theorem z_row.ob {M : zH} {r cap : Nat} {w : List Int32} (h : z_row M r cap w) : M r = some (.inr (2, [.ref (r + 1), .int (nI w.length)])) := h.choose_spec.1
theorem z_row.le {M : zH} {r cap : Nat} {w : List Int32} (h : z_row M r cap w) : w.length ≤ cap ∧ cap ≤ 1000 := by
  obtain ⟨f, g1, g2, g3, g4, g5⟩ := h
  exact ⟨g3, g4⟩
def z_get (l : List Int32) (i : Int32) : Int32 := if i < 0 then -6 else l.getD i.toNatClampNeg (-6)
theorem z_get_nI {l : List Int32} {j : Nat} (h : j < 2 ^ 31) : z_get l (nI j) = l.getD j (-6) := by
  unfold z_get
  rw [if_neg (nI_pos h), nI_clamp h]
set_option maxRecDepth 100000 in
set_option maxHeartbeats 4000000 in
theorem c_size {l : Launch} {E : zE} {d : Nat} {M : zH} {r cap : Nat} {w : List Int32} (h : z_row M r cap w) : nX2_size l E d [.ref r] M (z_i fun v M' => v = nI w.length ∧ M' = M) := by
  obtain ⟨f, h1, h2, h3, h4, h5⟩ := h
  refine z_cn 2 fun P z C => ?_
  refine z_run C [] 5 ?_
  simp only [z_x, z_n, z_stop, z_mem, z_ldi, z_lda, z_sto, z_s1, z_s2, z_sa, z_sv, z_br, z_bn, z_ob, z_ar, z_aq, z_al, z_rt, z_ra, z_at, z_st, z_K0i, z_K0v, zk_0, zk_1, zk_2, zk_3, z_lv, List.map_cons, List.map_nil, List.length_cons, List.length_nil, List.replicate, List.cons_append, List.nil_append, Nat.reduceAdd, Nat.reduceSub, Nat.reduceBEq, Nat.reduceEqDiff, Nat.reduceLT, Nat.reduceLeDiff, Nat.zero_add, Int.cast_ofNat_Int, Int.reduceAdd, Int.reduceNeg, Int.reduceToNat, Int.reduceLE, Int.zero_add, Int.toNat_zero, Int.add_zero, Int.add_neg_cancel_right, Fin.isValue, Int32.reduceOfInt, ↓reduceIte, Bool.false_eq_true, Bool.or_false, Bool.false_or, Bool.or_true, Bool.true_or, if_true, if_false, true_and, and_true, true_or, or_true, false_or, or_false, eq_self, and_self, z_up_i, Nat.add_left_cancel_iff, Nat.left_eq_add, Nat.add_eq_left, reduceCtorEq, Nat.add_one_ne_zero, z_tt, implies_true, zn_0, zn_1, zo_0, zo_1, dX2_size_0, dX2_size_1, dX2_size_4, zf_2_21, h1]
  exact ⟨rfl, rfl⟩
set_option maxRecDepth 100000 in
set_option maxHeartbeats 4000000 in
theorem c_get {l : Launch} {E : zE} {d : Nat} {M : zH} {r cap : Nat} {w : List Int32} (i : Int32) (h : z_row M r cap w) : nX2_get l E d [.ref r, .int i] M (z_i fun v M' => v = z_get w i ∧ M' = M) := by
  obtain ⟨f, h1, h2, h3, h4, h5⟩ := h
  refine z_cn 2 fun P z C => ?_
  refine z_run C [] 20 ?_
  simp only [z_x, z_n, z_stop, z_mem, z_ldi, z_lda, z_sto, z_s1, z_s2, z_sa, z_sv, z_br, z_bn, z_ob, z_ar, z_aq, z_al, z_rt, z_ra, z_at, z_st, z_K0i, z_K0v, zk_0, zk_1, zk_2, zk_3, z_lv, List.map_cons, List.map_nil, List.length_cons, List.length_nil, List.replicate, List.cons_append, List.nil_append, Nat.reduceAdd, Nat.reduceSub, Nat.reduceBEq, Nat.reduceEqDiff, Nat.reduceLT, Nat.reduceLeDiff, Nat.zero_add, Int.cast_ofNat_Int, Int.reduceAdd, Int.reduceNeg, Int.reduceToNat, Int.reduceLE, Int.zero_add, Int.toNat_zero, Int.add_zero, Int.add_neg_cancel_right, Fin.isValue, Int32.reduceOfInt, ↓reduceIte, Bool.false_eq_true, Bool.or_false, Bool.false_or, Bool.or_true, Bool.true_or, if_true, if_false, true_and, and_true, true_or, or_true, false_or, or_false, eq_self, and_self, z_up_i, Nat.add_left_cancel_iff, Nat.left_eq_add, Nat.add_eq_left, reduceCtorEq, Nat.add_one_ne_zero, z_tt, implies_true, zn_0, zn_1, zo_0, zo_1, dX2_get_0, dX2_get_1, dX2_get_4, dX2_get_5, dX2_get_6, dX2_get_9, dX2_get_12, dX2_get_13, dX2_get_14, dX2_get_17, dX2_get_18, dX2_get_21, dX2_get_22, dX2_get_25, dX2_get_26, dX2_get_27, dX2_get_30, dX2_get_32, zb_m6, zf_2_15, zf_2_21, h1, h2]
  refine ⟨fun c1 => ⟨by simp [z_get, c1], rfl⟩, fun c1 => ⟨fun c2 => ?_, fun c2 => ⟨fun c3 => ?_, fun c3 => ?_⟩⟩⟩
  · obtain ⟨j, hj, rfl⟩ := nI_of c1
    have h6 : w.length ≤ j := (nI_leI (by omega) hj).mp c2
    refine ⟨?_, rfl⟩
    rw [z_get_nI hj]
    simp [h6]
  · obtain ⟨j, hj, rfl⟩ := z_ix (by omega) c1 c2
    exact absurd ((nI_leI (by omega) (by omega)).mp c3) (by omega)
  · obtain ⟨j, hj, rfl⟩ := z_ix (by omega) c1 c2
    refine ⟨vp_in_nI (by omega) (by omega), ?_, rfl⟩
    rw [z_get_nI (by omega), nI_clamp (by omega)]
    simp [h5 j hj]
set_option maxRecDepth 100000 in
set_option maxHeartbeats 4000000 in
theorem c_add {l : Launch} {E : zE} {d : Nat} {M : zH} {r cap : Nat} {w : List Int32} (i : Int32) (h : z_row M r cap w) : nX2_add l E d [.ref r, .int i] M (z_i fun v M' => z_fr M M' [r, r + 1] ∧ (w.length < cap → v = 1 ∧ z_row M' r cap (w ++ [i])) ∧ (¬ w.length < cap → v = 0 ∧ M' = M)) := by
  obtain ⟨f, h1, h2, h3, h4, h5⟩ := h
  refine z_cn 2 fun P z C => ?_
  refine z_run C [] 30 ?_
  simp only [z_x, z_n, z_stop, z_mem, z_ldi, z_lda, z_sto, z_s1, z_s2, z_sa, z_sv, z_br, z_bn, z_ob, z_ar, z_aq, z_al, z_rt, z_ra, z_at, z_st, z_K0i, z_K0v, zk_0, zk_1, zk_2, zk_3, z_lv, List.map_cons, List.map_nil, List.length_cons, List.length_nil, List.replicate, List.cons_append, List.nil_append, Nat.reduceAdd, Nat.reduceSub, Nat.reduceBEq, Nat.reduceEqDiff, Nat.reduceLT, Nat.reduceLeDiff, Nat.zero_add, Int.cast_ofNat_Int, Int.reduceAdd, Int.reduceNeg, Int.reduceToNat, Int.reduceLE, Int.zero_add, Int.toNat_zero, Int.add_zero, Int.add_neg_cancel_right, Fin.isValue, Int32.reduceOfInt, ↓reduceIte, Bool.false_eq_true, Bool.or_false, Bool.false_or, Bool.or_true, Bool.true_or, if_true, if_false, true_and, and_true, true_or, or_true, false_or, or_false, eq_self, and_self, z_up_i, Nat.add_left_cancel_iff, Nat.left_eq_add, Nat.add_eq_left, reduceCtorEq, Nat.add_one_ne_zero, z_tt, implies_true, zn_0, zn_1, zo_0, zo_1, dX2_add_0, dX2_add_1, dX2_add_4, dX2_add_7, dX2_add_8, dX2_add_11, dX2_add_12, dX2_add_15, dX2_add_16, dX2_add_19, dX2_add_20, dX2_add_21, dX2_add_22, dX2_add_25, dX2_add_26, dX2_add_29, dX2_add_30, dX2_add_31, dX2_add_32, dX2_add_33, dX2_add_36, dX2_add_37, dX2_add_38, dX2_add_41, dX2_add_42, zf_2_15, zf_2_21, zi_0, zi_1, zt_2_1, h1, h2]
  refine ⟨fun c1 => absurd c1 (nI_pos (by omega)), fun c1 => ⟨fun c2 => ?_, fun c2 => ?_⟩⟩
  · have h6 : w.length < cap := (nI_ltI (by omega) (by omega)).mp c2
    refine ⟨vp_in_nI h6 (by omega), fun q hq => ?_, fun _ => ⟨rfl, ?_⟩, fun hn => absurd h6 hn⟩
    · simp only [List.mem_cons, List.not_mem_nil, or_false, not_or] at hq
      rw [z_up_n hq.1, z_up_n hq.2]
    · refine ⟨upd f w.length i, ?_, ?_, by simp; omega, h4, fun j hj => ?_⟩
      · rw [z_up_s, nI_1]; simp
      · rw [z_up_n (by omega), z_up_s, nI_clamp (by omega)]
      · simp only [List.length_append, List.length_cons, List.length_nil] at hj
        by_cases hjw : j = w.length
        · subst hjw; simp [upd]
        · rw [List.getElem?_append_left (by omega), h5 j (by omega)]; simp [upd, hjw]
  · have h6 : ¬ w.length < cap := fun hh => c2 ((nI_ltI (by omega) (by omega)).mpr hh)
    exact ⟨z_fr.rf, fun hh => absurd hh h6, fun _ => ⟨rfl, rfl⟩⟩
set_option maxRecDepth 100000 in
set_option maxHeartbeats 4000000 in
theorem c_clear {l : Launch} {E : zE} {d : Nat} {M : zH} {r cap : Nat} {w : List Int32} (h : z_row M r cap w) : nX2_clear l E d [.ref r] M (z_v fun M' => z_fr M M' [r, r + 1] ∧ z_row M' r cap []) := by
  obtain ⟨f, h1, h2, h3, h4, h5⟩ := h
  refine z_cn 2 fun P z C => ?_
  refine z_run C [] 30 ?_
  simp only [z_x, z_n, z_stop, z_mem, z_ldi, z_lda, z_sto, z_s1, z_s2, z_sa, z_sv, z_br, z_bn, z_ob, z_ar, z_aq, z_al, z_rt, z_ra, z_at, z_st, z_K0i, z_K0v, zk_0, zk_1, zk_2, zk_3, z_lv, List.map_cons, List.map_nil, List.length_cons, List.length_nil, List.replicate, List.cons_append, List.nil_append, Nat.reduceAdd, Nat.reduceSub, Nat.reduceBEq, Nat.reduceEqDiff, Nat.reduceLT, Nat.reduceLeDiff, Nat.zero_add, Int.cast_ofNat_Int, Int.reduceAdd, Int.reduceNeg, Int.reduceToNat, Int.reduceLE, Int.zero_add, Int.toNat_zero, Int.add_zero, Int.add_neg_cancel_right, Fin.isValue, Int32.reduceOfInt, ↓reduceIte, Bool.false_eq_true, Bool.or_false, Bool.false_or, Bool.or_true, Bool.true_or, if_true, if_false, true_and, and_true, true_or, or_true, false_or, or_false, eq_self, and_self, z_up_i, Nat.add_left_cancel_iff, Nat.left_eq_add, Nat.add_eq_left, reduceCtorEq, Nat.add_one_ne_zero, z_tt, implies_true, zn_0, zn_1, zo_0, zo_1, dX2_clear_0, dX2_clear_1, dX2_clear_2, dX2_clear_5, zf_2_21, zi_0, zt_2_1, h1, h2]
  refine ⟨fun q hq => ?_, f, ?_, ?_, by simp, h4, fun j hj => by simp at hj⟩
  · simp only [List.mem_cons, List.not_mem_nil, or_false, not_or] at hq
    rw [z_up_n hq.1]
  · rw [z_up_s]; rfl
  · rw [z_up_n (by omega)]; exact h2
set_option maxRecDepth 100000 in
set_option maxHeartbeats 4000000 in
theorem c_addAll {l : Launch} {E : zE} {d : Nat} {M : zH} {r o cap cap2 : Nat} {w w2 : List Int32} (h : z_row M r cap w) (ho : z_row M o cap2 w2) (hn : o ≠ r ∧ o ≠ r + 1 ∧ o + 1 ≠ r) (hl : w.length + w2.length ≤ cap) : nX2_addAll l E (d + 1) [.ref r, .ref o] M (z_v fun M' => z_fr M M' [r, r + 1] ∧ z_row M' r cap (w ++ w2)) := by
  refine z_cn 2 fun P z C => ?_
  have hcap := h.le
  have hcap2 := ho.le
  have loop : ∀ (n i : Nat) (M1 : zH), i + n = w2.length → z_fr M M1 [r, r + 1] → z_row M1 r cap (w ++ w2.take i) → P (M1, z, 0, 0) 7 [some (.ref r), some (.ref o), some (.int (nI w2.length)), some (.int (nI i))] [] := by
    intro n
    induction n with
    | zero =>
      intro i M1 hi hf hr
      refine z_run C [] 10 ?_
      simp only [z_x, z_n, z_stop, z_mem, z_ldi, z_lda, z_sto, z_s1, z_s2, z_sa, z_sv, z_br, z_bn, z_ob, z_ar, z_aq, z_al, z_rt, z_ra, z_at, z_st, z_K0i, z_K0v, zk_0, zk_1, zk_2, zk_3, z_lv, List.map_cons, List.map_nil, List.length_cons, List.length_nil, List.replicate, List.cons_append, List.nil_append, Nat.reduceAdd, Nat.reduceSub, Nat.reduceBEq, Nat.reduceEqDiff, Nat.reduceLT, Nat.reduceLeDiff, Nat.zero_add, Int.cast_ofNat_Int, Int.reduceAdd, Int.reduceNeg, Int.reduceToNat, Int.reduceLE, Int.zero_add, Int.toNat_zero, Int.add_zero, Int.add_neg_cancel_right, Fin.isValue, Int32.reduceOfInt, ↓reduceIte, Bool.false_eq_true, Bool.or_false, Bool.false_or, Bool.or_true, Bool.true_or, if_true, if_false, true_and, and_true, true_or, or_true, false_or, or_false, eq_self, and_self, z_up_i, Nat.add_left_cancel_iff, Nat.left_eq_add, Nat.add_eq_left, reduceCtorEq, Nat.add_one_ne_zero, z_tt, implies_true, zn_0, zn_1, zo_0, zo_1, dX2_addAll_0, dX2_addAll_1, dX2_addAll_4, dX2_addAll_5, dX2_addAll_6, dX2_addAll_7, dX2_addAll_8, dX2_addAll_9, dX2_addAll_12, dX2_addAll_13, dX2_addAll_14, dX2_addAll_15, dX2_addAll_18, dX2_addAll_21, dX2_addAll_22, dX2_addAll_25, dX2_addAll_28, zi_0, zi_1]
      refine ⟨fun _ => ⟨hf, ?_⟩, fun c1 => absurd (nI_le (by omega) (by omega)) c1⟩
      rw [List.take_of_length_le (by omega)] at hr
      exact hr
    | succ n ih =>
      intro i M1 hi hf hr
      have ho1 : z_row M1 o cap2 w2 := ho.fr hf (by simp; omega) (by simp; omega)
      refine z_run C [] 10 ?_
      simp only [z_x, z_n, z_stop, z_mem, z_ldi, z_lda, z_sto, z_s1, z_s2, z_sa, z_sv, z_br, z_bn, z_ob, z_ar, z_aq, z_al, z_rt, z_ra, z_at, z_st, z_K0i, z_K0v, zk_0, zk_1, zk_2, zk_3, z_lv, List.map_cons, List.map_nil, List.length_cons, List.length_nil, List.replicate, List.cons_append, List.nil_append, Nat.reduceAdd, Nat.reduceSub, Nat.reduceBEq, Nat.reduceEqDiff, Nat.reduceLT, Nat.reduceLeDiff, Nat.zero_add, Int.cast_ofNat_Int, Int.reduceAdd, Int.reduceNeg, Int.reduceToNat, Int.reduceLE, Int.zero_add, Int.toNat_zero, Int.add_zero, Int.add_neg_cancel_right, Fin.isValue, Int32.reduceOfInt, ↓reduceIte, Bool.false_eq_true, Bool.or_false, Bool.false_or, Bool.or_true, Bool.true_or, if_true, if_false, true_and, and_true, true_or, or_true, false_or, or_false, eq_self, and_self, z_up_i, Nat.add_left_cancel_iff, Nat.left_eq_add, Nat.add_eq_left, reduceCtorEq, Nat.add_one_ne_zero, z_tt, implies_true, zn_0, zn_1, zo_0, zo_1, dX2_addAll_0, dX2_addAll_1, dX2_addAll_4, dX2_addAll_5, dX2_addAll_6, dX2_addAll_7, dX2_addAll_8, dX2_addAll_9, dX2_addAll_12, dX2_addAll_13, dX2_addAll_14, dX2_addAll_15, dX2_addAll_18, dX2_addAll_21, dX2_addAll_22, dX2_addAll_25, dX2_addAll_28, zi_0, zi_1]
      refine ⟨fun c1 => absurd ((nI_leI (by omega) (by omega)).mp c1) (by omega), fun _ => ?_⟩
      refine z_vi C dX2_addAll_15 lk_2_28 (c_get (nI i) ho1) rfl ho1.ob (fun v M2 hv => ?_)
      obtain ⟨rfl, rfl⟩ := hv
      refine z_vi C dX2_addAll_18 lk_2_32 (c_add _ hr) rfl hr.ob (fun v M2 hv => ?_)
      obtain ⟨hf2, hv, -⟩ := hv
      obtain ⟨-, hr2⟩ := hv (by simp; omega)
      refine z_run C [7] 10 ?_
      simp only [z_x, z_n, z_stop, z_mem, z_ldi, z_lda, z_sto, z_s1, z_s2, z_sa, z_sv, z_br, z_bn, z_ob, z_ar, z_aq, z_al, z_rt, z_ra, z_at, z_st, z_K0i, z_K0v, zk_0, zk_1, zk_2, zk_3, z_lv, List.map_cons, List.map_nil, List.length_cons, List.length_nil, List.replicate, List.cons_append, List.nil_append, Nat.reduceAdd, Nat.reduceSub, Nat.reduceBEq, Nat.reduceEqDiff, Nat.reduceLT, Nat.reduceLeDiff, Nat.zero_add, Int.cast_ofNat_Int, Int.reduceAdd, Int.reduceNeg, Int.reduceToNat, Int.reduceLE, Int.zero_add, Int.toNat_zero, Int.add_zero, Int.add_neg_cancel_right, Fin.isValue, Int32.reduceOfInt, ↓reduceIte, Bool.false_eq_true, Bool.or_false, Bool.false_or, Bool.or_true, Bool.true_or, if_true, if_false, true_and, and_true, true_or, or_true, false_or, or_false, eq_self, and_self, z_up_i, Nat.add_left_cancel_iff, Nat.left_eq_add, Nat.add_eq_left, reduceCtorEq, Nat.add_one_ne_zero, z_tt, implies_true, zn_0, zn_1, zo_0, zo_1, dX2_addAll_0, dX2_addAll_1, dX2_addAll_4, dX2_addAll_5, dX2_addAll_6, dX2_addAll_7, dX2_addAll_8, dX2_addAll_9, dX2_addAll_12, dX2_addAll_13, dX2_addAll_14, dX2_addAll_15, dX2_addAll_18, dX2_addAll_21, dX2_addAll_22, dX2_addAll_25, dX2_addAll_28, zi_0, zi_1]
      rw [nI_1]
      refine ih (i + 1) M2 (by omega) (hf.tr hf2) ?_
      rw [z_get_nI (by omega)] at hr2
      have e1 : w2.take (i + 1) = w2.take i ++ [w2.getD i (-6)] := by
        rw [List.take_succ, List.getD_eq_getElem?_getD, List.getElem?_eq_getElem (by omega)]; rfl
      rw [e1, ← List.append_assoc]
      exact hr2
  refine z_run C [] 3 ?_
  simp only [z_x, z_n, z_stop, z_mem, z_ldi, z_lda, z_sto, z_s1, z_s2, z_sa, z_sv, z_br, z_bn, z_ob, z_ar, z_aq, z_al, z_rt, z_ra, z_at, z_st, z_K0i, z_K0v, zk_0, zk_1, zk_2, zk_3, z_lv, List.map_cons, List.map_nil, List.length_cons, List.length_nil, List.replicate, List.cons_append, List.nil_append, Nat.reduceAdd, Nat.reduceSub, Nat.reduceBEq, Nat.reduceEqDiff, Nat.reduceLT, Nat.reduceLeDiff, Nat.zero_add, Int.cast_ofNat_Int, Int.reduceAdd, Int.reduceNeg, Int.reduceToNat, Int.reduceLE, Int.zero_add, Int.toNat_zero, Int.add_zero, Int.add_neg_cancel_right, Fin.isValue, Int32.reduceOfInt, ↓reduceIte, Bool.false_eq_true, Bool.or_false, Bool.false_or, Bool.or_true, Bool.true_or, if_true, if_false, true_and, and_true, true_or, or_true, false_or, or_false, eq_self, and_self, z_up_i, Nat.add_left_cancel_iff, Nat.left_eq_add, Nat.add_eq_left, reduceCtorEq, Nat.add_one_ne_zero, z_tt, implies_true, zn_0, zn_1, zo_0, zo_1, dX2_addAll_0, dX2_addAll_1, dX2_addAll_4, dX2_addAll_5, dX2_addAll_6, dX2_addAll_7, dX2_addAll_8, dX2_addAll_9, dX2_addAll_12, dX2_addAll_13, dX2_addAll_14, dX2_addAll_15, dX2_addAll_18, dX2_addAll_21, dX2_addAll_22, dX2_addAll_25, dX2_addAll_28, zi_0, zi_1]
  refine z_vi C dX2_addAll_1 lk_2_25 (c_size ho) rfl ho.ob (fun v M2 hv => ?_)
  obtain ⟨rfl, rfl⟩ := hv
  refine z_run C [7] 3 ?_
  simp only [z_x, z_n, z_stop, z_mem, z_ldi, z_lda, z_sto, z_s1, z_s2, z_sa, z_sv, z_br, z_bn, z_ob, z_ar, z_aq, z_al, z_rt, z_ra, z_at, z_st, z_K0i, z_K0v, zk_0, zk_1, zk_2, zk_3, z_lv, List.map_cons, List.map_nil, List.length_cons, List.length_nil, List.replicate, List.cons_append, List.nil_append, Nat.reduceAdd, Nat.reduceSub, Nat.reduceBEq, Nat.reduceEqDiff, Nat.reduceLT, Nat.reduceLeDiff, Nat.zero_add, Int.cast_ofNat_Int, Int.reduceAdd, Int.reduceNeg, Int.reduceToNat, Int.reduceLE, Int.zero_add, Int.toNat_zero, Int.add_zero, Int.add_neg_cancel_right, Fin.isValue, Int32.reduceOfInt, ↓reduceIte, Bool.false_eq_true, Bool.or_false, Bool.false_or, Bool.or_true, Bool.true_or, if_true, if_false, true_and, and_true, true_or, or_true, false_or, or_false, eq_self, and_self, z_up_i, Nat.add_left_cancel_iff, Nat.left_eq_add, Nat.add_eq_left, reduceCtorEq, Nat.add_one_ne_zero, z_tt, implies_true, zn_0, zn_1, zo_0, zo_1, dX2_addAll_0, dX2_addAll_1, dX2_addAll_4, dX2_addAll_5, dX2_addAll_6, dX2_addAll_7, dX2_addAll_8, dX2_addAll_9, dX2_addAll_12, dX2_addAll_13, dX2_addAll_14, dX2_addAll_15, dX2_addAll_18, dX2_addAll_21, dX2_addAll_22, dX2_addAll_25, dX2_addAll_28, zi_0, zi_1]
  exact loop w2.length 0 M2 (by omega) z_fr.rf (by simpa using h)

set_option maxRecDepth 100000 in
set_option maxHeartbeats 4000000 in
theorem c_become {l : Launch} {E : zE} {d : Nat} {M : zH} {r o cap cap2 : Nat} {w w2 : List Int32} (h : z_row M r cap w) (ho : z_row M o cap2 w2) (hn : o ≠ r ∧ o ≠ r + 1 ∧ o + 1 ≠ r) (hl : w2.length ≤ cap) : nX2_become l E (d + 2) [.ref r, .ref o] M (z_v fun M' => z_fr M M' [r, r + 1] ∧ z_row M' r cap w2) := by
  refine z_cn 2 fun P z C => ?_
  refine z_run C [] 3 ?_
  simp only [z_x, z_n, z_stop, z_mem, z_ldi, z_lda, z_sto, z_s1, z_s2, z_sa, z_sv, z_br, z_bn, z_ob, z_ar, z_aq, z_al, z_rt, z_ra, z_at, z_st, z_K0i, z_K0v, zk_0, zk_1, zk_2, zk_3, z_lv, List.map_cons, List.map_nil, List.length_cons, List.length_nil, List.replicate, List.cons_append, List.nil_append, Nat.reduceAdd, Nat.reduceSub, Nat.reduceBEq, Nat.reduceEqDiff, Nat.reduceLT, Nat.reduceLeDiff, Nat.zero_add, Int.cast_ofNat_Int, Int.reduceAdd, Int.reduceNeg, Int.reduceToNat, Int.reduceLE, Int.zero_add, Int.toNat_zero, Int.add_zero, Int.add_neg_cancel_right, Fin.isValue, Int32.reduceOfInt, ↓reduceIte, Bool.false_eq_true, Bool.or_false, Bool.false_or, Bool.or_true, Bool.true_or, if_true, if_false, true_and, and_true, true_or, or_true, false_or, or_false, eq_self, and_self, z_up_i, Nat.add_left_cancel_iff, Nat.left_eq_add, Nat.add_eq_left, reduceCtorEq, Nat.add_one_ne_zero, z_tt, implies_true, zn_0, zn_1, zo_0, zo_1, dX2_become_0, dX2_become_1, dX2_become_4, dX2_become_5, dX2_become_6, dX2_become_9]
  refine z_vv C dX2_become_1 lk_2_36 (c_clear h) rfl h.ob (fun M1 hv => ?_)
  obtain ⟨hf, hr⟩ := hv
  have ho1 : z_row M1 o cap2 w2 := ho.fr hf (by simp; omega) (by simp; omega)
  refine z_run C [] 3 ?_
  simp only [z_x, z_n, z_stop, z_mem, z_ldi, z_lda, z_sto, z_s1, z_s2, z_sa, z_sv, z_br, z_bn, z_ob, z_ar, z_aq, z_al, z_rt, z_ra, z_at, z_st, z_K0i, z_K0v, zk_0, zk_1, zk_2, zk_3, z_lv, List.map_cons, List.map_nil, List.length_cons, List.length_nil, List.replicate, List.cons_append, List.nil_append, Nat.reduceAdd, Nat.reduceSub, Nat.reduceBEq, Nat.reduceEqDiff, Nat.reduceLT, Nat.reduceLeDiff, Nat.zero_add, Int.cast_ofNat_Int, Int.reduceAdd, Int.reduceNeg, Int.reduceToNat, Int.reduceLE, Int.zero_add, Int.toNat_zero, Int.add_zero, Int.add_neg_cancel_right, Fin.isValue, Int32.reduceOfInt, ↓reduceIte, Bool.false_eq_true, Bool.or_false, Bool.false_or, Bool.or_true, Bool.true_or, if_true, if_false, true_and, and_true, true_or, or_true, false_or, or_false, eq_self, and_self, z_up_i, Nat.add_left_cancel_iff, Nat.left_eq_add, Nat.add_eq_left, reduceCtorEq, Nat.add_one_ne_zero, z_tt, implies_true, zn_0, zn_1, zo_0, zo_1, dX2_become_0, dX2_become_1, dX2_become_4, dX2_become_5, dX2_become_6, dX2_become_9]
  refine z_vv C dX2_become_6 lk_2_39 (c_addAll hr ho1 hn (by simpa using hl)) rfl hr.ob (fun M2 hv => ?_)
  obtain ⟨hf2, hr2⟩ := hv
  refine z_run C [] 3 ?_
  simp only [z_x, z_n, z_stop, z_mem, z_ldi, z_lda, z_sto, z_s1, z_s2, z_sa, z_sv, z_br, z_bn, z_ob, z_ar, z_aq, z_al, z_rt, z_ra, z_at, z_st, z_K0i, z_K0v, zk_0, zk_1, zk_2, zk_3, z_lv, List.map_cons, List.map_nil, List.length_cons, List.length_nil, List.replicate, List.cons_append, List.nil_append, Nat.reduceAdd, Nat.reduceSub, Nat.reduceBEq, Nat.reduceEqDiff, Nat.reduceLT, Nat.reduceLeDiff, Nat.zero_add, Int.cast_ofNat_Int, Int.reduceAdd, Int.reduceNeg, Int.reduceToNat, Int.reduceLE, Int.zero_add, Int.toNat_zero, Int.add_zero, Int.add_neg_cancel_right, Fin.isValue, Int32.reduceOfInt, ↓reduceIte, Bool.false_eq_true, Bool.or_false, Bool.false_or, Bool.or_true, Bool.true_or, if_true, if_false, true_and, and_true, true_or, or_true, false_or, or_false, eq_self, and_self, z_up_i, Nat.add_left_cancel_iff, Nat.left_eq_add, Nat.add_eq_left, reduceCtorEq, Nat.add_one_ne_zero, z_tt, implies_true, zn_0, zn_1, zo_0, zo_1, dX2_become_0, dX2_become_1, dX2_become_4, dX2_become_5, dX2_become_6, dX2_become_9]
  exact ⟨hf.tr hf2, by simpa using hr2⟩
set_option maxRecDepth 100000 in
set_option maxHeartbeats 4000000 in
theorem c_isLike {l : Launch} {E : zE} {d : Nat} {M : zH} {r o cap cap2 : Nat} {w w2 : List Int32} (h : z_row M r cap w) (ho : z_row M o cap2 w2) : nX2_isLike l E (d + 1) [.ref r, .ref o] M (z_i fun v M' => v = (if w = w2 then 1 else 0) ∧ M' = M) := by
  refine z_cn 2 fun P z C => ?_
  have hcap := h.le
  have hcap2 := ho.le
  have hob := h.ob
  have loop : w.length = w2.length → ∀ (n i : Nat), i + n = w.length → w.take i = w2.take i → P (M, z, 0, 0) 15 [some (.ref r), some (.ref o), some (.int (nI i))] [] := by
    intro hlen n
    induction n with
    | zero =>
      intro i hi ht
      refine z_run C [] 10 ?_
      simp only [z_x, z_n, z_stop, z_mem, z_ldi, z_lda, z_sto, z_s1, z_s2, z_sa, z_sv, z_br, z_bn, z_ob, z_ar, z_aq, z_al, z_rt, z_ra, z_at, z_st, z_K0i, z_K0v, zk_0, zk_1, zk_2, zk_3, z_lv, List.map_cons, List.map_nil, List.length_cons, List.length_nil, List.replicate, List.cons_append, List.nil_append, Nat.reduceAdd, Nat.reduceSub, Nat.reduceBEq, Nat.reduceEqDiff, Nat.reduceLT, Nat.reduceLeDiff, Nat.zero_add, Int.cast_ofNat_Int, Int.reduceAdd, Int.reduceNeg, Int.reduceToNat, Int.reduceLE, Int.zero_add, Int.toNat_zero, Int.add_zero, Int.add_neg_cancel_right, Fin.isValue, Int32.reduceOfInt, ↓reduceIte, Bool.false_eq_true, Bool.or_false, Bool.false_or, Bool.or_true, Bool.true_or, if_true, if_false, true_and, and_true, true_or, or_true, false_or, or_false, eq_self, and_self, z_up_i, Nat.add_left_cancel_iff, Nat.left_eq_add, Nat.add_eq_left, reduceCtorEq, Nat.add_one_ne_zero, z_tt, implies_true, zn_0, zn_1, zo_0, zo_1, dX2_isLike_0, dX2_isLike_1, dX2_isLike_4, dX2_isLike_5, dX2_isLike_8, dX2_isLike_11, dX2_isLike_12, dX2_isLike_13, dX2_isLike_14, dX2_isLike_15, dX2_isLike_16, dX2_isLike_17, dX2_isLike_20, dX2_isLike_23, dX2_isLike_24, dX2_isLike_25, dX2_isLike_28, dX2_isLike_29, dX2_isLike_30, dX2_isLike_33, dX2_isLike_36, dX2_isLike_37, dX2_isLike_38, dX2_isLike_41, dX2_isLike_44, dX2_isLike_45, zf_2_21, zi_0, zi_1, hob]
      refine ⟨fun _ => ?_, fun c1 => absurd (nI_le (by omega) (by omega)) c1⟩
      rw [List.take_of_length_le (by omega), List.take_of_length_le (by omega)] at ht
      exact ⟨by rw [if_pos ht], rfl⟩
    | succ n ih =>
      intro i hi ht
      refine z_run C [] 10 ?_
      simp only [z_x, z_n, z_stop, z_mem, z_ldi, z_lda, z_sto, z_s1, z_s2, z_sa, z_sv, z_br, z_bn, z_ob, z_ar, z_aq, z_al, z_rt, z_ra, z_at, z_st, z_K0i, z_K0v, zk_0, zk_1, zk_2, zk_3, z_lv, List.map_cons, List.map_nil, List.length_cons, List.length_nil, List.replicate, List.cons_append, List.nil_append, Nat.reduceAdd, Nat.reduceSub, Nat.reduceBEq, Nat.reduceEqDiff, Nat.reduceLT, Nat.reduceLeDiff, Nat.zero_add, Int.cast_ofNat_Int, Int.reduceAdd, Int.reduceNeg, Int.reduceToNat, Int.reduceLE, Int.zero_add, Int.toNat_zero, Int.add_zero, Int.add_neg_cancel_right, Fin.isValue, Int32.reduceOfInt, ↓reduceIte, Bool.false_eq_true, Bool.or_false, Bool.false_or, Bool.or_true, Bool.true_or, if_true, if_false, true_and, and_true, true_or, or_true, false_or, or_false, eq_self, and_self, z_up_i, Nat.add_left_cancel_iff, Nat.left_eq_add, Nat.add_eq_left, reduceCtorEq, Nat.add_one_ne_zero, z_tt, implies_true, zn_0, zn_1, zo_0, zo_1, dX2_isLike_0, dX2_isLike_1, dX2_isLike_4, dX2_isLike_5, dX2_isLike_8, dX2_isLike_11, dX2_isLike_12, dX2_isLike_13, dX2_isLike_14, dX2_isLike_15, dX2_isLike_16, dX2_isLike_17, dX2_isLike_20, dX2_isLike_23, dX2_isLike_24, dX2_isLike_25, dX2_isLike_28, dX2_isLike_29, dX2_isLike_30, dX2_isLike_33, dX2_isLike_36, dX2_isLike_37, dX2_isLike_38, dX2_isLike_41, dX2_isLike_44, dX2_isLike_45, zf_2_21, zi_0, zi_1, hob]
      refine ⟨fun c1 => absurd ((nI_leI (by omega) (by omega)).mp c1) (by omega), fun _ => ?_⟩
      refine z_vi C dX2_isLike_25 lk_2_28 (c_get (nI i) h) rfl h.ob (fun v M2 hv => ?_)
      obtain ⟨rfl, rfl⟩ := hv
      refine z_run C [] 3 ?_
      simp only [z_x, z_n, z_stop, z_mem, z_ldi, z_lda, z_sto, z_s1, z_s2, z_sa, z_sv, z_br, z_bn, z_ob, z_ar, z_aq, z_al, z_rt, z_ra, z_at, z_st, z_K0i, z_K0v, zk_0, zk_1, zk_2, zk_3, z_lv, List.map_cons, List.map_nil, List.length_cons, List.length_nil, List.replicate, List.cons_append, List.nil_append, Nat.reduceAdd, Nat.reduceSub, Nat.reduceBEq, Nat.reduceEqDiff, Nat.reduceLT, Nat.reduceLeDiff, Nat.zero_add, Int.cast_ofNat_Int, Int.reduceAdd, Int.reduceNeg, Int.reduceToNat, Int.reduceLE, Int.zero_add, Int.toNat_zero, Int.add_zero, Int.add_neg_cancel_right, Fin.isValue, Int32.reduceOfInt, ↓reduceIte, Bool.false_eq_true, Bool.or_false, Bool.false_or, Bool.or_true, Bool.true_or, if_true, if_false, true_and, and_true, true_or, or_true, false_or, or_false, eq_self, and_self, z_up_i, Nat.add_left_cancel_iff, Nat.left_eq_add, Nat.add_eq_left, reduceCtorEq, Nat.add_one_ne_zero, z_tt, implies_true, zn_0, zn_1, zo_0, zo_1, dX2_isLike_0, dX2_isLike_1, dX2_isLike_4, dX2_isLike_5, dX2_isLike_8, dX2_isLike_11, dX2_isLike_12, dX2_isLike_13, dX2_isLike_14, dX2_isLike_15, dX2_isLike_16, dX2_isLike_17, dX2_isLike_20, dX2_isLike_23, dX2_isLike_24, dX2_isLike_25, dX2_isLike_28, dX2_isLike_29, dX2_isLike_30, dX2_isLike_33, dX2_isLike_36, dX2_isLike_37, dX2_isLike_38, dX2_isLike_41, dX2_isLike_44, dX2_isLike_45, zf_2_21, zi_0, zi_1]
      refine z_vi C dX2_isLike_30 lk_2_28 (c_get (nI i) ho) rfl ho.ob (fun v M2 hv => ?_)
      obtain ⟨rfl, rfl⟩ := hv
      refine z_run C [15] 5 ?_
      simp only [z_x, z_n, z_stop, z_mem, z_ldi, z_lda, z_sto, z_s1, z_s2, z_sa, z_sv, z_br, z_bn, z_ob, z_ar, z_aq, z_al, z_rt, z_ra, z_at, z_st, z_K0i, z_K0v, zk_0, zk_1, zk_2, zk_3, z_lv, List.map_cons, List.map_nil, List.length_cons, List.length_nil, List.replicate, List.cons_append, List.nil_append, Nat.reduceAdd, Nat.reduceSub, Nat.reduceBEq, Nat.reduceEqDiff, Nat.reduceLT, Nat.reduceLeDiff, Nat.zero_add, Int.cast_ofNat_Int, Int.reduceAdd, Int.reduceNeg, Int.reduceToNat, Int.reduceLE, Int.zero_add, Int.toNat_zero, Int.add_zero, Int.add_neg_cancel_right, Fin.isValue, Int32.reduceOfInt, ↓reduceIte, Bool.false_eq_true, Bool.or_false, Bool.false_or, Bool.or_true, Bool.true_or, if_true, if_false, true_and, and_true, true_or, or_true, false_or, or_false, eq_self, and_self, z_up_i, Nat.add_left_cancel_iff, Nat.left_eq_add, Nat.add_eq_left, reduceCtorEq, Nat.add_one_ne_zero, z_tt, implies_true, zn_0, zn_1, zo_0, zo_1, dX2_isLike_0, dX2_isLike_1, dX2_isLike_4, dX2_isLike_5, dX2_isLike_8, dX2_isLike_11, dX2_isLike_12, dX2_isLike_13, dX2_isLike_14, dX2_isLike_15, dX2_isLike_16, dX2_isLike_17, dX2_isLike_20, dX2_isLike_23, dX2_isLike_24, dX2_isLike_25, dX2_isLike_28, dX2_isLike_29, dX2_isLike_30, dX2_isLike_33, dX2_isLike_36, dX2_isLike_37, dX2_isLike_38, dX2_isLike_41, dX2_isLike_44, dX2_isLike_45, zf_2_21, zi_0, zi_1]
      rw [z_get_nI (by omega), z_get_nI (by omega), z_ty_get (by omega), z_ty_get (by omega), nI_1]
      refine ⟨fun c1 => ?_, fun c1 => ?_⟩
      · refine ih (i + 1) (by omega) ?_
        rw [z_take1 (List.getElem?_eq_getElem (by omega)), z_take1 (List.getElem?_eq_getElem (by omega)), ht, c1]
      · refine ⟨?_, rfl⟩
        rw [if_neg]
        intro e
        subst e
        exact c1 rfl
  refine z_run C [] 4 ?_
  simp only [z_x, z_n, z_stop, z_mem, z_ldi, z_lda, z_sto, z_s1, z_s2, z_sa, z_sv, z_br, z_bn, z_ob, z_ar, z_aq, z_al, z_rt, z_ra, z_at, z_st, z_K0i, z_K0v, zk_0, zk_1, zk_2, zk_3, z_lv, List.map_cons, List.map_nil, List.length_cons, List.length_nil, List.replicate, List.cons_append, List.nil_append, Nat.reduceAdd, Nat.reduceSub, Nat.reduceBEq, Nat.reduceEqDiff, Nat.reduceLT, Nat.reduceLeDiff, Nat.zero_add, Int.cast_ofNat_Int, Int.reduceAdd, Int.reduceNeg, Int.reduceToNat, Int.reduceLE, Int.zero_add, Int.toNat_zero, Int.add_zero, Int.add_neg_cancel_right, Fin.isValue, Int32.reduceOfInt, ↓reduceIte, Bool.false_eq_true, Bool.or_false, Bool.false_or, Bool.or_true, Bool.true_or, if_true, if_false, true_and, and_true, true_or, or_true, false_or, or_false, eq_self, and_self, z_up_i, Nat.add_left_cancel_iff, Nat.left_eq_add, Nat.add_eq_left, reduceCtorEq, Nat.add_one_ne_zero, z_tt, implies_true, zn_0, zn_1, zo_0, zo_1, dX2_isLike_0, dX2_isLike_1, dX2_isLike_4, dX2_isLike_5, dX2_isLike_8, dX2_isLike_11, dX2_isLike_12, dX2_isLike_13, dX2_isLike_14, dX2_isLike_15, dX2_isLike_16, dX2_isLike_17, dX2_isLike_20, dX2_isLike_23, dX2_isLike_24, dX2_isLike_25, dX2_isLike_28, dX2_isLike_29, dX2_isLike_30, dX2_isLike_33, dX2_isLike_36, dX2_isLike_37, dX2_isLike_38, dX2_isLike_41, dX2_isLike_44, dX2_isLike_45, zf_2_21, zi_0, zi_1, hob]
  refine z_vi C dX2_isLike_5 lk_2_25 (c_size ho) rfl ho.ob (fun v M2 hv => ?_)
  obtain ⟨rfl, rfl⟩ := hv
  refine z_run C [15] 5 ?_
  simp only [z_x, z_n, z_stop, z_mem, z_ldi, z_lda, z_sto, z_s1, z_s2, z_sa, z_sv, z_br, z_bn, z_ob, z_ar, z_aq, z_al, z_rt, z_ra, z_at, z_st, z_K0i, z_K0v, zk_0, zk_1, zk_2, zk_3, z_lv, List.map_cons, List.map_nil, List.length_cons, List.length_nil, List.replicate, List.cons_append, List.nil_append, Nat.reduceAdd, Nat.reduceSub, Nat.reduceBEq, Nat.reduceEqDiff, Nat.reduceLT, Nat.reduceLeDiff, Nat.zero_add, Int.cast_ofNat_Int, Int.reduceAdd, Int.reduceNeg, Int.reduceToNat, Int.reduceLE, Int.zero_add, Int.toNat_zero, Int.add_zero, Int.add_neg_cancel_right, Fin.isValue, Int32.reduceOfInt, ↓reduceIte, Bool.false_eq_true, Bool.or_false, Bool.false_or, Bool.or_true, Bool.true_or, if_true, if_false, true_and, and_true, true_or, or_true, false_or, or_false, eq_self, and_self, z_up_i, Nat.add_left_cancel_iff, Nat.left_eq_add, Nat.add_eq_left, reduceCtorEq, Nat.add_one_ne_zero, z_tt, implies_true, zn_0, zn_1, zo_0, zo_1, dX2_isLike_0, dX2_isLike_1, dX2_isLike_4, dX2_isLike_5, dX2_isLike_8, dX2_isLike_11, dX2_isLike_12, dX2_isLike_13, dX2_isLike_14, dX2_isLike_15, dX2_isLike_16, dX2_isLike_17, dX2_isLike_20, dX2_isLike_23, dX2_isLike_24, dX2_isLike_25, dX2_isLike_28, dX2_isLike_29, dX2_isLike_30, dX2_isLike_33, dX2_isLike_36, dX2_isLike_37, dX2_isLike_38, dX2_isLike_41, dX2_isLike_44, dX2_isLike_45, zf_2_21, zi_0, zi_1]
  refine ⟨fun c1 => ?_, fun c1 => ?_⟩
  · exact loop ((nI_eq (by omega) (by omega)).mp c1) w.length 0 (by omega) (by simp)
  · refine ⟨?_, rfl⟩
    rw [if_neg]
    intro e
    subst e
    exact c1 rfl

set_option maxRecDepth 100000 in
set_option maxHeartbeats 4000000 in
theorem c_comesAgainAfter {l : Launch} {E : zE} {d : Nat} {M : zH} {r cap : Nat} {w : List Int32} (k : Nat) (hk : k ≤ w.length) (h : z_row M r cap w) : nX2_comesAgainAfter l E (d + 1) [.ref r, .int (nI k)] M (z_i fun v M' => (v = 0 ∨ v = 1) ∧ (v = 1 ↔ ∀ i, k ≤ i → i < w.length → w[i]? = w[i - k]?) ∧ M' = M) := by
  refine z_cn 2 fun P z C => ?_
  have hcap := h.le
  have hob := h.ob
  have loop : ∀ (n i : Nat), i + n = w.length → k ≤ i → (∀ j, k ≤ j → j < i → w[j]? = w[j - k]?) → P (M, z, 0, 0) 2 [some (.ref r), some (.int (nI k)), some (.int (nI i))] [] := by
    intro n
    induction n with
    | zero =>
      intro i hi hki ht
      refine z_run C [] 10 ?_
      simp only [z_x, z_n, z_stop, z_mem, z_ldi, z_lda, z_sto, z_s1, z_s2, z_sa, z_sv, z_br, z_bn, z_ob, z_ar, z_aq, z_al, z_rt, z_ra, z_at, z_st, z_K0i, z_K0v, zk_0, zk_1, zk_2, zk_3, z_lv, List.map_cons, List.map_nil, List.length_cons, List.length_nil, List.replicate, List.cons_append, List.nil_append, Nat.reduceAdd, Nat.reduceSub, Nat.reduceBEq, Nat.reduceEqDiff, Nat.reduceLT, Nat.reduceLeDiff, Nat.zero_add, Int.cast_ofNat_Int, Int.reduceAdd, Int.reduceNeg, Int.reduceToNat, Int.reduceLE, Int.zero_add, Int.toNat_zero, Int.add_zero, Int.add_neg_cancel_right, Fin.isValue, Int32.reduceOfInt, ↓reduceIte, Bool.false_eq_true, Bool.or_false, Bool.false_or, Bool.or_true, Bool.true_or, if_true, if_false, true_and, and_true, true_or, or_true, false_or, or_false, eq_self, and_self, z_up_i, Nat.add_left_cancel_iff, Nat.left_eq_add, Nat.add_eq_left, reduceCtorEq, Nat.add_one_ne_zero, z_tt, implies_true, zn_0, zn_1, zo_0, zo_1, dX2_comesAgainAfter_0, dX2_comesAgainAfter_1, dX2_comesAgainAfter_2, dX2_comesAgainAfter_3, dX2_comesAgainAfter_4, dX2_comesAgainAfter_7, dX2_comesAgainAfter_10, dX2_comesAgainAfter_11, dX2_comesAgainAfter_12, dX2_comesAgainAfter_15, dX2_comesAgainAfter_16, dX2_comesAgainAfter_17, dX2_comesAgainAfter_18, dX2_comesAgainAfter_19, dX2_comesAgainAfter_22, dX2_comesAgainAfter_25, dX2_comesAgainAfter_26, dX2_comesAgainAfter_27, dX2_comesAgainAfter_30, dX2_comesAgainAfter_33, dX2_comesAgainAfter_34, zf_2_21, zi_0, zi_1, hob]
      refine ⟨fun _ => ⟨Or.inr rfl, ⟨fun _ => ?_, fun _ => rfl⟩, rfl⟩, fun c1 => absurd (nI_le (by omega) (by omega)) c1⟩
      intro j h1 h2
      exact ht j h1 (by omega)
    | succ n ih =>
      intro i hi hki ht
      refine z_run C [] 10 ?_
      simp only [z_x, z_n, z_stop, z_mem, z_ldi, z_lda, z_sto, z_s1, z_s2, z_sa, z_sv, z_br, z_bn, z_ob, z_ar, z_aq, z_al, z_rt, z_ra, z_at, z_st, z_K0i, z_K0v, zk_0, zk_1, zk_2, zk_3, z_lv, List.map_cons, List.map_nil, List.length_cons, List.length_nil, List.replicate, List.cons_append, List.nil_append, Nat.reduceAdd, Nat.reduceSub, Nat.reduceBEq, Nat.reduceEqDiff, Nat.reduceLT, Nat.reduceLeDiff, Nat.zero_add, Int.cast_ofNat_Int, Int.reduceAdd, Int.reduceNeg, Int.reduceToNat, Int.reduceLE, Int.zero_add, Int.toNat_zero, Int.add_zero, Int.add_neg_cancel_right, Fin.isValue, Int32.reduceOfInt, ↓reduceIte, Bool.false_eq_true, Bool.or_false, Bool.false_or, Bool.or_true, Bool.true_or, if_true, if_false, true_and, and_true, true_or, or_true, false_or, or_false, eq_self, and_self, z_up_i, Nat.add_left_cancel_iff, Nat.left_eq_add, Nat.add_eq_left, reduceCtorEq, Nat.add_one_ne_zero, z_tt, implies_true, zn_0, zn_1, zo_0, zo_1, dX2_comesAgainAfter_0, dX2_comesAgainAfter_1, dX2_comesAgainAfter_2, dX2_comesAgainAfter_3, dX2_comesAgainAfter_4, dX2_comesAgainAfter_7, dX2_comesAgainAfter_10, dX2_comesAgainAfter_11, dX2_comesAgainAfter_12, dX2_comesAgainAfter_15, dX2_comesAgainAfter_16, dX2_comesAgainAfter_17, dX2_comesAgainAfter_18, dX2_comesAgainAfter_19, dX2_comesAgainAfter_22, dX2_comesAgainAfter_25, dX2_comesAgainAfter_26, dX2_comesAgainAfter_27, dX2_comesAgainAfter_30, dX2_comesAgainAfter_33, dX2_comesAgainAfter_34, zf_2_21, zi_0, zi_1, hob]
      refine ⟨fun c1 => absurd ((nI_leI (by omega) (by omega)).mp c1) (by omega), fun _ => ?_⟩
      refine z_vi C dX2_comesAgainAfter_12 lk_2_28 (c_get (nI i) h) rfl h.ob (fun v M2 hv => ?_)
      obtain ⟨rfl, rfl⟩ := hv
      refine z_run C [] 4 ?_
      simp only [z_x, z_n, z_stop, z_mem, z_ldi, z_lda, z_sto, z_s1, z_s2, z_sa, z_sv, z_br, z_bn, z_ob, z_ar, z_aq, z_al, z_rt, z_ra, z_at, z_st, z_K0i, z_K0v, zk_0, zk_1, zk_2, zk_3, z_lv, List.map_cons, List.map_nil, List.length_cons, List.length_nil, List.replicate, List.cons_append, List.nil_append, Nat.reduceAdd, Nat.reduceSub, Nat.reduceBEq, Nat.reduceEqDiff, Nat.reduceLT, Nat.reduceLeDiff, Nat.zero_add, Int.cast_ofNat_Int, Int.reduceAdd, Int.reduceNeg, Int.reduceToNat, Int.reduceLE, Int.zero_add, Int.toNat_zero, Int.add_zero, Int.add_neg_cancel_right, Fin.isValue, Int32.reduceOfInt, ↓reduceIte, Bool.false_eq_true, Bool.or_false, Bool.false_or, Bool.or_true, Bool.true_or, if_true, if_false, true_and, and_true, true_or, or_true, false_or, or_false, eq_self, and_self, z_up_i, Nat.add_left_cancel_iff, Nat.left_eq_add, Nat.add_eq_left, reduceCtorEq, Nat.add_one_ne_zero, z_tt, implies_true, zn_0, zn_1, zo_0, zo_1, dX2_comesAgainAfter_0, dX2_comesAgainAfter_1, dX2_comesAgainAfter_2, dX2_comesAgainAfter_3, dX2_comesAgainAfter_4, dX2_comesAgainAfter_7, dX2_comesAgainAfter_10, dX2_comesAgainAfter_11, dX2_comesAgainAfter_12, dX2_comesAgainAfter_15, dX2_comesAgainAfter_16, dX2_comesAgainAfter_17, dX2_comesAgainAfter_18, dX2_comesAgainAfter_19, dX2_comesAgainAfter_22, dX2_comesAgainAfter_25, dX2_comesAgainAfter_26, dX2_comesAgainAfter_27, dX2_comesAgainAfter_30, dX2_comesAgainAfter_33, dX2_comesAgainAfter_34, zf_2_21, zi_0, zi_1]
      rw [pk_sub hki]
      refine z_vi C dX2_comesAgainAfter_19 lk_2_28 (c_get (nI (i - k)) h) rfl h.ob (fun v M2 hv => ?_)
      obtain ⟨rfl, rfl⟩ := hv
      refine z_run C [2] 5 ?_
      simp only [z_x, z_n, z_stop, z_mem, z_ldi, z_lda, z_sto, z_s1, z_s2, z_sa, z_sv, z_br, z_bn, z_ob, z_ar, z_aq, z_al, z_rt, z_ra, z_at, z_st, z_K0i, z_K0v, zk_0, zk_1, zk_2, zk_3, z_lv, List.map_cons, List.map_nil, List.length_cons, List.length_nil, List.replicate, List.cons_append, List.nil_append, Nat.reduceAdd, Nat.reduceSub, Nat.reduceBEq, Nat.reduceEqDiff, Nat.reduceLT, Nat.reduceLeDiff, Nat.zero_add, Int.cast_ofNat_Int, Int.reduceAdd, Int.reduceNeg, Int.reduceToNat, Int.reduceLE, Int.zero_add, Int.toNat_zero, Int.add_zero, Int.add_neg_cancel_right, Fin.isValue, Int32.reduceOfInt, ↓reduceIte, Bool.false_eq_true, Bool.or_false, Bool.false_or, Bool.or_true, Bool.true_or, if_true, if_false, true_and, and_true, true_or, or_true, false_or, or_false, eq_self, and_self, z_up_i, Nat.add_left_cancel_iff, Nat.left_eq_add, Nat.add_eq_left, reduceCtorEq, Nat.add_one_ne_zero, z_tt, implies_true, zn_0, zn_1, zo_0, zo_1, dX2_comesAgainAfter_0, dX2_comesAgainAfter_1, dX2_comesAgainAfter_2, dX2_comesAgainAfter_3, dX2_comesAgainAfter_4, dX2_comesAgainAfter_7, dX2_comesAgainAfter_10, dX2_comesAgainAfter_11, dX2_comesAgainAfter_12, dX2_comesAgainAfter_15, dX2_comesAgainAfter_16, dX2_comesAgainAfter_17, dX2_comesAgainAfter_18, dX2_comesAgainAfter_19, dX2_comesAgainAfter_22, dX2_comesAgainAfter_25, dX2_comesAgainAfter_26, dX2_comesAgainAfter_27, dX2_comesAgainAfter_30, dX2_comesAgainAfter_33, dX2_comesAgainAfter_34, zf_2_21, zi_0, zi_1]
      rw [z_get_nI (by omega), z_get_nI (by omega), z_ty_get (by omega), z_ty_get (by omega), nI_1]
      refine ⟨fun c1 => ?_, fun c1 => ?_⟩
      · refine ih (i + 1) (by omega) (by omega) (fun j h1 h2 => ?_)
        by_cases hji : j = i
        · subst hji
          rw [List.getElem?_eq_getElem (by omega), List.getElem?_eq_getElem (by omega), c1]
        · exact ht j h1 (by omega)
      · refine ⟨Or.inl rfl, ⟨fun hc => absurd hc (by decide), fun hh => ?_⟩, rfl⟩
        have h7 := hh i hki (by omega)
        rw [List.getElem?_eq_getElem (by omega), List.getElem?_eq_getElem (by omega)] at h7
        exact absurd (Option.some.inj h7) c1
  refine z_run C [2] 3 ?_
  simp only [z_x, z_n, z_stop, z_mem, z_ldi, z_lda, z_sto, z_s1, z_s2, z_sa, z_sv, z_br, z_bn, z_ob, z_ar, z_aq, z_al, z_rt, z_ra, z_at, z_st, z_K0i, z_K0v, zk_0, zk_1, zk_2, zk_3, z_lv, List.map_cons, List.map_nil, List.length_cons, List.length_nil, List.replicate, List.cons_append, List.nil_append, Nat.reduceAdd, Nat.reduceSub, Nat.reduceBEq, Nat.reduceEqDiff, Nat.reduceLT, Nat.reduceLeDiff, Nat.zero_add, Int.cast_ofNat_Int, Int.reduceAdd, Int.reduceNeg, Int.reduceToNat, Int.reduceLE, Int.zero_add, Int.toNat_zero, Int.add_zero, Int.add_neg_cancel_right, Fin.isValue, Int32.reduceOfInt, ↓reduceIte, Bool.false_eq_true, Bool.or_false, Bool.false_or, Bool.or_true, Bool.true_or, if_true, if_false, true_and, and_true, true_or, or_true, false_or, or_false, eq_self, and_self, z_up_i, Nat.add_left_cancel_iff, Nat.left_eq_add, Nat.add_eq_left, reduceCtorEq, Nat.add_one_ne_zero, z_tt, implies_true, zn_0, zn_1, zo_0, zo_1, dX2_comesAgainAfter_0, dX2_comesAgainAfter_1, dX2_comesAgainAfter_2, dX2_comesAgainAfter_3, dX2_comesAgainAfter_4, dX2_comesAgainAfter_7, dX2_comesAgainAfter_10, dX2_comesAgainAfter_11, dX2_comesAgainAfter_12, dX2_comesAgainAfter_15, dX2_comesAgainAfter_16, dX2_comesAgainAfter_17, dX2_comesAgainAfter_18, dX2_comesAgainAfter_19, dX2_comesAgainAfter_22, dX2_comesAgainAfter_25, dX2_comesAgainAfter_26, dX2_comesAgainAfter_27, dX2_comesAgainAfter_30, dX2_comesAgainAfter_33, dX2_comesAgainAfter_34, zf_2_21, zi_0, zi_1]
  exact loop (w.length - k) k (by omega) (by omega) (fun j h1 h2 => by omega)
end
section
/-! THE CLASS'S SMALL FUNCTIONS, of numbers from 0 on -/
theorem z_d3 {s : Nat} (h : s < 2 ^ 31) : nI s / 3 = nI (s / 3) := pk_div (d := 3) h (by omega) (by omega)
theorem z_m3 {s : Nat} (h : s < 2 ^ 31) : nI s - nI s / 3 * 3 = nI (s % 3) := pk_rem (d := 3) h (by omega) (by omega)
theorem z_d10 {s : Nat} (h : s < 2 ^ 31) : nI s / 10 = nI (s / 10) := pk_div (d := 10) h (by omega) (by omega)
theorem z_m10 {s : Nat} (h : s < 2 ^ 31) : nI s - nI s / 10 * 10 = nI (s % 10) := pk_rem (d := 10) h (by omega) (by omega)
theorem z_eqn {a : Nat} (b : Nat) (ha : a < 2 ^ 31) (hb : b < 2 ^ 31) : nI a = nI b ↔ a = b := nI_eq ha hb
theorem z_getN {w : List Nat} {i : Nat} (h : i < w.length) (hl : w.length < 2 ^ 31) : z_get (w.map nI) (nI i) = nI (w.getD i 0) := by
  rw [z_get_nI (by omega)]
  simp [h]
def m_opp (s : Nat) : Nat := if s / 3 = 4 then s else 3 * (s / 3 ^^^ 1) + s % 3
def m_chg (s : Nat) : Nat := if s / 3 = 4 then 0 else if s / 3 = 2 ∨ s / 3 = 3 then 2 else 1
def m_letc (s c : Nat) : Nat := 10 * (2 * (s % 3) + (if s / 3 = 2 ∨ s / 3 = 3 then 2 * c else 1)) + (if s / 3 = 1 ∨ s / 3 = 2 then 1 else 0)
def m_let (s : Nat) : List Nat := (List.range (m_chg s)).map (m_letc s)
set_option maxRecDepth 100000 in
set_option maxHeartbeats 4000000 in
theorem c_stepOf {l : Launch} {E : zE} {d : Nat} {M : zH} (a b : Nat) : nX5_stepOf l E d [.int (nI a), .int (nI b)] M (z_i fun v M' => v = nI (3 * a + b) ∧ M' = M) := by
  refine z_cn 5 fun P z C => ?_
  refine z_run C [] 8 ?_
  simp only [z_x, z_n, z_stop, z_mem, z_ldi, z_lda, z_sto, z_s1, z_s2, z_sa, z_sv, z_br, z_bn, z_ob, z_ar, z_aq, z_al, z_rt, z_ra, z_at, z_st, z_K0i, z_K0v, zk_0, zk_1, zk_2, zk_3, z_lv, List.map_cons, List.map_nil, List.length_cons, List.length_nil, List.replicate, List.cons_append, List.nil_append, Nat.reduceAdd, Nat.reduceSub, Nat.reduceBEq, Nat.reduceEqDiff, Nat.reduceLT, Nat.reduceLeDiff, Nat.zero_add, Int.cast_ofNat_Int, Int.reduceAdd, Int.reduceNeg, Int.reduceToNat, Int.reduceLE, Int.zero_add, Int.toNat_zero, Int.add_zero, Int.add_neg_cancel_right, Fin.isValue, Int32.reduceOfInt, ↓reduceIte, Bool.false_eq_true, Bool.or_false, Bool.false_or, Bool.or_true, Bool.true_or, if_true, if_false, true_and, and_true, true_or, or_true, false_or, or_false, eq_self, and_self, z_up_i, Nat.add_left_cancel_iff, Nat.left_eq_add, Nat.add_eq_left, reduceCtorEq, Nat.add_one_ne_zero, z_tt, implies_true, zn_0, zn_1, zo_0, zo_1, dX5_stepOf_0, dX5_stepOf_1, dX5_stepOf_2, dX5_stepOf_3, dX5_stepOf_4, dX5_stepOf_5, zi_3]
  exact ⟨by rw [show (3 : Int32) = nI 3 from rfl, pk_mul, nI_add], rfl⟩
set_option maxRecDepth 100000 in
set_option maxHeartbeats 4000000 in
theorem c_kindOf {l : Launch} {E : zE} {d : Nat} {M : zH} (s : Nat) (hs : s < 2 ^ 31) : nX5_kindOf l E d [.int (nI s)] M (z_i fun v M' => v = nI (s / 3) ∧ M' = M) := by
  refine z_cn 5 fun P z C => ?_
  refine z_run C [] 8 ?_
  simp only [z_x, z_n, z_stop, z_mem, z_ldi, z_lda, z_sto, z_s1, z_s2, z_sa, z_sv, z_br, z_bn, z_ob, z_ar, z_aq, z_al, z_rt, z_ra, z_at, z_st, z_K0i, z_K0v, zk_0, zk_1, zk_2, zk_3, z_lv, List.map_cons, List.map_nil, List.length_cons, List.length_nil, List.replicate, List.cons_append, List.nil_append, Nat.reduceAdd, Nat.reduceSub, Nat.reduceBEq, Nat.reduceEqDiff, Nat.reduceLT, Nat.reduceLeDiff, Nat.zero_add, Int.cast_ofNat_Int, Int.reduceAdd, Int.reduceNeg, Int.reduceToNat, Int.reduceLE, Int.zero_add, Int.toNat_zero, Int.add_zero, Int.add_neg_cancel_right, Fin.isValue, Int32.reduceOfInt, ↓reduceIte, Bool.false_eq_true, Bool.or_false, Bool.false_or, Bool.or_true, Bool.true_or, if_true, if_false, true_and, and_true, true_or, or_true, false_or, or_false, eq_self, and_self, z_up_i, Nat.add_left_cancel_iff, Nat.left_eq_add, Nat.add_eq_left, reduceCtorEq, Nat.add_one_ne_zero, z_tt, implies_true, zn_0, zn_1, zo_0, zo_1, dX5_kindOf_0, dX5_kindOf_1, dX5_kindOf_2, dX5_kindOf_3, zi_3]
  exact ⟨by decide, z_d3 hs, rfl⟩
set_option maxRecDepth 100000 in
set_option maxHeartbeats 4000000 in
theorem c_spotOf {l : Launch} {E : zE} {d : Nat} {M : zH} (s : Nat) (hs : s < 2 ^ 31) : nX5_spotOf l E d [.int (nI s)] M (z_i fun v M' => v = nI (s % 3) ∧ M' = M) := by
  refine z_cn 5 fun P z C => ?_
  refine z_run C [] 8 ?_
  simp only [z_x, z_n, z_stop, z_mem, z_ldi, z_lda, z_sto, z_s1, z_s2, z_sa, z_sv, z_br, z_bn, z_ob, z_ar, z_aq, z_al, z_rt, z_ra, z_at, z_st, z_K0i, z_K0v, zk_0, zk_1, zk_2, zk_3, z_lv, List.map_cons, List.map_nil, List.length_cons, List.length_nil, List.replicate, List.cons_append, List.nil_append, Nat.reduceAdd, Nat.reduceSub, Nat.reduceBEq, Nat.reduceEqDiff, Nat.reduceLT, Nat.reduceLeDiff, Nat.zero_add, Int.cast_ofNat_Int, Int.reduceAdd, Int.reduceNeg, Int.reduceToNat, Int.reduceLE, Int.zero_add, Int.toNat_zero, Int.add_zero, Int.add_neg_cancel_right, Fin.isValue, Int32.reduceOfInt, ↓reduceIte, Bool.false_eq_true, Bool.or_false, Bool.false_or, Bool.or_true, Bool.true_or, if_true, if_false, true_and, and_true, true_or, or_true, false_or, or_false, eq_self, and_self, z_up_i, Nat.add_left_cancel_iff, Nat.left_eq_add, Nat.add_eq_left, reduceCtorEq, Nat.add_one_ne_zero, z_tt, implies_true, zn_0, zn_1, zo_0, zo_1, dX5_spotOf_0, dX5_spotOf_1, dX5_spotOf_2, dX5_spotOf_3, zi_3]
  exact ⟨by decide, z_m3 hs, rfl⟩
set_option maxRecDepth 100000 in
set_option maxHeartbeats 4000000 in
theorem c_placeOf {l : Launch} {E : zE} {d : Nat} {M : zH} (s : Nat) (hs : s < 2 ^ 31) : nX5_placeOf l E d [.int (nI s)] M (z_i fun v M' => v = nI (s / 10) ∧ M' = M) := by
  refine z_cn 5 fun P z C => ?_
  refine z_run C [] 8 ?_
  simp only [z_x, z_n, z_stop, z_mem, z_ldi, z_lda, z_sto, z_s1, z_s2, z_sa, z_sv, z_br, z_bn, z_ob, z_ar, z_aq, z_al, z_rt, z_ra, z_at, z_st, z_K0i, z_K0v, zk_0, zk_1, zk_2, zk_3, z_lv, List.map_cons, List.map_nil, List.length_cons, List.length_nil, List.replicate, List.cons_append, List.nil_append, Nat.reduceAdd, Nat.reduceSub, Nat.reduceBEq, Nat.reduceEqDiff, Nat.reduceLT, Nat.reduceLeDiff, Nat.zero_add, Int.cast_ofNat_Int, Int.reduceAdd, Int.reduceNeg, Int.reduceToNat, Int.reduceLE, Int.zero_add, Int.toNat_zero, Int.add_zero, Int.add_neg_cancel_right, Fin.isValue, Int32.reduceOfInt, ↓reduceIte, Bool.false_eq_true, Bool.or_false, Bool.false_or, Bool.or_true, Bool.true_or, if_true, if_false, true_and, and_true, true_or, or_true, false_or, or_false, eq_self, and_self, z_up_i, Nat.add_left_cancel_iff, Nat.left_eq_add, Nat.add_eq_left, reduceCtorEq, Nat.add_one_ne_zero, z_tt, implies_true, zn_0, zn_1, zo_0, zo_1, dX5_placeOf_0, dX5_placeOf_1, dX5_placeOf_3, dX5_placeOf_4, zb_10]
  exact ⟨by decide, z_d10 hs, rfl⟩
set_option maxRecDepth 100000 in
set_option maxHeartbeats 4000000 in
theorem c_isRightOver {l : Launch} {E : zE} {d : Nat} {M : zH} (s : Nat) (hs : s < 2 ^ 31) : nX5_isRightOver l E d [.int (nI s)] M (z_i fun v M' => v = (if s % 10 = 1 then 1 else 0) ∧ M' = M) := by
  refine z_cn 5 fun P z C => ?_
  refine z_run C [] 12 ?_
  simp only [z_x, z_n, z_stop, z_mem, z_ldi, z_lda, z_sto, z_s1, z_s2, z_sa, z_sv, z_br, z_bn, z_ob, z_ar, z_aq, z_al, z_rt, z_ra, z_at, z_st, z_K0i, z_K0v, zk_0, zk_1, zk_2, zk_3, z_lv, List.map_cons, List.map_nil, List.length_cons, List.length_nil, List.replicate, List.cons_append, List.nil_append, Nat.reduceAdd, Nat.reduceSub, Nat.reduceBEq, Nat.reduceEqDiff, Nat.reduceLT, Nat.reduceLeDiff, Nat.zero_add, Int.cast_ofNat_Int, Int.reduceAdd, Int.reduceNeg, Int.reduceToNat, Int.reduceLE, Int.zero_add, Int.toNat_zero, Int.add_zero, Int.add_neg_cancel_right, Fin.isValue, Int32.reduceOfInt, ↓reduceIte, Bool.false_eq_true, Bool.or_false, Bool.false_or, Bool.or_true, Bool.true_or, if_true, if_false, true_and, and_true, true_or, or_true, false_or, or_false, eq_self, and_self, z_up_i, Nat.add_left_cancel_iff, Nat.left_eq_add, Nat.add_eq_left, reduceCtorEq, Nat.add_one_ne_zero, z_tt, implies_true, zn_0, zn_1, zo_0, zo_1, dX5_isRightOver_0, dX5_isRightOver_1, dX5_isRightOver_3, dX5_isRightOver_4, dX5_isRightOver_5, dX5_isRightOver_8, dX5_isRightOver_9, dX5_isRightOver_12, dX5_isRightOver_13, zb_10, zi_0, zi_1]
  rw [z_m10 hs]
  have e : (nI (s % 10) = 1) = (s % 10 = 1) := propext (z_eqn 1 (by omega) (by omega))
  rw [e]
  exact ⟨by decide, fun c1 => ⟨by rw [if_pos c1], rfl⟩, fun c1 => ⟨by rw [if_neg c1], rfl⟩⟩
set_option maxRecDepth 100000 in
set_option maxHeartbeats 4000000 in
theorem c_opposite {l : Launch} {E : zE} {d : Nat} {M : zH} (s : Nat) (hs : s < 15) : nX5_opposite l E (d + 1) [.int (nI s)] M (z_i fun v M' => v = nI (m_opp s) ∧ M' = M) := by
  refine z_cn 5 fun P z C => ?_
  refine z_run C [] 3 ?_
  simp only [z_x, z_n, z_stop, z_mem, z_ldi, z_lda, z_sto, z_s1, z_s2, z_sa, z_sv, z_br, z_bn, z_ob, z_ar, z_aq, z_al, z_rt, z_ra, z_at, z_st, z_K0i, z_K0v, zk_0, zk_1, zk_2, zk_3, z_lv, List.map_cons, List.map_nil, List.length_cons, List.length_nil, List.replicate, List.cons_append, List.nil_append, Nat.reduceAdd, Nat.reduceSub, Nat.reduceBEq, Nat.reduceEqDiff, Nat.reduceLT, Nat.reduceLeDiff, Nat.zero_add, Int.cast_ofNat_Int, Int.reduceAdd, Int.reduceNeg, Int.reduceToNat, Int.reduceLE, Int.zero_add, Int.toNat_zero, Int.add_zero, Int.add_neg_cancel_right, Fin.isValue, Int32.reduceOfInt, ↓reduceIte, Bool.false_eq_true, Bool.or_false, Bool.false_or, Bool.or_true, Bool.true_or, if_true, if_false, true_and, and_true, true_or, or_true, false_or, or_false, eq_self, and_self, z_up_i, Nat.add_left_cancel_iff, Nat.left_eq_add, Nat.add_eq_left, reduceCtorEq, Nat.add_one_ne_zero, z_tt, implies_true, zn_0, zn_1, zo_0, zo_1, dX5_opposite_0, dX5_opposite_1, dX5_opposite_4, dX5_opposite_5, dX5_opposite_6, dX5_opposite_7, dX5_opposite_10, dX5_opposite_11, dX5_opposite_14, dX5_opposite_15, dX5_opposite_16, dX5_opposite_17, dX5_opposite_18, dX5_opposite_21, dX5_opposite_24, zi_1, zi_4]
  refine z_si C dX5_opposite_1 lk_5_113 (c_kindOf s (by omega)) rfl (fun v M2 hv => ?_)
  obtain ⟨rfl, rfl⟩ := hv
  refine z_run C [] 12 ?_
  simp only [z_x, z_n, z_stop, z_mem, z_ldi, z_lda, z_sto, z_s1, z_s2, z_sa, z_sv, z_br, z_bn, z_ob, z_ar, z_aq, z_al, z_rt, z_ra, z_at, z_st, z_K0i, z_K0v, zk_0, zk_1, zk_2, zk_3, z_lv, List.map_cons, List.map_nil, List.length_cons, List.length_nil, List.replicate, List.cons_append, List.nil_append, Nat.reduceAdd, Nat.reduceSub, Nat.reduceBEq, Nat.reduceEqDiff, Nat.reduceLT, Nat.reduceLeDiff, Nat.zero_add, Int.cast_ofNat_Int, Int.reduceAdd, Int.reduceNeg, Int.reduceToNat, Int.reduceLE, Int.zero_add, Int.toNat_zero, Int.add_zero, Int.add_neg_cancel_right, Fin.isValue, Int32.reduceOfInt, ↓reduceIte, Bool.false_eq_true, Bool.or_false, Bool.false_or, Bool.or_true, Bool.true_or, if_true, if_false, true_and, and_true, true_or, or_true, false_or, or_false, eq_self, and_self, z_up_i, Nat.add_left_cancel_iff, Nat.left_eq_add, Nat.add_eq_left, reduceCtorEq, Nat.add_one_ne_zero, z_tt, implies_true, zn_0, zn_1, zo_0, zo_1, dX5_opposite_0, dX5_opposite_1, dX5_opposite_4, dX5_opposite_5, dX5_opposite_6, dX5_opposite_7, dX5_opposite_10, dX5_opposite_11, dX5_opposite_14, dX5_opposite_15, dX5_opposite_16, dX5_opposite_17, dX5_opposite_18, dX5_opposite_21, dX5_opposite_24, zi_1, zi_4]
  have e : (nI (s / 3) = 4) = (s / 3 = 4) := propext (z_eqn 4 (by omega) (by omega))
  rw [e]
  refine ⟨fun c1 => ⟨by rw [m_opp, if_pos c1], rfl⟩, fun c1 => ?_⟩
  have h4 : ∀ k, k < 4 → nI k ^^^ 1 = nI (k ^^^ 1) := by decide
  rw [h4 _ (by omega)]
  refine z_si C dX5_opposite_18 lk_5_116 (c_spotOf s (by omega)) rfl (fun v M2 hv => ?_)
  obtain ⟨rfl, rfl⟩ := hv
  refine z_si C dX5_opposite_21 lk_5_175 (c_stepOf _ _) rfl (fun v M2 hv => ?_)
  obtain ⟨rfl, rfl⟩ := hv
  refine z_run C [] 3 ?_
  simp only [z_x, z_n, z_stop, z_mem, z_ldi, z_lda, z_sto, z_s1, z_s2, z_sa, z_sv, z_br, z_bn, z_ob, z_ar, z_aq, z_al, z_rt, z_ra, z_at, z_st, z_K0i, z_K0v, zk_0, zk_1, zk_2, zk_3, z_lv, List.map_cons, List.map_nil, List.length_cons, List.length_nil, List.replicate, List.cons_append, List.nil_append, Nat.reduceAdd, Nat.reduceSub, Nat.reduceBEq, Nat.reduceEqDiff, Nat.reduceLT, Nat.reduceLeDiff, Nat.zero_add, Int.cast_ofNat_Int, Int.reduceAdd, Int.reduceNeg, Int.reduceToNat, Int.reduceLE, Int.zero_add, Int.toNat_zero, Int.add_zero, Int.add_neg_cancel_right, Fin.isValue, Int32.reduceOfInt, ↓reduceIte, Bool.false_eq_true, Bool.or_false, Bool.false_or, Bool.or_true, Bool.true_or, if_true, if_false, true_and, and_true, true_or, or_true, false_or, or_false, eq_self, and_self, z_up_i, Nat.add_left_cancel_iff, Nat.left_eq_add, Nat.add_eq_left, reduceCtorEq, Nat.add_one_ne_zero, z_tt, implies_true, zn_0, zn_1, zo_0, zo_1, dX5_opposite_0, dX5_opposite_1, dX5_opposite_4, dX5_opposite_5, dX5_opposite_6, dX5_opposite_7, dX5_opposite_10, dX5_opposite_11, dX5_opposite_14, dX5_opposite_15, dX5_opposite_16, dX5_opposite_17, dX5_opposite_18, dX5_opposite_21, dX5_opposite_24, zi_1, zi_4]
  exact ⟨by rw [m_opp, if_neg c1], rfl⟩
set_option maxRecDepth 100000 in
set_option maxHeartbeats 4000000 in
theorem c_changesIn {l : Launch} {E : zE} {d : Nat} {M : zH} (s : Nat) (hs : s < 2 ^ 31) : nX5_changesIn l E (d + 1) [.int (nI s)] M (z_i fun v M' => v = nI (m_chg s) ∧ M' = M) := by
  refine z_cn 5 fun P z C => ?_
  refine z_run C [] 3 ?_
  simp only [z_x, z_n, z_stop, z_mem, z_ldi, z_lda, z_sto, z_s1, z_s2, z_sa, z_sv, z_br, z_bn, z_ob, z_ar, z_aq, z_al, z_rt, z_ra, z_at, z_st, z_K0i, z_K0v, zk_0, zk_1, zk_2, zk_3, z_lv, List.map_cons, List.map_nil, List.length_cons, List.length_nil, List.replicate, List.cons_append, List.nil_append, Nat.reduceAdd, Nat.reduceSub, Nat.reduceBEq, Nat.reduceEqDiff, Nat.reduceLT, Nat.reduceLeDiff, Nat.zero_add, Int.cast_ofNat_Int, Int.reduceAdd, Int.reduceNeg, Int.reduceToNat, Int.reduceLE, Int.zero_add, Int.toNat_zero, Int.add_zero, Int.add_neg_cancel_right, Fin.isValue, Int32.reduceOfInt, ↓reduceIte, Bool.false_eq_true, Bool.or_false, Bool.false_or, Bool.or_true, Bool.true_or, if_true, if_false, true_and, and_true, true_or, or_true, false_or, or_false, eq_self, and_self, z_up_i, Nat.add_left_cancel_iff, Nat.left_eq_add, Nat.add_eq_left, reduceCtorEq, Nat.add_one_ne_zero, z_tt, implies_true, zn_0, zn_1, zo_0, zo_1, dX5_changesIn_0, dX5_changesIn_1, dX5_changesIn_4, dX5_changesIn_5, dX5_changesIn_6, dX5_changesIn_7, dX5_changesIn_10, dX5_changesIn_11, dX5_changesIn_12, dX5_changesIn_13, dX5_changesIn_14, dX5_changesIn_17, dX5_changesIn_18, dX5_changesIn_19, dX5_changesIn_22, dX5_changesIn_23, dX5_changesIn_26, dX5_changesIn_27, zi_0, zi_1, zi_2, zi_3, zi_4]
  refine z_si C dX5_changesIn_1 lk_5_113 (c_kindOf s (by omega)) rfl (fun v M2 hv => ?_)
  obtain ⟨rfl, rfl⟩ := hv
  refine z_run C [] 16 ?_
  simp only [z_x, z_n, z_stop, z_mem, z_ldi, z_lda, z_sto, z_s1, z_s2, z_sa, z_sv, z_br, z_bn, z_ob, z_ar, z_aq, z_al, z_rt, z_ra, z_at, z_st, z_K0i, z_K0v, zk_0, zk_1, zk_2, zk_3, z_lv, List.map_cons, List.map_nil, List.length_cons, List.length_nil, List.replicate, List.cons_append, List.nil_append, Nat.reduceAdd, Nat.reduceSub, Nat.reduceBEq, Nat.reduceEqDiff, Nat.reduceLT, Nat.reduceLeDiff, Nat.zero_add, Int.cast_ofNat_Int, Int.reduceAdd, Int.reduceNeg, Int.reduceToNat, Int.reduceLE, Int.zero_add, Int.toNat_zero, Int.add_zero, Int.add_neg_cancel_right, Fin.isValue, Int32.reduceOfInt, ↓reduceIte, Bool.false_eq_true, Bool.or_false, Bool.false_or, Bool.or_true, Bool.true_or, if_true, if_false, true_and, and_true, true_or, or_true, false_or, or_false, eq_self, and_self, z_up_i, Nat.add_left_cancel_iff, Nat.left_eq_add, Nat.add_eq_left, reduceCtorEq, Nat.add_one_ne_zero, z_tt, implies_true, zn_0, zn_1, zo_0, zo_1, dX5_changesIn_0, dX5_changesIn_1, dX5_changesIn_4, dX5_changesIn_5, dX5_changesIn_6, dX5_changesIn_7, dX5_changesIn_10, dX5_changesIn_11, dX5_changesIn_12, dX5_changesIn_13, dX5_changesIn_14, dX5_changesIn_17, dX5_changesIn_18, dX5_changesIn_19, dX5_changesIn_22, dX5_changesIn_23, dX5_changesIn_26, dX5_changesIn_27, zi_0, zi_1, zi_2, zi_3, zi_4]
  rw [show (nI (s / 3) = 4) = (s / 3 = 4) from propext (z_eqn 4 (by omega) (by omega)), show (nI (s / 3) = 2) = (s / 3 = 2) from propext (z_eqn 2 (by omega) (by omega)), show (nI (s / 3) = 3) = (s / 3 = 3) from propext (z_eqn 3 (by omega) (by omega))]
  refine ⟨fun c1 => ⟨by simp [m_chg, c1, nI_0], rfl⟩, fun c1 => ⟨fun c2 => ⟨by simp [m_chg, c2]; rfl, rfl⟩, fun c2 => ⟨fun c3 => ⟨by simp [m_chg, c3]; rfl, rfl⟩, fun c3 => ⟨by simp [m_chg, c1, c2, c3]; rfl, rfl⟩⟩⟩⟩
set_option maxRecDepth 100000 in
set_option maxHeartbeats 4000000 in
theorem c_letterOf {l : Launch} {E : zE} {d : Nat} {M : zH} (s c : Nat) (hs : s < 2 ^ 31) : nX5_letterOf l E (d + 1) [.int (nI s), .int (nI c)] M (z_i fun v M' => v = nI (m_letc s c) ∧ M' = M) := by
  refine z_cn 5 fun P z C => ?_
  refine z_run C [] 3 ?_
  simp only [z_x, z_n, z_stop, z_mem, z_ldi, z_lda, z_sto, z_s1, z_s2, z_sa, z_sv, z_br, z_bn, z_ob, z_ar, z_aq, z_al, z_rt, z_ra, z_at, z_st, z_K0i, z_K0v, zk_0, zk_1, zk_2, zk_3, z_lv, List.map_cons, List.map_nil, List.length_cons, List.length_nil, List.replicate, List.cons_append, List.nil_append, Nat.reduceAdd, Nat.reduceSub, Nat.reduceBEq, Nat.reduceEqDiff, Nat.reduceLT, Nat.reduceLeDiff, Nat.zero_add, Int.cast_ofNat_Int, Int.reduceAdd, Int.reduceNeg, Int.reduceToNat, Int.reduceLE, Int.zero_add, Int.toNat_zero, Int.add_zero, Int.add_neg_cancel_right, Fin.isValue, Int32.reduceOfInt, ↓reduceIte, Bool.false_eq_true, Bool.or_false, Bool.false_or, Bool.or_true, Bool.true_or, if_true, if_false, true_and, and_true, true_or, or_true, false_or, or_false, eq_self, and_self, z_up_i, Nat.add_left_cancel_iff, Nat.left_eq_add, Nat.add_eq_left, reduceCtorEq, Nat.add_one_ne_zero, z_tt, implies_true, zn_0, zn_1, zo_0, zo_1, dX5_letterOf_0, dX5_letterOf_1, dX5_letterOf_4, dX5_letterOf_5, dX5_letterOf_6, dX5_letterOf_7, dX5_letterOf_10, dX5_letterOf_11, dX5_letterOf_12, dX5_letterOf_15, dX5_letterOf_16, dX5_letterOf_19, dX5_letterOf_20, dX5_letterOf_21, dX5_letterOf_22, dX5_letterOf_23, dX5_letterOf_26, dX5_letterOf_27, dX5_letterOf_28, dX5_letterOf_31, dX5_letterOf_32, dX5_letterOf_33, dX5_letterOf_34, dX5_letterOf_37, dX5_letterOf_38, dX5_letterOf_39, dX5_letterOf_41, dX5_letterOf_43, dX5_letterOf_45, dX5_letterOf_46, dX5_letterOf_47, dX5_letterOf_48, dX5_letterOf_51, dX5_letterOf_52, dX5_letterOf_53, dX5_letterOf_56, dX5_letterOf_57, dX5_letterOf_60, dX5_letterOf_61, dX5_letterOf_62, zb_10, zi_0, zi_1, zi_2, zi_3]
  refine z_si C dX5_letterOf_1 lk_5_113 (c_kindOf s (by omega)) rfl (fun v M2 hv => ?_)
  obtain ⟨rfl, rfl⟩ := hv
  refine z_run C [] 16 ?_
  simp only [z_x, z_n, z_stop, z_mem, z_ldi, z_lda, z_sto, z_s1, z_s2, z_sa, z_sv, z_br, z_bn, z_ob, z_ar, z_aq, z_al, z_rt, z_ra, z_at, z_st, z_K0i, z_K0v, zk_0, zk_1, zk_2, zk_3, z_lv, List.map_cons, List.map_nil, List.length_cons, List.length_nil, List.replicate, List.cons_append, List.nil_append, Nat.reduceAdd, Nat.reduceSub, Nat.reduceBEq, Nat.reduceEqDiff, Nat.reduceLT, Nat.reduceLeDiff, Nat.zero_add, Int.cast_ofNat_Int, Int.reduceAdd, Int.reduceNeg, Int.reduceToNat, Int.reduceLE, Int.zero_add, Int.toNat_zero, Int.add_zero, Int.add_neg_cancel_right, Fin.isValue, Int32.reduceOfInt, ↓reduceIte, Bool.false_eq_true, Bool.or_false, Bool.false_or, Bool.or_true, Bool.true_or, if_true, if_false, true_and, and_true, true_or, or_true, false_or, or_false, eq_self, and_self, z_up_i, Nat.add_left_cancel_iff, Nat.left_eq_add, Nat.add_eq_left, reduceCtorEq, Nat.add_one_ne_zero, z_tt, implies_true, zn_0, zn_1, zo_0, zo_1, dX5_letterOf_0, dX5_letterOf_1, dX5_letterOf_4, dX5_letterOf_5, dX5_letterOf_6, dX5_letterOf_7, dX5_letterOf_10, dX5_letterOf_11, dX5_letterOf_12, dX5_letterOf_15, dX5_letterOf_16, dX5_letterOf_19, dX5_letterOf_20, dX5_letterOf_21, dX5_letterOf_22, dX5_letterOf_23, dX5_letterOf_26, dX5_letterOf_27, dX5_letterOf_28, dX5_letterOf_31, dX5_letterOf_32, dX5_letterOf_33, dX5_letterOf_34, dX5_letterOf_37, dX5_letterOf_38, dX5_letterOf_39, dX5_letterOf_41, dX5_letterOf_43, dX5_letterOf_45, dX5_letterOf_46, dX5_letterOf_47, dX5_letterOf_48, dX5_letterOf_51, dX5_letterOf_52, dX5_letterOf_53, dX5_letterOf_56, dX5_letterOf_57, dX5_letterOf_60, dX5_letterOf_61, dX5_letterOf_62, zb_10, zi_0, zi_1, zi_2, zi_3]
  have e1 : (nI (s / 3) = 1) = (s / 3 = 1) := propext (z_eqn 1 (by omega) (by omega))
  have e2 : (nI (s / 3) = 2) = (s / 3 = 2) := propext (z_eqn 2 (by omega) (by omega))
  have e3 : (nI (s / 3) = 3) = (s / 3 = 3) := propext (z_eqn 3 (by omega) (by omega))
  rw [e2, e3]
  have a1 : ∀ q : Nat, 2 * nI q = nI (2 * q) := fun q => pk_mul 2 q
  have a2 : ∀ q : Nat, 10 * nI q = nI (10 * q) := fun q => pk_mul 10 q
  have go : ∀ t : Nat, t < 2 → (t = 1 ↔ (s / 3 = 2 ∨ s / 3 = 3)) → P (M2, z, 0, 0) 23 [some (.int (nI s)), some (.int (nI c)), some (.int (nI (s / 3))), some (.int (nI t)), none] [.int (nI s), .int 2] := by
    intro t ht hiff
    refine z_si C dX5_letterOf_23 lk_5_116 (c_spotOf s (by omega)) rfl (fun v M2 hv => ?_)
    obtain ⟨rfl, rfl⟩ := hv
    refine z_run C [] 30 ?_
    simp only [z_x, z_n, z_stop, z_mem, z_ldi, z_lda, z_sto, z_s1, z_s2, z_sa, z_sv, z_br, z_bn, z_ob, z_ar, z_aq, z_al, z_rt, z_ra, z_at, z_st, z_K0i, z_K0v, zk_0, zk_1, zk_2, zk_3, z_lv, List.map_cons, List.map_nil, List.length_cons, List.length_nil, List.replicate, List.cons_append, List.nil_append, Nat.reduceAdd, Nat.reduceSub, Nat.reduceBEq, Nat.reduceEqDiff, Nat.reduceLT, Nat.reduceLeDiff, Nat.zero_add, Int.cast_ofNat_Int, Int.reduceAdd, Int.reduceNeg, Int.reduceToNat, Int.reduceLE, Int.zero_add, Int.toNat_zero, Int.add_zero, Int.add_neg_cancel_right, Fin.isValue, Int32.reduceOfInt, ↓reduceIte, Bool.false_eq_true, Bool.or_false, Bool.false_or, Bool.or_true, Bool.true_or, if_true, if_false, true_and, and_true, true_or, or_true, false_or, or_false, eq_self, and_self, z_up_i, Nat.add_left_cancel_iff, Nat.left_eq_add, Nat.add_eq_left, reduceCtorEq, Nat.add_one_ne_zero, z_tt, implies_true, zn_0, zn_1, zo_0, zo_1, dX5_letterOf_0, dX5_letterOf_1, dX5_letterOf_4, dX5_letterOf_5, dX5_letterOf_6, dX5_letterOf_7, dX5_letterOf_10, dX5_letterOf_11, dX5_letterOf_12, dX5_letterOf_15, dX5_letterOf_16, dX5_letterOf_19, dX5_letterOf_20, dX5_letterOf_21, dX5_letterOf_22, dX5_letterOf_23, dX5_letterOf_26, dX5_letterOf_27, dX5_letterOf_28, dX5_letterOf_31, dX5_letterOf_32, dX5_letterOf_33, dX5_letterOf_34, dX5_letterOf_37, dX5_letterOf_38, dX5_letterOf_39, dX5_letterOf_41, dX5_letterOf_43, dX5_letterOf_45, dX5_letterOf_46, dX5_letterOf_47, dX5_letterOf_48, dX5_letterOf_51, dX5_letterOf_52, dX5_letterOf_53, dX5_letterOf_56, dX5_letterOf_57, dX5_letterOf_60, dX5_letterOf_61, dX5_letterOf_62, zb_10, zi_0, zi_1, zi_2, zi_3]
    rw [e1, e2, a1, a1, show (1 : Int32) = nI 1 from rfl, nI_add, nI_add, a2, a2, nI_add, nI_add, show (0 : Int32) = nI 0 from rfl, nI_add, nI_add, z_eqn 0 (by omega) (by omega)]
    refine ⟨fun c1 => ?_, fun c1 => ?_⟩
    · have h7 : ¬ (s / 3 = 2 ∨ s / 3 = 3) := fun h => by have := hiff.mpr h; omega
      refine ⟨fun c2 => ⟨?_, rfl⟩, fun c2 => ⟨fun c3 => absurd (Or.inl c3) h7, fun c3 => ⟨?_, rfl⟩⟩⟩
      · rw [m_letc, if_neg h7, if_pos (Or.inl c2)]
      · rw [m_letc, if_neg h7, if_neg (by rintro (h | h); exact c2 h; exact c3 h)]
    · have h7 : (s / 3 = 2 ∨ s / 3 = 3) := hiff.mp (by omega)
      refine ⟨fun c2 => by omega, fun c2 => ⟨fun c3 => ⟨?_, rfl⟩, fun c3 => ⟨?_, rfl⟩⟩⟩
      · rw [m_letc, if_pos h7, if_pos (Or.inr c3)]
      · rw [m_letc, if_pos h7, if_neg (by rintro (h | h); exact c2 h; exact c3 h)]
  exact ⟨fun c1 => go 1 (by omega) (by simp [c1]), fun c1 => ⟨fun c2 => go 1 (by omega) (by simp [c2]), fun c2 => go 0 (by omega) (by simp [c1, c2])⟩⟩
set_option maxRecDepth 100000 in
set_option maxHeartbeats 4000000 in
theorem c_isPlace {l : Launch} {E : zE} {d : Nat} {M : zH} (i : Int32) : nX5_isPlace l E d [.int i] M (z_i fun v M' => ((v = 1 ∧ ∃ j, j < 8 ∧ i = nI j) ∨ (v = 0 ∧ (i < 0 ∨ 8 ≤ i))) ∧ M' = M) := by
  refine z_cn 5 fun P z C => ?_
  refine z_run C [] 12 ?_
  simp only [z_x, z_n, z_stop, z_mem, z_ldi, z_lda, z_sto, z_s1, z_s2, z_sa, z_sv, z_br, z_bn, z_ob, z_ar, z_aq, z_al, z_rt, z_ra, z_at, z_st, z_K0i, z_K0v, zk_0, zk_1, zk_2, zk_3, z_lv, List.map_cons, List.map_nil, List.length_cons, List.length_nil, List.replicate, List.cons_append, List.nil_append, Nat.reduceAdd, Nat.reduceSub, Nat.reduceBEq, Nat.reduceEqDiff, Nat.reduceLT, Nat.reduceLeDiff, Nat.zero_add, Int.cast_ofNat_Int, Int.reduceAdd, Int.reduceNeg, Int.reduceToNat, Int.reduceLE, Int.zero_add, Int.toNat_zero, Int.add_zero, Int.add_neg_cancel_right, Fin.isValue, Int32.reduceOfInt, ↓reduceIte, Bool.false_eq_true, Bool.or_false, Bool.false_or, Bool.or_true, Bool.true_or, if_true, if_false, true_and, and_true, true_or, or_true, false_or, or_false, eq_self, and_self, z_up_i, Nat.add_left_cancel_iff, Nat.left_eq_add, Nat.add_eq_left, reduceCtorEq, Nat.add_one_ne_zero, z_tt, implies_true, zn_0, zn_1, zo_0, zo_1, dX5_isPlace_0, dX5_isPlace_1, dX5_isPlace_4, dX5_isPlace_5, dX5_isPlace_7, dX5_isPlace_10, dX5_isPlace_11, dX5_isPlace_14, dX5_isPlace_15, zb_8, zi_0, zi_1]
  refine ⟨fun c1 => ⟨Or.inr ⟨rfl, Or.inl c1⟩, rfl⟩, fun c1 => ⟨fun c2 => ⟨Or.inr ⟨rfl, Or.inr c2⟩, rfl⟩, fun c2 => ⟨Or.inl ⟨rfl, z_ix (n := 8) (by omega) c1 c2⟩, rfl⟩⟩⟩
set_option maxRecDepth 100000 in
set_option maxHeartbeats 4000000 in
theorem c_sizeOrItem {l : Launch} {E : zE} {d : Nat} {M : zH} {r cap : Nat} {w : List Int32} (i : Int32) (h : z_row M r cap w) : nX5_sizeOrItem l E (d + 1) [.ref r, .int i] M (z_i fun v M' => v = (if i = -1 then nI w.length else z_get w i) ∧ M' = M) := by
  refine z_cn 5 fun P z C => ?_
  refine z_run C [] 12 ?_
  simp only [z_x, z_n, z_stop, z_mem, z_ldi, z_lda, z_sto, z_s1, z_s2, z_sa, z_sv, z_br, z_bn, z_ob, z_ar, z_aq, z_al, z_rt, z_ra, z_at, z_st, z_K0i, z_K0v, zk_0, zk_1, zk_2, zk_3, z_lv, List.map_cons, List.map_nil, List.length_cons, List.length_nil, List.replicate, List.cons_append, List.nil_append, Nat.reduceAdd, Nat.reduceSub, Nat.reduceBEq, Nat.reduceEqDiff, Nat.reduceLT, Nat.reduceLeDiff, Nat.zero_add, Int.cast_ofNat_Int, Int.reduceAdd, Int.reduceNeg, Int.reduceToNat, Int.reduceLE, Int.zero_add, Int.toNat_zero, Int.add_zero, Int.add_neg_cancel_right, Fin.isValue, Int32.reduceOfInt, ↓reduceIte, Bool.false_eq_true, Bool.or_false, Bool.false_or, Bool.or_true, Bool.true_or, if_true, if_false, true_and, and_true, true_or, or_true, false_or, or_false, eq_self, and_self, z_up_i, Nat.add_left_cancel_iff, Nat.left_eq_add, Nat.add_eq_left, reduceCtorEq, Nat.add_one_ne_zero, z_tt, implies_true, zn_0, zn_1, zo_0, zo_1, dX5_sizeOrItem_0, dX5_sizeOrItem_1, dX5_sizeOrItem_2, dX5_sizeOrItem_5, dX5_sizeOrItem_6, dX5_sizeOrItem_9, dX5_sizeOrItem_12, dX5_sizeOrItem_13, dX5_sizeOrItem_14, dX5_sizeOrItem_17, zi_m1]
  refine ⟨fun c1 => ?_, fun c1 => ?_⟩
  · refine z_vi C dX5_sizeOrItem_6 lk_5_81 (c_size h) rfl h.ob (fun v M2 hv => ?_)
    obtain ⟨rfl, rfl⟩ := hv
    refine z_run C [] 3 ?_
    simp only [z_x, z_n, z_stop, z_mem, z_ldi, z_lda, z_sto, z_s1, z_s2, z_sa, z_sv, z_br, z_bn, z_ob, z_ar, z_aq, z_al, z_rt, z_ra, z_at, z_st, z_K0i, z_K0v, zk_0, zk_1, zk_2, zk_3, z_lv, List.map_cons, List.map_nil, List.length_cons, List.length_nil, List.replicate, List.cons_append, List.nil_append, Nat.reduceAdd, Nat.reduceSub, Nat.reduceBEq, Nat.reduceEqDiff, Nat.reduceLT, Nat.reduceLeDiff, Nat.zero_add, Int.cast_ofNat_Int, Int.reduceAdd, Int.reduceNeg, Int.reduceToNat, Int.reduceLE, Int.zero_add, Int.toNat_zero, Int.add_zero, Int.add_neg_cancel_right, Fin.isValue, Int32.reduceOfInt, ↓reduceIte, Bool.false_eq_true, Bool.or_false, Bool.false_or, Bool.or_true, Bool.true_or, if_true, if_false, true_and, and_true, true_or, or_true, false_or, or_false, eq_self, and_self, z_up_i, Nat.add_left_cancel_iff, Nat.left_eq_add, Nat.add_eq_left, reduceCtorEq, Nat.add_one_ne_zero, z_tt, implies_true, zn_0, zn_1, zo_0, zo_1, dX5_sizeOrItem_0, dX5_sizeOrItem_1, dX5_sizeOrItem_2, dX5_sizeOrItem_5, dX5_sizeOrItem_6, dX5_sizeOrItem_9, dX5_sizeOrItem_12, dX5_sizeOrItem_13, dX5_sizeOrItem_14, dX5_sizeOrItem_17, zi_m1]
    exact ⟨by rw [if_pos c1], rfl⟩
  · refine z_vi C dX5_sizeOrItem_14 lk_5_106 (c_get i h) rfl h.ob (fun v M2 hv => ?_)
    obtain ⟨rfl, rfl⟩ := hv
    refine z_run C [] 3 ?_
    simp only [z_x, z_n, z_stop, z_mem, z_ldi, z_lda, z_sto, z_s1, z_s2, z_sa, z_sv, z_br, z_bn, z_ob, z_ar, z_aq, z_al, z_rt, z_ra, z_at, z_st, z_K0i, z_K0v, zk_0, zk_1, zk_2, zk_3, z_lv, List.map_cons, List.map_nil, List.length_cons, List.length_nil, List.replicate, List.cons_append, List.nil_append, Nat.reduceAdd, Nat.reduceSub, Nat.reduceBEq, Nat.reduceEqDiff, Nat.reduceLT, Nat.reduceLeDiff, Nat.zero_add, Int.cast_ofNat_Int, Int.reduceAdd, Int.reduceNeg, Int.reduceToNat, Int.reduceLE, Int.zero_add, Int.toNat_zero, Int.add_zero, Int.add_neg_cancel_right, Fin.isValue, Int32.reduceOfInt, ↓reduceIte, Bool.false_eq_true, Bool.or_false, Bool.false_or, Bool.or_true, Bool.true_or, if_true, if_false, true_and, and_true, true_or, or_true, false_or, or_false, eq_self, and_self, z_up_i, Nat.add_left_cancel_iff, Nat.left_eq_add, Nat.add_eq_left, reduceCtorEq, Nat.add_one_ne_zero, z_tt, implies_true, zn_0, zn_1, zo_0, zo_1, dX5_sizeOrItem_0, dX5_sizeOrItem_1, dX5_sizeOrItem_2, dX5_sizeOrItem_5, dX5_sizeOrItem_6, dX5_sizeOrItem_9, dX5_sizeOrItem_12, dX5_sizeOrItem_13, dX5_sizeOrItem_14, dX5_sizeOrItem_17, zi_m1]
    exact ⟨by rw [if_neg c1], rfl⟩
end
section
/-! WORKS: four rows; frames by ranges of addresses -/
def z_fp (M M' : zH) (A : Nat → Prop) : Prop := ∀ q, ¬ A q → M' q = M q
theorem z_fp.rf {M : zH} {A : Nat → Prop} : z_fp M M A := fun _ _ => rfl
theorem z_fp.tr {M M1 M2 : zH} {A : Nat → Prop} (h : z_fp M M1 A) (h2 : z_fp M1 M2 A) : z_fp M M2 A := fun q hq => (h2 q hq).trans (h q hq)
theorem z_fp.sub {M M1 : zH} {A B : Nat → Prop} (h : z_fp M M1 A) (hs : ∀ q, A q → B q) : z_fp M M1 B := fun q hq => h q (fun z => hq (hs q z))
theorem z_fr.p {M M1 : zH} {r : Nat} {B : Nat → Prop} (h : z_fr M M1 [r, r + 1]) (h1 : B r) (h2 : B (r + 1)) : z_fp M M1 B := fun q hq => h q (fun z => by
  simp only [List.mem_cons, List.not_mem_nil, or_false] at z
  rcases z with rfl | rfl
  · exact hq h1
  · exact hq h2)
theorem z_row.fp {M M' : zH} {A : Nat → Prop} {r cap : Nat} {w : List Int32} (h : z_row M r cap w) (hf : z_fp M M' A) (h1 : ¬ A r) (h2 : ¬ A (r + 1)) : z_row M' r cap w := by
  obtain ⟨f, g1, g2, g3⟩ := h
  exact ⟨f, (hf r h1).trans g1, (hf _ h2).trans g2, g3⟩
def z_wks (M : zH) (a : Nat) (w : Nat → List Nat) : Prop := ∃ f : Nat → Option Nat, M a = some (.inr (4, [.ref (a + 1)])) ∧ M (a + 1) = some (.inl (2, 4, .inr (.inr (.inr (.inr f))))) ∧ (∀ k, k < 4 → f k = some (a + 2 + 2 * k)) ∧ ∀ k, k < 4 → z_row M (a + 2 + 2 * k) 60 ((w k).map nI)
theorem z_wks.row {M : zH} {a k : Nat} {w : Nat → List Nat} (h : z_wks M a w) (hk : k < 4) : z_row M (a + 2 + 2 * k) 60 ((w k).map nI) := by
  obtain ⟨f, -, -, -, h4⟩ := h
  exact h4 k hk
theorem z_wks.ob {M : zH} {a : Nat} {w : Nat → List Nat} (h : z_wks M a w) : M a = some (.inr (4, [.ref (a + 1)])) := h.choose_spec.1
theorem z_wks.fp {M M' : zH} {A : Nat → Prop} {a : Nat} {w : Nat → List Nat} (h : z_wks M a w) (hf : z_fp M M' A) (hA : ∀ q, a ≤ q → q < a + 10 → ¬ A q) : z_wks M' a w := by
  obtain ⟨f, h1, h2, h3, h4⟩ := h
  refine ⟨f, (hf _ (hA _ (by omega) (by omega))).trans h1, (hf _ (hA _ (by omega) (by omega))).trans h2, h3, fun k hk => (h4 k hk).fp hf (hA _ (by omega) (by omega)) (hA _ (by omega) (by omega))⟩
/-- one row of them has changed -/
theorem z_wks.put {M M' : zH} {a k : Nat} {w : Nat → List Nat} {w1 : List Nat} (h : z_wks M a w) (hk : k < 4) (hf : z_fr M M' [a + 2 + 2 * k, a + 2 + 2 * k + 1]) (hr : z_row M' (a + 2 + 2 * k) 60 (w1.map nI)) : z_wks M' a (fun j => if j = k then w1 else w j) := by
  obtain ⟨f, h1, h2, h3, h4⟩ := h
  refine ⟨f, (hf _ (by simp; omega)).trans h1, (hf _ (by simp; omega)).trans h2, h3, fun j hj => ?_⟩
  by_cases hjk : j = k
  · subst hjk; simpa using hr
  · simp only [hjk, if_false]
    exact (h4 j hj).fr hf (by simp; omega) (by simp; omega)
theorem z_rf_some (a : Nat) : va_rf (some a) = .ref a := rfl
set_option maxRecDepth 100000 in
set_option maxHeartbeats 4000000 in
theorem c_row {l : Launch} {E : zE} {d : Nat} {M : zH} {a : Nat} {w : Nat → List Nat} (i : Int32) (h : z_wks M a w) : nX4_row l E d [.ref a, .int i] M (fun r M' => M' = M ∧ ((∃ k, k < 4 ∧ i = nI k ∧ r = some (.ref (a + 2 + 2 * k))) ∨ ((i < 0 ∨ 4 ≤ i) ∧ r = some .null))) := by
  obtain ⟨f, h1, h2, h3, h4⟩ := h
  refine z_cn 4 fun P z C => ?_
  refine z_run C [23] 20 ?_
  simp only [z_x, z_n, z_stop, z_mem, z_ldi, z_lda, z_sto, z_s1, z_s2, z_sa, z_sv, z_br, z_bn, z_ob, z_ar, z_aq, z_al, z_rt, z_ra, z_at, z_st, z_K0i, z_K0v, zk_0, zk_1, zk_2, zk_3, z_lv, List.map_cons, List.map_nil, List.length_cons, List.length_nil, List.replicate, List.cons_append, List.nil_append, Nat.reduceAdd, Nat.reduceSub, Nat.reduceBEq, Nat.reduceEqDiff, Nat.reduceLT, Nat.reduceLeDiff, Nat.zero_add, Int.cast_ofNat_Int, Int.reduceAdd, Int.reduceNeg, Int.reduceToNat, Int.reduceLE, Int.zero_add, Int.toNat_zero, Int.add_zero, Int.add_neg_cancel_right, Fin.isValue, Int32.reduceOfInt, ↓reduceIte, Bool.false_eq_true, Bool.or_false, Bool.false_or, Bool.or_true, Bool.true_or, if_true, if_false, true_and, and_true, true_or, or_true, false_or, or_false, eq_self, and_self, z_up_i, Nat.add_left_cancel_iff, Nat.left_eq_add, Nat.add_eq_left, reduceCtorEq, Nat.add_one_ne_zero, z_tt, implies_true, zn_0, zn_1, zo_0, zo_1, dX4_row_0, dX4_row_1, dX4_row_4, dX4_row_5, dX4_row_6, dX4_row_9, dX4_row_10, dX4_row_13, dX4_row_14, dX4_row_17, dX4_row_18, dX4_row_19, dX4_row_22, dX4_row_23, zf_4_11, h1, h2]
  refine ⟨fun c1 => ?_, fun c1 => ⟨fun c2 => ?_, fun c2 => ?_⟩⟩
  · refine z_run C [] 2 ?_
    simp only [z_x, z_n, z_stop, z_mem, z_ldi, z_lda, z_sto, z_s1, z_s2, z_sa, z_sv, z_br, z_bn, z_ob, z_ar, z_aq, z_al, z_rt, z_ra, z_at, z_st, z_K0i, z_K0v, zk_0, zk_1, zk_2, zk_3, z_lv, List.map_cons, List.map_nil, List.length_cons, List.length_nil, List.replicate, List.cons_append, List.nil_append, Nat.reduceAdd, Nat.reduceSub, Nat.reduceBEq, Nat.reduceEqDiff, Nat.reduceLT, Nat.reduceLeDiff, Nat.zero_add, Int.cast_ofNat_Int, Int.reduceAdd, Int.reduceNeg, Int.reduceToNat, Int.reduceLE, Int.zero_add, Int.toNat_zero, Int.add_zero, Int.add_neg_cancel_right, Fin.isValue, Int32.reduceOfInt, ↓reduceIte, Bool.false_eq_true, Bool.or_false, Bool.false_or, Bool.or_true, Bool.true_or, if_true, if_false, true_and, and_true, true_or, or_true, false_or, or_false, eq_self, and_self, z_up_i, Nat.add_left_cancel_iff, Nat.left_eq_add, Nat.add_eq_left, reduceCtorEq, Nat.add_one_ne_zero, z_tt, implies_true, zn_0, zn_1, zo_0, zo_1, dX4_row_0, dX4_row_1, dX4_row_4, dX4_row_5, dX4_row_6, dX4_row_9, dX4_row_10, dX4_row_13, dX4_row_14, dX4_row_17, dX4_row_18, dX4_row_19, dX4_row_22, dX4_row_23, zf_4_11, z_K0o]
    exact Or.inr (Or.inl c1)
  · refine z_run C [] 2 ?_
    simp only [z_x, z_n, z_stop, z_mem, z_ldi, z_lda, z_sto, z_s1, z_s2, z_sa, z_sv, z_br, z_bn, z_ob, z_ar, z_aq, z_al, z_rt, z_ra, z_at, z_st, z_K0i, z_K0v, zk_0, zk_1, zk_2, zk_3, z_lv, List.map_cons, List.map_nil, List.length_cons, List.length_nil, List.replicate, List.cons_append, List.nil_append, Nat.reduceAdd, Nat.reduceSub, Nat.reduceBEq, Nat.reduceEqDiff, Nat.reduceLT, Nat.reduceLeDiff, Nat.zero_add, Int.cast_ofNat_Int, Int.reduceAdd, Int.reduceNeg, Int.reduceToNat, Int.reduceLE, Int.zero_add, Int.toNat_zero, Int.add_zero, Int.add_neg_cancel_right, Fin.isValue, Int32.reduceOfInt, ↓reduceIte, Bool.false_eq_true, Bool.or_false, Bool.false_or, Bool.or_true, Bool.true_or, if_true, if_false, true_and, and_true, true_or, or_true, false_or, or_false, eq_self, and_self, z_up_i, Nat.add_left_cancel_iff, Nat.left_eq_add, Nat.add_eq_left, reduceCtorEq, Nat.add_one_ne_zero, z_tt, implies_true, zn_0, zn_1, zo_0, zo_1, dX4_row_0, dX4_row_1, dX4_row_4, dX4_row_5, dX4_row_6, dX4_row_9, dX4_row_10, dX4_row_13, dX4_row_14, dX4_row_17, dX4_row_18, dX4_row_19, dX4_row_22, dX4_row_23, zf_4_11, z_K0o]
    exact Or.inr (Or.inr c2)
  · obtain ⟨j, hj, rfl⟩ := z_ix (n := 4) (by omega) c1 c2
    refine ⟨vp_in_nI (by omega) (by omega), ?_⟩
    rw [nI_clamp (by omega), h3 j hj, z_rf_some]
    refine z_run C [] 2 ?_
    simp only [z_x, z_n, z_stop, z_mem, z_ldi, z_lda, z_sto, z_s1, z_s2, z_sa, z_sv, z_br, z_bn, z_ob, z_ar, z_aq, z_al, z_rt, z_ra, z_at, z_st, z_K0i, z_K0v, zk_0, zk_1, zk_2, zk_3, z_lv, List.map_cons, List.map_nil, List.length_cons, List.length_nil, List.replicate, List.cons_append, List.nil_append, Nat.reduceAdd, Nat.reduceSub, Nat.reduceBEq, Nat.reduceEqDiff, Nat.reduceLT, Nat.reduceLeDiff, Nat.zero_add, Int.cast_ofNat_Int, Int.reduceAdd, Int.reduceNeg, Int.reduceToNat, Int.reduceLE, Int.zero_add, Int.toNat_zero, Int.add_zero, Int.add_neg_cancel_right, Fin.isValue, Int32.reduceOfInt, ↓reduceIte, Bool.false_eq_true, Bool.or_false, Bool.false_or, Bool.or_true, Bool.true_or, if_true, if_false, true_and, and_true, true_or, or_true, false_or, or_false, eq_self, and_self, z_up_i, Nat.add_left_cancel_iff, Nat.left_eq_add, Nat.add_eq_left, reduceCtorEq, Nat.add_one_ne_zero, z_tt, implies_true, zn_0, zn_1, zo_0, zo_1, dX4_row_0, dX4_row_1, dX4_row_4, dX4_row_5, dX4_row_6, dX4_row_9, dX4_row_10, dX4_row_13, dX4_row_14, dX4_row_17, dX4_row_18, dX4_row_19, dX4_row_22, dX4_row_23, zf_4_11, z_K0o]
    exact Or.inl ⟨j, hj, rfl, rfl⟩
set_option maxRecDepth 100000 in
set_option maxHeartbeats 4000000 in
theorem c_wbecome {l : Launch} {E : zE} {d : Nat} {M : zH} {a b : Nat} {w u : Nat → List Nat} (h : z_wks M a w) (hb : z_wks M b u) (hn : b + 10 ≤ a ∨ a + 10 ≤ b) : nX4_become l E (d + 3) [.ref a, .ref b] M (z_v fun M' => z_fp M M' (fun q => a ≤ q ∧ q < a + 10) ∧ z_wks M' a u) := by
  refine z_cn 4 fun P z C => ?_
  have loop : ∀ (n i : Nat) (M1 : zH) (v : Nat → List Nat), i + n = 4 → z_fp M M1 (fun q => a ≤ q ∧ q < a + 10) → z_wks M1 a v → (∀ j, j < i → v j = u j) → ∀ o, P (M1, z, 0, 0) 2 [some (.ref a), some (.ref b), some (.int (nI i)), o] [] := by
    intro n
    induction n with
    | zero =>
      intro i M1 v hi hf hw hv o
      obtain ⟨f, h1, h2, h3, h4⟩ := id hw
      refine z_run C [] 20 ?_
      simp only [z_x, z_n, z_stop, z_mem, z_ldi, z_lda, z_sto, z_s1, z_s2, z_sa, z_sv, z_br, z_bn, z_ob, z_ar, z_aq, z_al, z_rt, z_ra, z_at, z_st, z_K0i, z_K0v, zk_0, zk_1, zk_2, zk_3, z_lv, List.map_cons, List.map_nil, List.length_cons, List.length_nil, List.replicate, List.cons_append, List.nil_append, Nat.reduceAdd, Nat.reduceSub, Nat.reduceBEq, Nat.reduceEqDiff, Nat.reduceLT, Nat.reduceLeDiff, Nat.zero_add, Int.cast_ofNat_Int, Int.reduceAdd, Int.reduceNeg, Int.reduceToNat, Int.reduceLE, Int.zero_add, Int.toNat_zero, Int.add_zero, Int.add_neg_cancel_right, Fin.isValue, Int32.reduceOfInt, ↓reduceIte, Bool.false_eq_true, Bool.or_false, Bool.false_or, Bool.or_true, Bool.true_or, if_true, if_false, true_and, and_true, true_or, or_true, false_or, or_false, eq_self, and_self, z_up_i, Nat.add_left_cancel_iff, Nat.left_eq_add, Nat.add_eq_left, reduceCtorEq, Nat.add_one_ne_zero, z_tt, implies_true, zn_0, zn_1, zo_0, zo_1, dX4_become_0, dX4_become_1, dX4_become_2, dX4_become_3, dX4_become_4, dX4_become_7, dX4_become_8, dX4_become_11, dX4_become_12, dX4_become_13, dX4_become_16, dX4_become_17, dX4_become_18, dX4_become_21, dX4_become_22, dX4_become_25, dX4_become_26, dX4_become_27, dX4_become_28, dX4_become_31, dX4_become_34, dX4_become_37, zf_4_11, zi_0, zi_1, h1, h2]
      refine ⟨fun _ => ⟨hf, f, h1, h2, h3, fun k hk => ?_⟩, fun c1 => absurd (nI_le (by omega) (by omega)) c1⟩
      rw [← hv k (by omega)]
      exact h4 k hk
    | succ n ih =>
      intro i M1 v hi hf hw hv o
      obtain ⟨f, h1, h2, h3, h4⟩ := id hw
      have hb1 : z_wks M1 b u := hb.fp hf (fun q _ _ => by omega)
      refine z_run C [] 20 ?_
      simp only [z_x, z_n, z_stop, z_mem, z_ldi, z_lda, z_sto, z_s1, z_s2, z_sa, z_sv, z_br, z_bn, z_ob, z_ar, z_aq, z_al, z_rt, z_ra, z_at, z_st, z_K0i, z_K0v, zk_0, zk_1, zk_2, zk_3, z_lv, List.map_cons, List.map_nil, List.length_cons, List.length_nil, List.replicate, List.cons_append, List.nil_append, Nat.reduceAdd, Nat.reduceSub, Nat.reduceBEq, Nat.reduceEqDiff, Nat.reduceLT, Nat.reduceLeDiff, Nat.zero_add, Int.cast_ofNat_Int, Int.reduceAdd, Int.reduceNeg, Int.reduceToNat, Int.reduceLE, Int.zero_add, Int.toNat_zero, Int.add_zero, Int.add_neg_cancel_right, Fin.isValue, Int32.reduceOfInt, ↓reduceIte, Bool.false_eq_true, Bool.or_false, Bool.false_or, Bool.or_true, Bool.true_or, if_true, if_false, true_and, and_true, true_or, or_true, false_or, or_false, eq_self, and_self, z_up_i, Nat.add_left_cancel_iff, Nat.left_eq_add, Nat.add_eq_left, reduceCtorEq, Nat.add_one_ne_zero, z_tt, implies_true, zn_0, zn_1, zo_0, zo_1, dX4_become_0, dX4_become_1, dX4_become_2, dX4_become_3, dX4_become_4, dX4_become_7, dX4_become_8, dX4_become_11, dX4_become_12, dX4_become_13, dX4_become_16, dX4_become_17, dX4_become_18, dX4_become_21, dX4_become_22, dX4_become_25, dX4_become_26, dX4_become_27, dX4_become_28, dX4_become_31, dX4_become_34, dX4_become_37, zf_4_11, zi_0, zi_1, h1, h2]
      refine ⟨fun c1 => absurd ((nI_leI (by omega) (by omega)).mp c1) (by omega), fun _ => ?_⟩
      refine z_vo C dX4_become_13 lk_4_20 (c_row (nI i) hb1) rfl hb1.ob (fun r M2 hr => ?_)
      obtain ⟨rfl, ⟨k, hk, hki, rfl⟩ | ⟨hc, -⟩⟩ := hr
      · have e := (nI_eq (by omega) (by omega)).mp hki
        subst e
        simp only [Option.toList, List.cons_append, List.nil_append]
        refine z_run C [] 20 ?_
        simp only [z_x, z_n, z_stop, z_mem, z_ldi, z_lda, z_sto, z_s1, z_s2, z_sa, z_sv, z_br, z_bn, z_ob, z_ar, z_aq, z_al, z_rt, z_ra, z_at, z_st, z_K0i, z_K0v, zk_0, zk_1, zk_2, zk_3, z_lv, List.map_cons, List.map_nil, List.length_cons, List.length_nil, List.replicate, List.cons_append, List.nil_append, Nat.reduceAdd, Nat.reduceSub, Nat.reduceBEq, Nat.reduceEqDiff, Nat.reduceLT, Nat.reduceLeDiff, Nat.zero_add, Int.cast_ofNat_Int, Int.reduceAdd, Int.reduceNeg, Int.reduceToNat, Int.reduceLE, Int.zero_add, Int.toNat_zero, Int.add_zero, Int.add_neg_cancel_right, Fin.isValue, Int32.reduceOfInt, ↓reduceIte, Bool.false_eq_true, Bool.or_false, Bool.false_or, Bool.or_true, Bool.true_or, if_true, if_false, true_and, and_true, true_or, or_true, false_or, or_false, eq_self, and_self, z_up_i, Nat.add_left_cancel_iff, Nat.left_eq_add, Nat.add_eq_left, reduceCtorEq, Nat.add_one_ne_zero, z_tt, implies_true, zn_0, zn_1, zo_0, zo_1, dX4_become_0, dX4_become_1, dX4_become_2, dX4_become_3, dX4_become_4, dX4_become_7, dX4_become_8, dX4_become_11, dX4_become_12, dX4_become_13, dX4_become_16, dX4_become_17, dX4_become_18, dX4_become_21, dX4_become_22, dX4_become_25, dX4_become_26, dX4_become_27, dX4_become_28, dX4_become_31, dX4_become_34, dX4_become_37, zf_4_11, zi_0, zi_1, h1, h2]
        refine ⟨vp_in_nI (by omega) (by omega), ?_⟩
        rw [nI_clamp (by omega), h3 i (by omega), z_rf_some]
        have hr1 := hw.row (k := i) (by omega)
        have hr2 := hb1.row (k := i) (by omega)
        refine z_vv C dX4_become_28 lk_4_24 (c_become hr1 hr2 (by omega) hr2.le.1) rfl hr1.ob (fun M3 hv3 => ?_)
        obtain ⟨hf3, hr3⟩ := hv3
        refine z_run C [2] 20 ?_
        simp only [z_x, z_n, z_stop, z_mem, z_ldi, z_lda, z_sto, z_s1, z_s2, z_sa, z_sv, z_br, z_bn, z_ob, z_ar, z_aq, z_al, z_rt, z_ra, z_at, z_st, z_K0i, z_K0v, zk_0, zk_1, zk_2, zk_3, z_lv, List.map_cons, List.map_nil, List.length_cons, List.length_nil, List.replicate, List.cons_append, List.nil_append, Nat.reduceAdd, Nat.reduceSub, Nat.reduceBEq, Nat.reduceEqDiff, Nat.reduceLT, Nat.reduceLeDiff, Nat.zero_add, Int.cast_ofNat_Int, Int.reduceAdd, Int.reduceNeg, Int.reduceToNat, Int.reduceLE, Int.zero_add, Int.toNat_zero, Int.add_zero, Int.add_neg_cancel_right, Fin.isValue, Int32.reduceOfInt, ↓reduceIte, Bool.false_eq_true, Bool.or_false, Bool.false_or, Bool.or_true, Bool.true_or, if_true, if_false, true_and, and_true, true_or, or_true, false_or, or_false, eq_self, and_self, z_up_i, Nat.add_left_cancel_iff, Nat.left_eq_add, Nat.add_eq_left, reduceCtorEq, Nat.add_one_ne_zero, z_tt, implies_true, zn_0, zn_1, zo_0, zo_1, dX4_become_0, dX4_become_1, dX4_become_2, dX4_become_3, dX4_become_4, dX4_become_7, dX4_become_8, dX4_become_11, dX4_become_12, dX4_become_13, dX4_become_16, dX4_become_17, dX4_become_18, dX4_become_21, dX4_become_22, dX4_become_25, dX4_become_26, dX4_become_27, dX4_become_28, dX4_become_31, dX4_become_34, dX4_become_37, zf_4_11, zi_0, zi_1]
        rw [nI_1]
        refine ih (i + 1) M3 _ (by omega) (hf.tr (hf3.p (by omega) (by omega))) (hw.put (by omega) hf3 hr3) (fun j hj => ?_) _
        by_cases hji : j = i
        · subst hji; simp
        · simp only [hji, if_false]; exact hv j (by omega)
      · rcases hc with hc | hc
        · exact absurd hc (nI_pos (by omega))
        · exact absurd ((nI_leI (a := 4) (by omega) (by omega)).mp hc) (by omega)
  refine z_run C [2] 3 ?_
  simp only [z_x, z_n, z_stop, z_mem, z_ldi, z_lda, z_sto, z_s1, z_s2, z_sa, z_sv, z_br, z_bn, z_ob, z_ar, z_aq, z_al, z_rt, z_ra, z_at, z_st, z_K0i, z_K0v, zk_0, zk_1, zk_2, zk_3, z_lv, List.map_cons, List.map_nil, List.length_cons, List.length_nil, List.replicate, List.cons_append, List.nil_append, Nat.reduceAdd, Nat.reduceSub, Nat.reduceBEq, Nat.reduceEqDiff, Nat.reduceLT, Nat.reduceLeDiff, Nat.zero_add, Int.cast_ofNat_Int, Int.reduceAdd, Int.reduceNeg, Int.reduceToNat, Int.reduceLE, Int.zero_add, Int.toNat_zero, Int.add_zero, Int.add_neg_cancel_right, Fin.isValue, Int32.reduceOfInt, ↓reduceIte, Bool.false_eq_true, Bool.or_false, Bool.false_or, Bool.or_true, Bool.true_or, if_true, if_false, true_and, and_true, true_or, or_true, false_or, or_false, eq_self, and_self, z_up_i, Nat.add_left_cancel_iff, Nat.left_eq_add, Nat.add_eq_left, reduceCtorEq, Nat.add_one_ne_zero, z_tt, implies_true, zn_0, zn_1, zo_0, zo_1, dX4_become_0, dX4_become_1, dX4_become_2, dX4_become_3, dX4_become_4, dX4_become_7, dX4_become_8, dX4_become_11, dX4_become_12, dX4_become_13, dX4_become_16, dX4_become_17, dX4_become_18, dX4_become_21, dX4_become_22, dX4_become_25, dX4_become_26, dX4_become_27, dX4_become_28, dX4_become_31, dX4_become_34, dX4_become_37, zf_4_11, zi_0, zi_1]
  exact loop 4 0 M w (by omega) z_fp.rf h (fun j hj => by omega) _
set_option maxRecDepth 100000 in
set_option maxHeartbeats 4000000 in
theorem c_stepsInAll {l : Launch} {E : zE} {d : Nat} {M : zH} {a : Nat} {w : Nat → List Nat} (h : z_wks M a w) : nX4_stepsInAll l E (d + 1) [.ref a] M (z_i fun v M' => v = nI ((w 0).length + (w 1).length + (w 2).length + (w 3).length) ∧ M' = M) := by
  refine z_cn 4 fun P z C => ?_
  obtain ⟨f, h1, h2, h3, h4⟩ := id h
  have loop : ∀ (n i s : Nat), i + n = 4 → s = ((List.range i).map (fun k => (w k).length)).sum → P (M, z, 0, 0) 4 [some (.ref a), some (.int (nI s)), some (.int (nI i))] [] := by
    intro n
    induction n with
    | zero =>
      intro i s hi hs
      refine z_run C [] 20 ?_
      simp only [z_x, z_n, z_stop, z_mem, z_ldi, z_lda, z_sto, z_s1, z_s2, z_sa, z_sv, z_br, z_bn, z_ob, z_ar, z_aq, z_al, z_rt, z_ra, z_at, z_st, z_K0i, z_K0v, zk_0, zk_1, zk_2, zk_3, z_lv, List.map_cons, List.map_nil, List.length_cons, List.length_nil, List.replicate, List.cons_append, List.nil_append, Nat.reduceAdd, Nat.reduceSub, Nat.reduceBEq, Nat.reduceEqDiff, Nat.reduceLT, Nat.reduceLeDiff, Nat.zero_add, Int.cast_ofNat_Int, Int.reduceAdd, Int.reduceNeg, Int.reduceToNat, Int.reduceLE, Int.zero_add, Int.toNat_zero, Int.add_zero, Int.add_neg_cancel_right, Fin.isValue, Int32.reduceOfInt, ↓reduceIte, Bool.false_eq_true, Bool.or_false, Bool.false_or, Bool.or_true, Bool.true_or, if_true, if_false, true_and, and_true, true_or, or_true, false_or, or_false, eq_self, and_self, z_up_i, Nat.add_left_cancel_iff, Nat.left_eq_add, Nat.add_eq_left, reduceCtorEq, Nat.add_one_ne_zero, z_tt, implies_true, zn_0, zn_1, zo_0, zo_1, dX4_stepsInAll_0, dX4_stepsInAll_1, dX4_stepsInAll_2, dX4_stepsInAll_3, dX4_stepsInAll_4, dX4_stepsInAll_5, dX4_stepsInAll_6, dX4_stepsInAll_9, dX4_stepsInAll_10, dX4_stepsInAll_13, dX4_stepsInAll_14, dX4_stepsInAll_15, dX4_stepsInAll_18, dX4_stepsInAll_19, dX4_stepsInAll_20, dX4_stepsInAll_23, dX4_stepsInAll_24, dX4_stepsInAll_25, dX4_stepsInAll_28, dX4_stepsInAll_31, dX4_stepsInAll_32, zf_4_11, zi_0, zi_1, h1, h2]
      refine ⟨fun _ => ⟨?_, rfl⟩, fun c1 => absurd (nI_le (by omega) (by omega)) c1⟩
      rw [hs, show i = 4 by omega]
      simp [List.range, List.range.loop, Nat.add_assoc]
    | succ n ih =>
      intro i s hi hs
      refine z_run C [] 20 ?_
      simp only [z_x, z_n, z_stop, z_mem, z_ldi, z_lda, z_sto, z_s1, z_s2, z_sa, z_sv, z_br, z_bn, z_ob, z_ar, z_aq, z_al, z_rt, z_ra, z_at, z_st, z_K0i, z_K0v, zk_0, zk_1, zk_2, zk_3, z_lv, List.map_cons, List.map_nil, List.length_cons, List.length_nil, List.replicate, List.cons_append, List.nil_append, Nat.reduceAdd, Nat.reduceSub, Nat.reduceBEq, Nat.reduceEqDiff, Nat.reduceLT, Nat.reduceLeDiff, Nat.zero_add, Int.cast_ofNat_Int, Int.reduceAdd, Int.reduceNeg, Int.reduceToNat, Int.reduceLE, Int.zero_add, Int.toNat_zero, Int.add_zero, Int.add_neg_cancel_right, Fin.isValue, Int32.reduceOfInt, ↓reduceIte, Bool.false_eq_true, Bool.or_false, Bool.false_or, Bool.or_true, Bool.true_or, if_true, if_false, true_and, and_true, true_or, or_true, false_or, or_false, eq_self, and_self, z_up_i, Nat.add_left_cancel_iff, Nat.left_eq_add, Nat.add_eq_left, reduceCtorEq, Nat.add_one_ne_zero, z_tt, implies_true, zn_0, zn_1, zo_0, zo_1, dX4_stepsInAll_0, dX4_stepsInAll_1, dX4_stepsInAll_2, dX4_stepsInAll_3, dX4_stepsInAll_4, dX4_stepsInAll_5, dX4_stepsInAll_6, dX4_stepsInAll_9, dX4_stepsInAll_10, dX4_stepsInAll_13, dX4_stepsInAll_14, dX4_stepsInAll_15, dX4_stepsInAll_18, dX4_stepsInAll_19, dX4_stepsInAll_20, dX4_stepsInAll_23, dX4_stepsInAll_24, dX4_stepsInAll_25, dX4_stepsInAll_28, dX4_stepsInAll_31, dX4_stepsInAll_32, zf_4_11, zi_0, zi_1, h1, h2]
      refine ⟨fun c1 => absurd ((nI_leI (by omega) (by omega)).mp c1) (by omega), fun _ => ⟨vp_in_nI (by omega) (by omega), ?_⟩⟩
      rw [nI_clamp (by omega), h3 i (by omega), z_rf_some]
      have hr1 := h.row (k := i) (by omega)
      refine z_vi C dX4_stepsInAll_20 lk_4_28 (c_size hr1) rfl hr1.ob (fun v M2 hv => ?_)
      obtain ⟨rfl, rfl⟩ := hv
      refine z_run C [4] 20 ?_
      simp only [z_x, z_n, z_stop, z_mem, z_ldi, z_lda, z_sto, z_s1, z_s2, z_sa, z_sv, z_br, z_bn, z_ob, z_ar, z_aq, z_al, z_rt, z_ra, z_at, z_st, z_K0i, z_K0v, zk_0, zk_1, zk_2, zk_3, z_lv, List.map_cons, List.map_nil, List.length_cons, List.length_nil, List.replicate, List.cons_append, List.nil_append, Nat.reduceAdd, Nat.reduceSub, Nat.reduceBEq, Nat.reduceEqDiff, Nat.reduceLT, Nat.reduceLeDiff, Nat.zero_add, Int.cast_ofNat_Int, Int.reduceAdd, Int.reduceNeg, Int.reduceToNat, Int.reduceLE, Int.zero_add, Int.toNat_zero, Int.add_zero, Int.add_neg_cancel_right, Fin.isValue, Int32.reduceOfInt, ↓reduceIte, Bool.false_eq_true, Bool.or_false, Bool.false_or, Bool.or_true, Bool.true_or, if_true, if_false, true_and, and_true, true_or, or_true, false_or, or_false, eq_self, and_self, z_up_i, Nat.add_left_cancel_iff, Nat.left_eq_add, Nat.add_eq_left, reduceCtorEq, Nat.add_one_ne_zero, z_tt, implies_true, zn_0, zn_1, zo_0, zo_1, dX4_stepsInAll_0, dX4_stepsInAll_1, dX4_stepsInAll_2, dX4_stepsInAll_3, dX4_stepsInAll_4, dX4_stepsInAll_5, dX4_stepsInAll_6, dX4_stepsInAll_9, dX4_stepsInAll_10, dX4_stepsInAll_13, dX4_stepsInAll_14, dX4_stepsInAll_15, dX4_stepsInAll_18, dX4_stepsInAll_19, dX4_stepsInAll_20, dX4_stepsInAll_23, dX4_stepsInAll_24, dX4_stepsInAll_25, dX4_stepsInAll_28, dX4_stepsInAll_31, dX4_stepsInAll_32, zf_4_11, zi_0, zi_1]
      rw [nI_1, nI_add]
      refine ih (i + 1) _ (by omega) ?_
      rw [hs, List.range_succ]
      simp
  refine z_run C [4] 5 ?_
  simp only [z_x, z_n, z_stop, z_mem, z_ldi, z_lda, z_sto, z_s1, z_s2, z_sa, z_sv, z_br, z_bn, z_ob, z_ar, z_aq, z_al, z_rt, z_ra, z_at, z_st, z_K0i, z_K0v, zk_0, zk_1, zk_2, zk_3, z_lv, List.map_cons, List.map_nil, List.length_cons, List.length_nil, List.replicate, List.cons_append, List.nil_append, Nat.reduceAdd, Nat.reduceSub, Nat.reduceBEq, Nat.reduceEqDiff, Nat.reduceLT, Nat.reduceLeDiff, Nat.zero_add, Int.cast_ofNat_Int, Int.reduceAdd, Int.reduceNeg, Int.reduceToNat, Int.reduceLE, Int.zero_add, Int.toNat_zero, Int.add_zero, Int.add_neg_cancel_right, Fin.isValue, Int32.reduceOfInt, ↓reduceIte, Bool.false_eq_true, Bool.or_false, Bool.false_or, Bool.or_true, Bool.true_or, if_true, if_false, true_and, and_true, true_or, or_true, false_or, or_false, eq_self, and_self, z_up_i, Nat.add_left_cancel_iff, Nat.left_eq_add, Nat.add_eq_left, reduceCtorEq, Nat.add_one_ne_zero, z_tt, implies_true, zn_0, zn_1, zo_0, zo_1, dX4_stepsInAll_0, dX4_stepsInAll_1, dX4_stepsInAll_2, dX4_stepsInAll_3, dX4_stepsInAll_4, dX4_stepsInAll_5, dX4_stepsInAll_6, dX4_stepsInAll_9, dX4_stepsInAll_10, dX4_stepsInAll_13, dX4_stepsInAll_14, dX4_stepsInAll_15, dX4_stepsInAll_18, dX4_stepsInAll_19, dX4_stepsInAll_20, dX4_stepsInAll_23, dX4_stepsInAll_24, dX4_stepsInAll_25, dX4_stepsInAll_28, dX4_stepsInAll_31, dX4_stepsInAll_32, zf_4_11, zi_0, zi_1]
  exact loop 4 0 0 (by omega) (by simp)
end
section
/-! THE BOARD: p tells which bobbin lies where, q the other row -/
def z_brd (M : zH) (b : Nat) (p q : Nat → Nat) : Prop := ∃ f g : Nat → Int32, M b = some (.inr (0, [.ref (b + 1), .ref (b + 2)])) ∧ M (b + 1) = some (.inl (0, 8, .inl f)) ∧ M (b + 2) = some (.inl (0, 8, .inl g)) ∧ (∀ j, j < 8 → f j = nI (p j) ∧ p j < 8) ∧ ∀ j, j < 8 → g j = nI (q j) ∧ q j < 8
theorem z_brd.ob {M : zH} {b : Nat} {p q : Nat → Nat} (h : z_brd M b p q) : M b = some (.inr (0, [.ref (b + 1), .ref (b + 2)])) := by
  obtain ⟨f, g, h1, -⟩ := h
  exact h1
theorem z_brd.fp {M M' : zH} {A : Nat → Prop} {b : Nat} {p q : Nat → Nat} (h : z_brd M b p q) (hf : z_fp M M' A) (h1 : ¬ A b) (h2 : ¬ A (b + 1)) (h3 : ¬ A (b + 2)) : z_brd M' b p q := by
  obtain ⟨f, g, g1, g2, g3, g4⟩ := h
  exact ⟨f, g, (hf _ h1).trans g1, (hf _ h2).trans g2, (hf _ h3).trans g3, g4⟩
def m_swp (p : Nat → Nat) (k : Nat) : Nat → Nat := fun j => if j = k then p (k + 1) else if j = k + 1 then p k else p j
def m_lay (ls : List Nat) (p : Nat → Nat) : Nat → Nat := ls.foldl (fun p a => m_swp p (a / 10)) p
set_option maxRecDepth 100000 in
set_option maxHeartbeats 4000000 in
theorem c_layAsAtFirst {l : Launch} {E : zE} {d : Nat} {M : zH} {b : Nat} {p q : Nat → Nat} (h : z_brd M b p q) : nX0_layAsAtFirst l E d [.ref b] M (z_v fun M' => z_fp M M' (fun a => a = b + 1) ∧ z_brd M' b id q) := by
  refine z_cn 0 fun P z C => ?_
  obtain ⟨f, g, h1, h2, h3, h4, h5⟩ := h
  have loop : ∀ (n i : Nat) (f1 : Nat → Int32), i + n = 8 → (∀ j, j < i → f1 j = nI j) → ∀ M1, z_fp M M1 (fun a => a = b + 1) → M1 (b + 1) = some (.inl (0, 8, .inl f1)) → P (M1, z, 0, 0) 2 [some (.ref b), some (.int (nI i))] [] := by
    intro n
    induction n with
    | zero =>
      intro i f1 hi hv M1 hf hM
      have h1' : M1 b = some (.inr (0, [.ref (b + 1), .ref (b + 2)])) := (hf b (by omega)).trans h1
      refine z_run C [] 20 ?_
      simp only [z_x, z_n, z_stop, z_mem, z_ldi, z_lda, z_sto, z_s1, z_s2, z_sa, z_sv, z_br, z_bn, z_ob, z_ar, z_aq, z_al, z_rt, z_ra, z_at, z_st, z_K0i, z_K0v, zk_0, zk_1, zk_2, zk_3, z_lv, List.map_cons, List.map_nil, List.length_cons, List.length_nil, List.replicate, List.cons_append, List.nil_append, Nat.reduceAdd, Nat.reduceSub, Nat.reduceBEq, Nat.reduceEqDiff, Nat.reduceLT, Nat.reduceLeDiff, Nat.zero_add, Int.cast_ofNat_Int, Int.reduceAdd, Int.reduceNeg, Int.reduceToNat, Int.reduceLE, Int.zero_add, Int.toNat_zero, Int.add_zero, Int.add_neg_cancel_right, Fin.isValue, Int32.reduceOfInt, ↓reduceIte, Bool.false_eq_true, Bool.or_false, Bool.false_or, Bool.or_true, Bool.true_or, if_true, if_false, true_and, and_true, true_or, or_true, false_or, or_false, eq_self, and_self, z_up_i, Nat.add_left_cancel_iff, Nat.left_eq_add, Nat.add_eq_left, reduceCtorEq, Nat.add_one_ne_zero, z_tt, implies_true, zn_0, zn_1, zo_0, zo_1, dX0_layAsAtFirst_0, dX0_layAsAtFirst_1, dX0_layAsAtFirst_2, dX0_layAsAtFirst_3, dX0_layAsAtFirst_4, dX0_layAsAtFirst_7, dX0_layAsAtFirst_8, dX0_layAsAtFirst_11, dX0_layAsAtFirst_12, dX0_layAsAtFirst_15, dX0_layAsAtFirst_16, dX0_layAsAtFirst_17, dX0_layAsAtFirst_18, dX0_layAsAtFirst_21, dX0_layAsAtFirst_24, zf_0_9, zi_0, zi_1, h1', hM]
      exact ⟨fun _ => ⟨hf, f1, g, h1', hM, (hf _ (by omega)).trans h3, fun j hj => ⟨hv j (by omega), hj⟩, h5⟩, fun c1 => absurd (nI_le (by omega) (by omega)) c1⟩
    | succ n ih =>
      intro i f1 hi hv M1 hf hM
      have h1' : M1 b = some (.inr (0, [.ref (b + 1), .ref (b + 2)])) := (hf b (by omega)).trans h1
      refine z_run C [2] 20 ?_
      simp only [z_x, z_n, z_stop, z_mem, z_ldi, z_lda, z_sto, z_s1, z_s2, z_sa, z_sv, z_br, z_bn, z_ob, z_ar, z_aq, z_al, z_rt, z_ra, z_at, z_st, z_K0i, z_K0v, zk_0, zk_1, zk_2, zk_3, z_lv, List.map_cons, List.map_nil, List.length_cons, List.length_nil, List.replicate, List.cons_append, List.nil_append, Nat.reduceAdd, Nat.reduceSub, Nat.reduceBEq, Nat.reduceEqDiff, Nat.reduceLT, Nat.reduceLeDiff, Nat.zero_add, Int.cast_ofNat_Int, Int.reduceAdd, Int.reduceNeg, Int.reduceToNat, Int.reduceLE, Int.zero_add, Int.toNat_zero, Int.add_zero, Int.add_neg_cancel_right, Fin.isValue, Int32.reduceOfInt, ↓reduceIte, Bool.false_eq_true, Bool.or_false, Bool.false_or, Bool.or_true, Bool.true_or, if_true, if_false, true_and, and_true, true_or, or_true, false_or, or_false, eq_self, and_self, z_up_i, Nat.add_left_cancel_iff, Nat.left_eq_add, Nat.add_eq_left, reduceCtorEq, Nat.add_one_ne_zero, z_tt, implies_true, zn_0, zn_1, zo_0, zo_1, dX0_layAsAtFirst_0, dX0_layAsAtFirst_1, dX0_layAsAtFirst_2, dX0_layAsAtFirst_3, dX0_layAsAtFirst_4, dX0_layAsAtFirst_7, dX0_layAsAtFirst_8, dX0_layAsAtFirst_11, dX0_layAsAtFirst_12, dX0_layAsAtFirst_15, dX0_layAsAtFirst_16, dX0_layAsAtFirst_17, dX0_layAsAtFirst_18, dX0_layAsAtFirst_21, dX0_layAsAtFirst_24, zf_0_9, zi_0, zi_1, h1', hM]
      refine ⟨fun c1 => absurd ((nI_leI (by omega) (by omega)).mp c1) (by omega), fun _ => ⟨vp_in_nI (by omega) (by omega), ?_⟩⟩
      rw [nI_1, nI_clamp (by omega)]
      refine ih (i + 1) _ (by omega) (fun j hj => ?_) _ (fun a ha => ?_) (z_up_s _ _ _)
      · by_cases hji : j = i
        · subst hji; simp [upd]
        · simp [upd, hji]; exact hv j (by omega)
      · rw [z_up_n ha]; exact hf a ha
  refine z_run C [2] 3 ?_
  simp only [z_x, z_n, z_stop, z_mem, z_ldi, z_lda, z_sto, z_s1, z_s2, z_sa, z_sv, z_br, z_bn, z_ob, z_ar, z_aq, z_al, z_rt, z_ra, z_at, z_st, z_K0i, z_K0v, zk_0, zk_1, zk_2, zk_3, z_lv, List.map_cons, List.map_nil, List.length_cons, List.length_nil, List.replicate, List.cons_append, List.nil_append, Nat.reduceAdd, Nat.reduceSub, Nat.reduceBEq, Nat.reduceEqDiff, Nat.reduceLT, Nat.reduceLeDiff, Nat.zero_add, Int.cast_ofNat_Int, Int.reduceAdd, Int.reduceNeg, Int.reduceToNat, Int.reduceLE, Int.zero_add, Int.toNat_zero, Int.add_zero, Int.add_neg_cancel_right, Fin.isValue, Int32.reduceOfInt, ↓reduceIte, Bool.false_eq_true, Bool.or_false, Bool.false_or, Bool.or_true, Bool.true_or, if_true, if_false, true_and, and_true, true_or, or_true, false_or, or_false, eq_self, and_self, z_up_i, Nat.add_left_cancel_iff, Nat.left_eq_add, Nat.add_eq_left, reduceCtorEq, Nat.add_one_ne_zero, z_tt, implies_true, zn_0, zn_1, zo_0, zo_1, dX0_layAsAtFirst_0, dX0_layAsAtFirst_1, dX0_layAsAtFirst_2, dX0_layAsAtFirst_3, dX0_layAsAtFirst_4, dX0_layAsAtFirst_7, dX0_layAsAtFirst_8, dX0_layAsAtFirst_11, dX0_layAsAtFirst_12, dX0_layAsAtFirst_15, dX0_layAsAtFirst_16, dX0_layAsAtFirst_17, dX0_layAsAtFirst_18, dX0_layAsAtFirst_21, dX0_layAsAtFirst_24, zf_0_9, zi_0, zi_1]
  exact loop 8 0 f (by omega) (fun j hj => by omega) M z_fp.rf h2
set_option maxRecDepth 100000 in
set_option maxHeartbeats 4000000 in
theorem c_bobbinAt {l : Launch} {E : zE} {d : Nat} {M : zH} {b : Nat} {p q : Nat → Nat} (j : Nat) (hj : j < 8) (h : z_brd M b p q) : nX0_bobbinAt l E d [.ref b, .int (nI j)] M (z_i fun v M' => v = nI (p j) ∧ M' = M) := by
  refine z_cn 0 fun P z C => ?_
  obtain ⟨f, g, h1, h2, h3, h4, h5⟩ := h
  refine z_run C [] 20 ?_
  simp only [z_x, z_n, z_stop, z_mem, z_ldi, z_lda, z_sto, z_s1, z_s2, z_sa, z_sv, z_br, z_bn, z_ob, z_ar, z_aq, z_al, z_rt, z_ra, z_at, z_st, z_K0i, z_K0v, zk_0, zk_1, zk_2, zk_3, z_lv, List.map_cons, List.map_nil, List.length_cons, List.length_nil, List.replicate, List.cons_append, List.nil_append, Nat.reduceAdd, Nat.reduceSub, Nat.reduceBEq, Nat.reduceEqDiff, Nat.reduceLT, Nat.reduceLeDiff, Nat.zero_add, Int.cast_ofNat_Int, Int.reduceAdd, Int.reduceNeg, Int.reduceToNat, Int.reduceLE, Int.zero_add, Int.toNat_zero, Int.add_zero, Int.add_neg_cancel_right, Fin.isValue, Int32.reduceOfInt, ↓reduceIte, Bool.false_eq_true, Bool.or_false, Bool.false_or, Bool.or_true, Bool.true_or, if_true, if_false, true_and, and_true, true_or, or_true, false_or, or_false, eq_self, and_self, z_up_i, Nat.add_left_cancel_iff, Nat.left_eq_add, Nat.add_eq_left, reduceCtorEq, Nat.add_one_ne_zero, z_tt, implies_true, zn_0, zn_1, zo_0, zo_1, dX0_bobbinAt_0, dX0_bobbinAt_1, dX0_bobbinAt_4, dX0_bobbinAt_5, dX0_bobbinAt_6, dX0_bobbinAt_9, dX0_bobbinAt_10, dX0_bobbinAt_13, dX0_bobbinAt_14, dX0_bobbinAt_17, dX0_bobbinAt_18, dX0_bobbinAt_19, dX0_bobbinAt_22, dX0_bobbinAt_24, zb_m6, zf_0_9, h1, h2]
  refine ⟨fun c1 => absurd c1 (nI_pos (by omega)), fun c1 => ⟨fun c2 => absurd ((nI_leI (by omega) (by omega)).mp c2) (by omega), fun c2 => ⟨vp_in_nI (by omega) (by omega), ?_, rfl⟩⟩⟩
  rw [nI_clamp (by omega)]
  exact (h4 j hj).1
set_option maxRecDepth 100000 in
set_option maxHeartbeats 4000000 in
theorem c_swap {l : Launch} {E : zE} {d : Nat} {M : zH} {b : Nat} {p q : Nat → Nat} (a : Nat) (ha : a / 10 < 7) (h : z_brd M b p q) : nX0_swap l E (d + 1) [.ref b, .int (nI a)] M (z_v fun M' => z_fp M M' (fun a => a = b + 1) ∧ z_brd M' b (m_swp p (a / 10)) q) := by
  refine z_cn 0 fun P z C => ?_
  obtain ⟨f, g, h1, h2, h3, h4, h5⟩ := h
  refine z_run C [] 2 ?_
  simp only [z_x, z_n, z_stop, z_mem, z_ldi, z_lda, z_sto, z_s1, z_s2, z_sa, z_sv, z_br, z_bn, z_ob, z_ar, z_aq, z_al, z_rt, z_ra, z_at, z_st, z_K0i, z_K0v, zk_0, zk_1, zk_2, zk_3, z_lv, List.map_cons, List.map_nil, List.length_cons, List.length_nil, List.replicate, List.cons_append, List.nil_append, Nat.reduceAdd, Nat.reduceSub, Nat.reduceBEq, Nat.reduceEqDiff, Nat.reduceLT, Nat.reduceLeDiff, Nat.zero_add, Int.cast_ofNat_Int, Int.reduceAdd, Int.reduceNeg, Int.reduceToNat, Int.reduceLE, Int.zero_add, Int.toNat_zero, Int.add_zero, Int.add_neg_cancel_right, Fin.isValue, Int32.reduceOfInt, ↓reduceIte, Bool.false_eq_true, Bool.or_false, Bool.false_or, Bool.or_true, Bool.true_or, if_true, if_false, true_and, and_true, true_or, or_true, false_or, or_false, eq_self, and_self, z_up_i, Nat.add_left_cancel_iff, Nat.left_eq_add, Nat.add_eq_left, reduceCtorEq, Nat.add_one_ne_zero, z_tt, implies_true, zn_0, zn_1, zo_0, zo_1, dX0_swap_0, dX0_swap_1, dX0_swap_4, dX0_swap_5, dX0_swap_6, dX0_swap_9, dX0_swap_10, dX0_swap_11, dX0_swap_14, dX0_swap_15, dX0_swap_16, dX0_swap_17, dX0_swap_20, dX0_swap_21, dX0_swap_24, dX0_swap_25, dX0_swap_26, dX0_swap_27, dX0_swap_28, dX0_swap_31, dX0_swap_32, dX0_swap_33, dX0_swap_36, dX0_swap_37, dX0_swap_38, dX0_swap_39, dX0_swap_40, dX0_swap_41, dX0_swap_42, dX0_swap_45, dX0_swap_46, dX0_swap_47, dX0_swap_48, dX0_swap_49, dX0_swap_50, zf_0_9, zi_1]
  refine z_ni C dX0_swap_1 lk_0_35 (c_placeOf a (by omega)) rfl (fun v M2 hv => ?_)
  obtain ⟨rfl, rfl⟩ := hv
  obtain ⟨k, hk⟩ : ∃ k, k = a / 10 := ⟨_, rfl⟩
  rw [← hk] at ha ⊢
  refine z_run C [] 40 ?_
  simp only [z_x, z_n, z_stop, z_mem, z_ldi, z_lda, z_sto, z_s1, z_s2, z_sa, z_sv, z_br, z_bn, z_ob, z_ar, z_aq, z_al, z_rt, z_ra, z_at, z_st, z_K0i, z_K0v, zk_0, zk_1, zk_2, zk_3, z_lv, List.map_cons, List.map_nil, List.length_cons, List.length_nil, List.replicate, List.cons_append, List.nil_append, Nat.reduceAdd, Nat.reduceSub, Nat.reduceBEq, Nat.reduceEqDiff, Nat.reduceLT, Nat.reduceLeDiff, Nat.zero_add, Int.cast_ofNat_Int, Int.reduceAdd, Int.reduceNeg, Int.reduceToNat, Int.reduceLE, Int.zero_add, Int.toNat_zero, Int.add_zero, Int.add_neg_cancel_right, Fin.isValue, Int32.reduceOfInt, ↓reduceIte, Bool.false_eq_true, Bool.or_false, Bool.false_or, Bool.or_true, Bool.true_or, if_true, if_false, true_and, and_true, true_or, or_true, false_or, or_false, eq_self, and_self, z_up_i, Nat.add_left_cancel_iff, Nat.left_eq_add, Nat.add_eq_left, reduceCtorEq, Nat.add_one_ne_zero, z_tt, implies_true, zn_0, zn_1, zo_0, zo_1, dX0_swap_0, dX0_swap_1, dX0_swap_4, dX0_swap_5, dX0_swap_6, dX0_swap_9, dX0_swap_10, dX0_swap_11, dX0_swap_14, dX0_swap_15, dX0_swap_16, dX0_swap_17, dX0_swap_20, dX0_swap_21, dX0_swap_24, dX0_swap_25, dX0_swap_26, dX0_swap_27, dX0_swap_28, dX0_swap_31, dX0_swap_32, dX0_swap_33, dX0_swap_36, dX0_swap_37, dX0_swap_38, dX0_swap_39, dX0_swap_40, dX0_swap_41, dX0_swap_42, dX0_swap_45, dX0_swap_46, dX0_swap_47, dX0_swap_48, dX0_swap_49, dX0_swap_50, zf_0_9, zi_1, h1, h2]
  rw [← hk]
  refine ⟨fun c1 => absurd c1 (nI_pos (by omega)), fun c1 => ⟨fun c2 => absurd ((nI_leI (a := 7) (by omega) (by omega)).mp c2) (by omega), fun c2 => ?_⟩⟩
  rw [nI_1, nI_clamp (by omega), nI_clamp (by omega)]
  refine ⟨vp_in_nI (by omega) (by omega), vp_in_nI (by omega) (by omega), vp_in_nI (by omega) (by omega), vp_in_nI (by omega) (by omega), fun c hc => ?_, ?_⟩
  · rw [z_up_n hc, z_up_n hc]
  · refine ⟨_, g, ?_, z_up_s _ _ _, ?_, fun j hj => ?_, h5⟩
    · rw [z_up_n (by omega), z_up_n (by omega)]; exact h1
    · rw [z_up_n (by omega), z_up_n (by omega)]; exact h3
    · unfold m_swp
      by_cases e1 : j = k
      · subst e1
        simp [upd]
        exact h4 _ (by omega)
      · by_cases e2 : j = k + 1
        · subst e2
          simp [upd]
          exact h4 _ (by omega)
        · simp [upd, e1, e2]
          exact h4 _ hj
set_option maxRecDepth 100000 in
set_option maxHeartbeats 4000000 in
theorem c_layBehind {l : Launch} {E : zE} {d : Nat} {M : zH} {b r cap : Nat} {p q : Nat → Nat} {ls : List Nat} (h : z_brd M b p q) (hr : z_row M r cap (ls.map nI)) (hls : ∀ a ∈ ls, a / 10 < 7) (hn : r ≠ b + 1 ∧ r + 1 ≠ b + 1) : nX0_layBehind l E (d + 2) [.ref b, .ref r] M (z_v fun M' => z_fp M M' (fun a => a = b + 1) ∧ z_brd M' b (m_lay ls id) q) := by
  refine z_cn 0 fun P z C => ?_
  have hcap := hr.le
  simp only [List.length_map] at hcap
  have loop : ∀ (n i : Nat) (M1 : zH), i + n = ls.length → z_fp M M1 (fun a => a = b + 1) → z_brd M1 b (m_lay (ls.take i) id) q → P (M1, z, 0, 0) 6 [some (.ref b), some (.ref r), some (.int (nI i))] [] := by
    intro n
    induction n with
    | zero =>
      intro i M1 hi hf hb
      have hr1 := hr.fp hf (by omega) (by omega)
      refine z_run C [] 3 ?_
      simp only [z_x, z_n, z_stop, z_mem, z_ldi, z_lda, z_sto, z_s1, z_s2, z_sa, z_sv, z_br, z_bn, z_ob, z_ar, z_aq, z_al, z_rt, z_ra, z_at, z_st, z_K0i, z_K0v, zk_0, zk_1, zk_2, zk_3, z_lv, List.map_cons, List.map_nil, List.length_cons, List.length_nil, List.replicate, List.cons_append, List.nil_append, Nat.reduceAdd, Nat.reduceSub, Nat.reduceBEq, Nat.reduceEqDiff, Nat.reduceLT, Nat.reduceLeDiff, Nat.zero_add, Int.cast_ofNat_Int, Int.reduceAdd, Int.reduceNeg, Int.reduceToNat, Int.reduceLE, Int.zero_add, Int.toNat_zero, Int.add_zero, Int.add_neg_cancel_right, Fin.isValue, Int32.reduceOfInt, ↓reduceIte, Bool.false_eq_true, Bool.or_false, Bool.false_or, Bool.or_true, Bool.true_or, if_true, if_false, true_and, and_true, true_or, or_true, false_or, or_false, eq_self, and_self, z_up_i, Nat.add_left_cancel_iff, Nat.left_eq_add, Nat.add_eq_left, reduceCtorEq, Nat.add_one_ne_zero, z_tt, implies_true, zn_0, zn_1, zo_0, zo_1, dX0_layBehind_0, dX0_layBehind_1, dX0_layBehind_4, dX0_layBehind_5, dX0_layBehind_6, dX0_layBehind_7, dX0_layBehind_8, dX0_layBehind_11, dX0_layBehind_14, dX0_layBehind_15, dX0_layBehind_16, dX0_layBehind_17, dX0_layBehind_20, dX0_layBehind_23, dX0_layBehind_26, dX0_layBehind_29, zi_0, zi_1]
      refine z_vi C dX0_layBehind_8 lk_0_21 (c_size hr1) rfl hr1.ob (fun v M2 hv => ?_)
      obtain ⟨rfl, rfl⟩ := hv
      refine z_run C [] 3 ?_
      simp only [z_x, z_n, z_stop, z_mem, z_ldi, z_lda, z_sto, z_s1, z_s2, z_sa, z_sv, z_br, z_bn, z_ob, z_ar, z_aq, z_al, z_rt, z_ra, z_at, z_st, z_K0i, z_K0v, zk_0, zk_1, zk_2, zk_3, z_lv, List.map_cons, List.map_nil, List.length_cons, List.length_nil, List.replicate, List.cons_append, List.nil_append, Nat.reduceAdd, Nat.reduceSub, Nat.reduceBEq, Nat.reduceEqDiff, Nat.reduceLT, Nat.reduceLeDiff, Nat.zero_add, Int.cast_ofNat_Int, Int.reduceAdd, Int.reduceNeg, Int.reduceToNat, Int.reduceLE, Int.zero_add, Int.toNat_zero, Int.add_zero, Int.add_neg_cancel_right, Fin.isValue, Int32.reduceOfInt, ↓reduceIte, Bool.false_eq_true, Bool.or_false, Bool.false_or, Bool.or_true, Bool.true_or, if_true, if_false, true_and, and_true, true_or, or_true, false_or, or_false, eq_self, and_self, z_up_i, Nat.add_left_cancel_iff, Nat.left_eq_add, Nat.add_eq_left, reduceCtorEq, Nat.add_one_ne_zero, z_tt, implies_true, zn_0, zn_1, zo_0, zo_1, dX0_layBehind_0, dX0_layBehind_1, dX0_layBehind_4, dX0_layBehind_5, dX0_layBehind_6, dX0_layBehind_7, dX0_layBehind_8, dX0_layBehind_11, dX0_layBehind_14, dX0_layBehind_15, dX0_layBehind_16, dX0_layBehind_17, dX0_layBehind_20, dX0_layBehind_23, dX0_layBehind_26, dX0_layBehind_29, zi_0, zi_1]
      simp only [List.length_map]
      refine ⟨fun _ => ⟨hf, ?_⟩, fun c1 => absurd (nI_le (by omega) (by omega)) c1⟩
      rw [List.take_of_length_le (by omega)] at hb
      exact hb
    | succ n ih =>
      intro i M1 hi hf hb
      have hr1 := hr.fp hf (by omega) (by omega)
      refine z_run C [] 3 ?_
      simp only [z_x, z_n, z_stop, z_mem, z_ldi, z_lda, z_sto, z_s1, z_s2, z_sa, z_sv, z_br, z_bn, z_ob, z_ar, z_aq, z_al, z_rt, z_ra, z_at, z_st, z_K0i, z_K0v, zk_0, zk_1, zk_2, zk_3, z_lv, List.map_cons, List.map_nil, List.length_cons, List.length_nil, List.replicate, List.cons_append, List.nil_append, Nat.reduceAdd, Nat.reduceSub, Nat.reduceBEq, Nat.reduceEqDiff, Nat.reduceLT, Nat.reduceLeDiff, Nat.zero_add, Int.cast_ofNat_Int, Int.reduceAdd, Int.reduceNeg, Int.reduceToNat, Int.reduceLE, Int.zero_add, Int.toNat_zero, Int.add_zero, Int.add_neg_cancel_right, Fin.isValue, Int32.reduceOfInt, ↓reduceIte, Bool.false_eq_true, Bool.or_false, Bool.false_or, Bool.or_true, Bool.true_or, if_true, if_false, true_and, and_true, true_or, or_true, false_or, or_false, eq_self, and_self, z_up_i, Nat.add_left_cancel_iff, Nat.left_eq_add, Nat.add_eq_left, reduceCtorEq, Nat.add_one_ne_zero, z_tt, implies_true, zn_0, zn_1, zo_0, zo_1, dX0_layBehind_0, dX0_layBehind_1, dX0_layBehind_4, dX0_layBehind_5, dX0_layBehind_6, dX0_layBehind_7, dX0_layBehind_8, dX0_layBehind_11, dX0_layBehind_14, dX0_layBehind_15, dX0_layBehind_16, dX0_layBehind_17, dX0_layBehind_20, dX0_layBehind_23, dX0_layBehind_26, dX0_layBehind_29, zi_0, zi_1]
      refine z_vi C dX0_layBehind_8 lk_0_21 (c_size hr1) rfl hr1.ob (fun v M2 hv => ?_)
      obtain ⟨rfl, rfl⟩ := hv
      refine z_run C [] 5 ?_
      simp only [z_x, z_n, z_stop, z_mem, z_ldi, z_lda, z_sto, z_s1, z_s2, z_sa, z_sv, z_br, z_bn, z_ob, z_ar, z_aq, z_al, z_rt, z_ra, z_at, z_st, z_K0i, z_K0v, zk_0, zk_1, zk_2, zk_3, z_lv, List.map_cons, List.map_nil, List.length_cons, List.length_nil, List.replicate, List.cons_append, List.nil_append, Nat.reduceAdd, Nat.reduceSub, Nat.reduceBEq, Nat.reduceEqDiff, Nat.reduceLT, Nat.reduceLeDiff, Nat.zero_add, Int.cast_ofNat_Int, Int.reduceAdd, Int.reduceNeg, Int.reduceToNat, Int.reduceLE, Int.zero_add, Int.toNat_zero, Int.add_zero, Int.add_neg_cancel_right, Fin.isValue, Int32.reduceOfInt, ↓reduceIte, Bool.false_eq_true, Bool.or_false, Bool.false_or, Bool.or_true, Bool.true_or, if_true, if_false, true_and, and_true, true_or, or_true, false_or, or_false, eq_self, and_self, z_up_i, Nat.add_left_cancel_iff, Nat.left_eq_add, Nat.add_eq_left, reduceCtorEq, Nat.add_one_ne_zero, z_tt, implies_true, zn_0, zn_1, zo_0, zo_1, dX0_layBehind_0, dX0_layBehind_1, dX0_layBehind_4, dX0_layBehind_5, dX0_layBehind_6, dX0_layBehind_7, dX0_layBehind_8, dX0_layBehind_11, dX0_layBehind_14, dX0_layBehind_15, dX0_layBehind_16, dX0_layBehind_17, dX0_layBehind_20, dX0_layBehind_23, dX0_layBehind_26, dX0_layBehind_29, zi_0, zi_1]
      simp only [List.length_map]
      refine ⟨fun c1 => absurd ((nI_leI (by omega) (by omega)).mp c1) (by omega), fun _ => ?_⟩
      refine z_vi C dX0_layBehind_17 lk_0_27 (c_get (nI i) hr1) rfl hr1.ob (fun v M2 hv => ?_)
      obtain ⟨rfl, rfl⟩ := hv
      rw [z_getN (by omega) (by omega)]
      have hg : ls[i]? = some (ls.getD i 0) := by simp [show i < ls.length by omega]
      refine z_vv C dX0_layBehind_20 lk_0_31 (c_swap (ls.getD i 0) (hls _ (List.mem_of_getElem? hg)) hb) rfl hb.ob (fun M3 hv => ?_)
      obtain ⟨hf3, hb3⟩ := hv
      refine z_run C [6] 5 ?_
      simp only [z_x, z_n, z_stop, z_mem, z_ldi, z_lda, z_sto, z_s1, z_s2, z_sa, z_sv, z_br, z_bn, z_ob, z_ar, z_aq, z_al, z_rt, z_ra, z_at, z_st, z_K0i, z_K0v, zk_0, zk_1, zk_2, zk_3, z_lv, List.map_cons, List.map_nil, List.length_cons, List.length_nil, List.replicate, List.cons_append, List.nil_append, Nat.reduceAdd, Nat.reduceSub, Nat.reduceBEq, Nat.reduceEqDiff, Nat.reduceLT, Nat.reduceLeDiff, Nat.zero_add, Int.cast_ofNat_Int, Int.reduceAdd, Int.reduceNeg, Int.reduceToNat, Int.reduceLE, Int.zero_add, Int.toNat_zero, Int.add_zero, Int.add_neg_cancel_right, Fin.isValue, Int32.reduceOfInt, ↓reduceIte, Bool.false_eq_true, Bool.or_false, Bool.false_or, Bool.or_true, Bool.true_or, if_true, if_false, true_and, and_true, true_or, or_true, false_or, or_false, eq_self, and_self, z_up_i, Nat.add_left_cancel_iff, Nat.left_eq_add, Nat.add_eq_left, reduceCtorEq, Nat.add_one_ne_zero, z_tt, implies_true, zn_0, zn_1, zo_0, zo_1, dX0_layBehind_0, dX0_layBehind_1, dX0_layBehind_4, dX0_layBehind_5, dX0_layBehind_6, dX0_layBehind_7, dX0_layBehind_8, dX0_layBehind_11, dX0_layBehind_14, dX0_layBehind_15, dX0_layBehind_16, dX0_layBehind_17, dX0_layBehind_20, dX0_layBehind_23, dX0_layBehind_26, dX0_layBehind_29, zi_0, zi_1]
      rw [nI_1]
      refine ih (i + 1) M3 (by omega) (hf.tr hf3) ?_
      rw [z_take1 hg, m_lay, List.foldl_append]
      exact hb3
  refine z_run C [] 3 ?_
  simp only [z_x, z_n, z_stop, z_mem, z_ldi, z_lda, z_sto, z_s1, z_s2, z_sa, z_sv, z_br, z_bn, z_ob, z_ar, z_aq, z_al, z_rt, z_ra, z_at, z_st, z_K0i, z_K0v, zk_0, zk_1, zk_2, zk_3, z_lv, List.map_cons, List.map_nil, List.length_cons, List.length_nil, List.replicate, List.cons_append, List.nil_append, Nat.reduceAdd, Nat.reduceSub, Nat.reduceBEq, Nat.reduceEqDiff, Nat.reduceLT, Nat.reduceLeDiff, Nat.zero_add, Int.cast_ofNat_Int, Int.reduceAdd, Int.reduceNeg, Int.reduceToNat, Int.reduceLE, Int.zero_add, Int.toNat_zero, Int.add_zero, Int.add_neg_cancel_right, Fin.isValue, Int32.reduceOfInt, ↓reduceIte, Bool.false_eq_true, Bool.or_false, Bool.false_or, Bool.or_true, Bool.true_or, if_true, if_false, true_and, and_true, true_or, or_true, false_or, or_false, eq_self, and_self, z_up_i, Nat.add_left_cancel_iff, Nat.left_eq_add, Nat.add_eq_left, reduceCtorEq, Nat.add_one_ne_zero, z_tt, implies_true, zn_0, zn_1, zo_0, zo_1, dX0_layBehind_0, dX0_layBehind_1, dX0_layBehind_4, dX0_layBehind_5, dX0_layBehind_6, dX0_layBehind_7, dX0_layBehind_8, dX0_layBehind_11, dX0_layBehind_14, dX0_layBehind_15, dX0_layBehind_16, dX0_layBehind_17, dX0_layBehind_20, dX0_layBehind_23, dX0_layBehind_26, dX0_layBehind_29, zi_0, zi_1]
  refine z_vv C dX0_layBehind_1 lk_0_18 (c_layAsAtFirst h) rfl h.ob (fun M3 hv => ?_)
  obtain ⟨hf3, hb3⟩ := hv
  refine z_run C [6] 5 ?_
  simp only [z_x, z_n, z_stop, z_mem, z_ldi, z_lda, z_sto, z_s1, z_s2, z_sa, z_sv, z_br, z_bn, z_ob, z_ar, z_aq, z_al, z_rt, z_ra, z_at, z_st, z_K0i, z_K0v, zk_0, zk_1, zk_2, zk_3, z_lv, List.map_cons, List.map_nil, List.length_cons, List.length_nil, List.replicate, List.cons_append, List.nil_append, Nat.reduceAdd, Nat.reduceSub, Nat.reduceBEq, Nat.reduceEqDiff, Nat.reduceLT, Nat.reduceLeDiff, Nat.zero_add, Int.cast_ofNat_Int, Int.reduceAdd, Int.reduceNeg, Int.reduceToNat, Int.reduceLE, Int.zero_add, Int.toNat_zero, Int.add_zero, Int.add_neg_cancel_right, Fin.isValue, Int32.reduceOfInt, ↓reduceIte, Bool.false_eq_true, Bool.or_false, Bool.false_or, Bool.or_true, Bool.true_or, if_true, if_false, true_and, and_true, true_or, or_true, false_or, or_false, eq_self, and_self, z_up_i, Nat.add_left_cancel_iff, Nat.left_eq_add, Nat.add_eq_left, reduceCtorEq, Nat.add_one_ne_zero, z_tt, implies_true, zn_0, zn_1, zo_0, zo_1, dX0_layBehind_0, dX0_layBehind_1, dX0_layBehind_4, dX0_layBehind_5, dX0_layBehind_6, dX0_layBehind_7, dX0_layBehind_8, dX0_layBehind_11, dX0_layBehind_14, dX0_layBehind_15, dX0_layBehind_16, dX0_layBehind_17, dX0_layBehind_20, dX0_layBehind_23, dX0_layBehind_26, dX0_layBehind_29, zi_0, zi_1]
  exact loop ls.length 0 M3 (by omega) hf3 hb3
set_option maxRecDepth 100000 in
set_option maxHeartbeats 4000000 in
theorem c_upper {l : Launch} {E : zE} {d : Nat} {M : zH} {b : Nat} {p q : Nat → Nat} (a : Nat) (ha : a / 10 < 7) (h : z_brd M b p q) : nX0_upper l E (d + 1) [.ref b, .int (nI a)] M (z_i fun v M' => v = nI (p (a / 10 + (if a % 10 = 1 then 1 else 0))) ∧ M' = M) := by
  refine z_cn 0 fun P z C => ?_
  refine z_run C [] 3 ?_
  simp only [z_x, z_n, z_stop, z_mem, z_ldi, z_lda, z_sto, z_s1, z_s2, z_sa, z_sv, z_br, z_bn, z_ob, z_ar, z_aq, z_al, z_rt, z_ra, z_at, z_st, z_K0i, z_K0v, zk_0, zk_1, zk_2, zk_3, z_lv, List.map_cons, List.map_nil, List.length_cons, List.length_nil, List.replicate, List.cons_append, List.nil_append, Nat.reduceAdd, Nat.reduceSub, Nat.reduceBEq, Nat.reduceEqDiff, Nat.reduceLT, Nat.reduceLeDiff, Nat.zero_add, Int.cast_ofNat_Int, Int.reduceAdd, Int.reduceNeg, Int.reduceToNat, Int.reduceLE, Int.zero_add, Int.toNat_zero, Int.add_zero, Int.add_neg_cancel_right, Fin.isValue, Int32.reduceOfInt, ↓reduceIte, Bool.false_eq_true, Bool.or_false, Bool.false_or, Bool.or_true, Bool.true_or, if_true, if_false, true_and, and_true, true_or, or_true, false_or, or_false, eq_self, and_self, z_up_i, Nat.add_left_cancel_iff, Nat.left_eq_add, Nat.add_eq_left, reduceCtorEq, Nat.add_one_ne_zero, z_tt, implies_true, zn_0, zn_1, zo_0, zo_1, dX0_upper_0, dX0_upper_1, dX0_upper_2, dX0_upper_5, dX0_upper_6, dX0_upper_9, dX0_upper_12, dX0_upper_13, dX0_upper_16, dX0_upper_17, dX0_upper_18, dX0_upper_21, zi_0, zi_1]
  refine z_ni C dX0_upper_2 lk_0_35 (c_placeOf a (by omega)) rfl (fun v M2 hv => ?_)
  obtain ⟨rfl, rfl⟩ := hv
  refine z_run C [] 3 ?_
  simp only [z_x, z_n, z_stop, z_mem, z_ldi, z_lda, z_sto, z_s1, z_s2, z_sa, z_sv, z_br, z_bn, z_ob, z_ar, z_aq, z_al, z_rt, z_ra, z_at, z_st, z_K0i, z_K0v, zk_0, zk_1, zk_2, zk_3, z_lv, List.map_cons, List.map_nil, List.length_cons, List.length_nil, List.replicate, List.cons_append, List.nil_append, Nat.reduceAdd, Nat.reduceSub, Nat.reduceBEq, Nat.reduceEqDiff, Nat.reduceLT, Nat.reduceLeDiff, Nat.zero_add, Int.cast_ofNat_Int, Int.reduceAdd, Int.reduceNeg, Int.reduceToNat, Int.reduceLE, Int.zero_add, Int.toNat_zero, Int.add_zero, Int.add_neg_cancel_right, Fin.isValue, Int32.reduceOfInt, ↓reduceIte, Bool.false_eq_true, Bool.or_false, Bool.false_or, Bool.or_true, Bool.true_or, if_true, if_false, true_and, and_true, true_or, or_true, false_or, or_false, eq_self, and_self, z_up_i, Nat.add_left_cancel_iff, Nat.left_eq_add, Nat.add_eq_left, reduceCtorEq, Nat.add_one_ne_zero, z_tt, implies_true, zn_0, zn_1, zo_0, zo_1, dX0_upper_0, dX0_upper_1, dX0_upper_2, dX0_upper_5, dX0_upper_6, dX0_upper_9, dX0_upper_12, dX0_upper_13, dX0_upper_16, dX0_upper_17, dX0_upper_18, dX0_upper_21, zi_0, zi_1]
  refine z_ni C dX0_upper_6 lk_0_38 (c_isRightOver a (by omega)) rfl (fun v M2 hv => ?_)
  obtain ⟨rfl, rfl⟩ := hv
  refine z_run C [] 10 ?_
  simp only [z_x, z_n, z_stop, z_mem, z_ldi, z_lda, z_sto, z_s1, z_s2, z_sa, z_sv, z_br, z_bn, z_ob, z_ar, z_aq, z_al, z_rt, z_ra, z_at, z_st, z_K0i, z_K0v, zk_0, zk_1, zk_2, zk_3, z_lv, List.map_cons, List.map_nil, List.length_cons, List.length_nil, List.replicate, List.cons_append, List.nil_append, Nat.reduceAdd, Nat.reduceSub, Nat.reduceBEq, Nat.reduceEqDiff, Nat.reduceLT, Nat.reduceLeDiff, Nat.zero_add, Int.cast_ofNat_Int, Int.reduceAdd, Int.reduceNeg, Int.reduceToNat, Int.reduceLE, Int.zero_add, Int.toNat_zero, Int.add_zero, Int.add_neg_cancel_right, Fin.isValue, Int32.reduceOfInt, ↓reduceIte, Bool.false_eq_true, Bool.or_false, Bool.false_or, Bool.or_true, Bool.true_or, if_true, if_false, true_and, and_true, true_or, or_true, false_or, or_false, eq_self, and_self, z_up_i, Nat.add_left_cancel_iff, Nat.left_eq_add, Nat.add_eq_left, reduceCtorEq, Nat.add_one_ne_zero, z_tt, implies_true, zn_0, zn_1, zo_0, zo_1, dX0_upper_0, dX0_upper_1, dX0_upper_2, dX0_upper_5, dX0_upper_6, dX0_upper_9, dX0_upper_12, dX0_upper_13, dX0_upper_16, dX0_upper_17, dX0_upper_18, dX0_upper_21, zi_0, zi_1]
  by_cases h1 : a % 10 = 1
  · simp only [h1, if_true]
    refine ⟨fun c => absurd c (by decide), fun _ => ?_⟩
    rw [nI_1]
    refine z_vi C dX0_upper_18 lk_0_42 (c_bobbinAt (a / 10 + 1) (by omega) h) rfl h.ob (fun v M2 hv => ?_)
    obtain ⟨rfl, rfl⟩ := hv
    refine z_run C [] 3 ?_
    simp only [z_x, z_n, z_stop, z_mem, z_ldi, z_lda, z_sto, z_s1, z_s2, z_sa, z_sv, z_br, z_bn, z_ob, z_ar, z_aq, z_al, z_rt, z_ra, z_at, z_st, z_K0i, z_K0v, zk_0, zk_1, zk_2, zk_3, z_lv, List.map_cons, List.map_nil, List.length_cons, List.length_nil, List.replicate, List.cons_append, List.nil_append, Nat.reduceAdd, Nat.reduceSub, Nat.reduceBEq, Nat.reduceEqDiff, Nat.reduceLT, Nat.reduceLeDiff, Nat.zero_add, Int.cast_ofNat_Int, Int.reduceAdd, Int.reduceNeg, Int.reduceToNat, Int.reduceLE, Int.zero_add, Int.toNat_zero, Int.add_zero, Int.add_neg_cancel_right, Fin.isValue, Int32.reduceOfInt, ↓reduceIte, Bool.false_eq_true, Bool.or_false, Bool.false_or, Bool.or_true, Bool.true_or, if_true, if_false, true_and, and_true, true_or, or_true, false_or, or_false, eq_self, and_self, z_up_i, Nat.add_left_cancel_iff, Nat.left_eq_add, Nat.add_eq_left, reduceCtorEq, Nat.add_one_ne_zero, z_tt, implies_true, zn_0, zn_1, zo_0, zo_1, dX0_upper_0, dX0_upper_1, dX0_upper_2, dX0_upper_5, dX0_upper_6, dX0_upper_9, dX0_upper_12, dX0_upper_13, dX0_upper_16, dX0_upper_17, dX0_upper_18, dX0_upper_21, zi_0, zi_1]
    exact ⟨by rw [if_pos h1], rfl⟩
  · simp only [h1, if_false]
    refine ⟨fun _ => ?_, fun c => absurd trivial c⟩
    rw [show (0 : Int32) = nI 0 from rfl, nI_add]
    refine z_vi C dX0_upper_18 lk_0_42 (c_bobbinAt (a / 10 + 0) (by omega) h) rfl h.ob (fun v M2 hv => ?_)
    obtain ⟨rfl, rfl⟩ := hv
    refine z_run C [] 3 ?_
    simp only [z_x, z_n, z_stop, z_mem, z_ldi, z_lda, z_sto, z_s1, z_s2, z_sa, z_sv, z_br, z_bn, z_ob, z_ar, z_aq, z_al, z_rt, z_ra, z_at, z_st, z_K0i, z_K0v, zk_0, zk_1, zk_2, zk_3, z_lv, List.map_cons, List.map_nil, List.length_cons, List.length_nil, List.replicate, List.cons_append, List.nil_append, Nat.reduceAdd, Nat.reduceSub, Nat.reduceBEq, Nat.reduceEqDiff, Nat.reduceLT, Nat.reduceLeDiff, Nat.zero_add, Int.cast_ofNat_Int, Int.reduceAdd, Int.reduceNeg, Int.reduceToNat, Int.reduceLE, Int.zero_add, Int.toNat_zero, Int.add_zero, Int.add_neg_cancel_right, Fin.isValue, Int32.reduceOfInt, ↓reduceIte, Bool.false_eq_true, Bool.or_false, Bool.false_or, Bool.or_true, Bool.true_or, if_true, if_false, true_and, and_true, true_or, or_true, false_or, or_false, eq_self, and_self, z_up_i, Nat.add_left_cancel_iff, Nat.left_eq_add, Nat.add_eq_left, reduceCtorEq, Nat.add_one_ne_zero, z_tt, implies_true, zn_0, zn_1, zo_0, zo_1, dX0_upper_0, dX0_upper_1, dX0_upper_2, dX0_upper_5, dX0_upper_6, dX0_upper_9, dX0_upper_12, dX0_upper_13, dX0_upper_16, dX0_upper_17, dX0_upper_18, dX0_upper_21, zi_0, zi_1]
    exact ⟨by rw [if_neg h1], rfl⟩
set_option maxRecDepth 100000 in
set_option maxHeartbeats 4000000 in
theorem c_lower {l : Launch} {E : zE} {d : Nat} {M : zH} {b : Nat} {p q : Nat → Nat} (a : Nat) (ha : a / 10 < 7) (h : z_brd M b p q) : nX0_lower l E (d + 1) [.ref b, .int (nI a)] M (z_i fun v M' => v = nI (p (a / 10 + (if a % 10 = 1 then 0 else 1))) ∧ M' = M) := by
  refine z_cn 0 fun P z C => ?_
  refine z_run C [] 3 ?_
  simp only [z_x, z_n, z_stop, z_mem, z_ldi, z_lda, z_sto, z_s1, z_s2, z_sa, z_sv, z_br, z_bn, z_ob, z_ar, z_aq, z_al, z_rt, z_ra, z_at, z_st, z_K0i, z_K0v, zk_0, zk_1, zk_2, zk_3, z_lv, List.map_cons, List.map_nil, List.length_cons, List.length_nil, List.replicate, List.cons_append, List.nil_append, Nat.reduceAdd, Nat.reduceSub, Nat.reduceBEq, Nat.reduceEqDiff, Nat.reduceLT, Nat.reduceLeDiff, Nat.zero_add, Int.cast_ofNat_Int, Int.reduceAdd, Int.reduceNeg, Int.reduceToNat, Int.reduceLE, Int.zero_add, Int.toNat_zero, Int.add_zero, Int.add_neg_cancel_right, Fin.isValue, Int32.reduceOfInt, ↓reduceIte, Bool.false_eq_true, Bool.or_false, Bool.false_or, Bool.or_true, Bool.true_or, if_true, if_false, true_and, and_true, true_or, or_true, false_or, or_false, eq_self, and_self, z_up_i, Nat.add_left_cancel_iff, Nat.left_eq_add, Nat.add_eq_left, reduceCtorEq, Nat.add_one_ne_zero, z_tt, implies_true, zn_0, zn_1, zo_0, zo_1, dX0_lower_0, dX0_lower_1, dX0_lower_2, dX0_lower_5, dX0_lower_6, dX0_lower_9, dX0_lower_12, dX0_lower_13, dX0_lower_16, dX0_lower_17, dX0_lower_18, dX0_lower_21, zi_0, zi_1]
  refine z_ni C dX0_lower_2 lk_0_35 (c_placeOf a (by omega)) rfl (fun v M2 hv => ?_)
  obtain ⟨rfl, rfl⟩ := hv
  refine z_run C [] 3 ?_
  simp only [z_x, z_n, z_stop, z_mem, z_ldi, z_lda, z_sto, z_s1, z_s2, z_sa, z_sv, z_br, z_bn, z_ob, z_ar, z_aq, z_al, z_rt, z_ra, z_at, z_st, z_K0i, z_K0v, zk_0, zk_1, zk_2, zk_3, z_lv, List.map_cons, List.map_nil, List.length_cons, List.length_nil, List.replicate, List.cons_append, List.nil_append, Nat.reduceAdd, Nat.reduceSub, Nat.reduceBEq, Nat.reduceEqDiff, Nat.reduceLT, Nat.reduceLeDiff, Nat.zero_add, Int.cast_ofNat_Int, Int.reduceAdd, Int.reduceNeg, Int.reduceToNat, Int.reduceLE, Int.zero_add, Int.toNat_zero, Int.add_zero, Int.add_neg_cancel_right, Fin.isValue, Int32.reduceOfInt, ↓reduceIte, Bool.false_eq_true, Bool.or_false, Bool.false_or, Bool.or_true, Bool.true_or, if_true, if_false, true_and, and_true, true_or, or_true, false_or, or_false, eq_self, and_self, z_up_i, Nat.add_left_cancel_iff, Nat.left_eq_add, Nat.add_eq_left, reduceCtorEq, Nat.add_one_ne_zero, z_tt, implies_true, zn_0, zn_1, zo_0, zo_1, dX0_lower_0, dX0_lower_1, dX0_lower_2, dX0_lower_5, dX0_lower_6, dX0_lower_9, dX0_lower_12, dX0_lower_13, dX0_lower_16, dX0_lower_17, dX0_lower_18, dX0_lower_21, zi_0, zi_1]
  refine z_ni C dX0_lower_6 lk_0_38 (c_isRightOver a (by omega)) rfl (fun v M2 hv => ?_)
  obtain ⟨rfl, rfl⟩ := hv
  refine z_run C [] 10 ?_
  simp only [z_x, z_n, z_stop, z_mem, z_ldi, z_lda, z_sto, z_s1, z_s2, z_sa, z_sv, z_br, z_bn, z_ob, z_ar, z_aq, z_al, z_rt, z_ra, z_at, z_st, z_K0i, z_K0v, zk_0, zk_1, zk_2, zk_3, z_lv, List.map_cons, List.map_nil, List.length_cons, List.length_nil, List.replicate, List.cons_append, List.nil_append, Nat.reduceAdd, Nat.reduceSub, Nat.reduceBEq, Nat.reduceEqDiff, Nat.reduceLT, Nat.reduceLeDiff, Nat.zero_add, Int.cast_ofNat_Int, Int.reduceAdd, Int.reduceNeg, Int.reduceToNat, Int.reduceLE, Int.zero_add, Int.toNat_zero, Int.add_zero, Int.add_neg_cancel_right, Fin.isValue, Int32.reduceOfInt, ↓reduceIte, Bool.false_eq_true, Bool.or_false, Bool.false_or, Bool.or_true, Bool.true_or, if_true, if_false, true_and, and_true, true_or, or_true, false_or, or_false, eq_self, and_self, z_up_i, Nat.add_left_cancel_iff, Nat.left_eq_add, Nat.add_eq_left, reduceCtorEq, Nat.add_one_ne_zero, z_tt, implies_true, zn_0, zn_1, zo_0, zo_1, dX0_lower_0, dX0_lower_1, dX0_lower_2, dX0_lower_5, dX0_lower_6, dX0_lower_9, dX0_lower_12, dX0_lower_13, dX0_lower_16, dX0_lower_17, dX0_lower_18, dX0_lower_21, zi_0, zi_1]
  by_cases h1 : a % 10 = 1
  · simp only [h1, if_true]
    refine ⟨fun c => absurd c (by decide), fun _ => ?_⟩
    rw [show (0 : Int32) = nI 0 from rfl, nI_add]
    refine z_vi C dX0_lower_18 lk_0_42 (c_bobbinAt (a / 10 + 0) (by omega) h) rfl h.ob (fun v M2 hv => ?_)
    obtain ⟨rfl, rfl⟩ := hv
    refine z_run C [] 3 ?_
    simp only [z_x, z_n, z_stop, z_mem, z_ldi, z_lda, z_sto, z_s1, z_s2, z_sa, z_sv, z_br, z_bn, z_ob, z_ar, z_aq, z_al, z_rt, z_ra, z_at, z_st, z_K0i, z_K0v, zk_0, zk_1, zk_2, zk_3, z_lv, List.map_cons, List.map_nil, List.length_cons, List.length_nil, List.replicate, List.cons_append, List.nil_append, Nat.reduceAdd, Nat.reduceSub, Nat.reduceBEq, Nat.reduceEqDiff, Nat.reduceLT, Nat.reduceLeDiff, Nat.zero_add, Int.cast_ofNat_Int, Int.reduceAdd, Int.reduceNeg, Int.reduceToNat, Int.reduceLE, Int.zero_add, Int.toNat_zero, Int.add_zero, Int.add_neg_cancel_right, Fin.isValue, Int32.reduceOfInt, ↓reduceIte, Bool.false_eq_true, Bool.or_false, Bool.false_or, Bool.or_true, Bool.true_or, if_true, if_false, true_and, and_true, true_or, or_true, false_or, or_false, eq_self, and_self, z_up_i, Nat.add_left_cancel_iff, Nat.left_eq_add, Nat.add_eq_left, reduceCtorEq, Nat.add_one_ne_zero, z_tt, implies_true, zn_0, zn_1, zo_0, zo_1, dX0_lower_0, dX0_lower_1, dX0_lower_2, dX0_lower_5, dX0_lower_6, dX0_lower_9, dX0_lower_12, dX0_lower_13, dX0_lower_16, dX0_lower_17, dX0_lower_18, dX0_lower_21, zi_0, zi_1]
    exact ⟨by rw [if_pos h1], rfl⟩
  · simp only [h1, if_false]
    refine ⟨fun _ => ?_, fun c => absurd trivial c⟩
    rw [nI_1]
    refine z_vi C dX0_lower_18 lk_0_42 (c_bobbinAt (a / 10 + 1) (by omega) h) rfl h.ob (fun v M2 hv => ?_)
    obtain ⟨rfl, rfl⟩ := hv
    refine z_run C [] 3 ?_
    simp only [z_x, z_n, z_stop, z_mem, z_ldi, z_lda, z_sto, z_s1, z_s2, z_sa, z_sv, z_br, z_bn, z_ob, z_ar, z_aq, z_al, z_rt, z_ra, z_at, z_st, z_K0i, z_K0v, zk_0, zk_1, zk_2, zk_3, z_lv, List.map_cons, List.map_nil, List.length_cons, List.length_nil, List.replicate, List.cons_append, List.nil_append, Nat.reduceAdd, Nat.reduceSub, Nat.reduceBEq, Nat.reduceEqDiff, Nat.reduceLT, Nat.reduceLeDiff, Nat.zero_add, Int.cast_ofNat_Int, Int.reduceAdd, Int.reduceNeg, Int.reduceToNat, Int.reduceLE, Int.zero_add, Int.toNat_zero, Int.add_zero, Int.add_neg_cancel_right, Fin.isValue, Int32.reduceOfInt, ↓reduceIte, Bool.false_eq_true, Bool.or_false, Bool.false_or, Bool.or_true, Bool.true_or, if_true, if_false, true_and, and_true, true_or, or_true, false_or, or_false, eq_self, and_self, z_up_i, Nat.add_left_cancel_iff, Nat.left_eq_add, Nat.add_eq_left, reduceCtorEq, Nat.add_one_ne_zero, z_tt, implies_true, zn_0, zn_1, zo_0, zo_1, dX0_lower_0, dX0_lower_1, dX0_lower_2, dX0_lower_5, dX0_lower_6, dX0_lower_9, dX0_lower_12, dX0_lower_13, dX0_lower_16, dX0_lower_17, dX0_lower_18, dX0_lower_21, zi_0, zi_1]
    exact ⟨by rw [if_neg h1], rfl⟩
/-- how many lie as at first -/
def m_fix (p : Nat → Nat) (n : Nat) : Nat := ((List.range n).filter (fun j => p j == j)).length
theorem m_fix_le (p : Nat → Nat) (n : Nat) : m_fix p n ≤ n := by
  unfold m_fix
  exact Nat.le_trans (List.length_filter_le _ _) (by simp)
theorem m_fix_s (p : Nat → Nat) (n : Nat) : m_fix p (n + 1) = m_fix p n + if p n = n then 1 else 0 := by
  unfold m_fix
  rw [List.range_succ, List.filter_append, List.length_append]
  by_cases h : p n = n <;> simp [h]
set_option maxRecDepth 100000 in
set_option maxHeartbeats 4000000 in
theorem c_lyingAsAtFirst {l : Launch} {E : zE} {d : Nat} {M : zH} {b : Nat} {p q : Nat → Nat} (h : z_brd M b p q) : nX0_lyingAsAtFirst l E d [.ref b] M (z_i fun v M' => v = nI (m_fix p 8) ∧ M' = M) := by
  refine z_cn 0 fun P z C => ?_
  obtain ⟨f, g, h1, h2, h3, h4, h5⟩ := h
  have loop : ∀ (n i : Nat), i + n = 8 → P (M, z, 0, 0) 4 [some (.ref b), some (.int (nI (m_fix p i))), some (.int (nI i))] [] := by
    intro n
    induction n with
    | zero =>
      intro i hi
      refine z_run C [] 20 ?_
      simp only [z_x, z_n, z_stop, z_mem, z_ldi, z_lda, z_sto, z_s1, z_s2, z_sa, z_sv, z_br, z_bn, z_ob, z_ar, z_aq, z_al, z_rt, z_ra, z_at, z_st, z_K0i, z_K0v, zk_0, zk_1, zk_2, zk_3, z_lv, List.map_cons, List.map_nil, List.length_cons, List.length_nil, List.replicate, List.cons_append, List.nil_append, Nat.reduceAdd, Nat.reduceSub, Nat.reduceBEq, Nat.reduceEqDiff, Nat.reduceLT, Nat.reduceLeDiff, Nat.zero_add, Int.cast_ofNat_Int, Int.reduceAdd, Int.reduceNeg, Int.reduceToNat, Int.reduceLE, Int.zero_add, Int.toNat_zero, Int.add_zero, Int.add_neg_cancel_right, Fin.isValue, Int32.reduceOfInt, ↓reduceIte, Bool.false_eq_true, Bool.or_false, Bool.false_or, Bool.or_true, Bool.true_or, if_true, if_false, true_and, and_true, true_or, or_true, false_or, or_false, eq_self, and_self, z_up_i, Nat.add_left_cancel_iff, Nat.left_eq_add, Nat.add_eq_left, reduceCtorEq, Nat.add_one_ne_zero, z_tt, implies_true, zn_0, zn_1, zo_0, zo_1, dX0_lyingAsAtFirst_0, dX0_lyingAsAtFirst_1, dX0_lyingAsAtFirst_2, dX0_lyingAsAtFirst_3, dX0_lyingAsAtFirst_4, dX0_lyingAsAtFirst_5, dX0_lyingAsAtFirst_6, dX0_lyingAsAtFirst_9, dX0_lyingAsAtFirst_10, dX0_lyingAsAtFirst_13, dX0_lyingAsAtFirst_14, dX0_lyingAsAtFirst_15, dX0_lyingAsAtFirst_18, dX0_lyingAsAtFirst_19, dX0_lyingAsAtFirst_20, dX0_lyingAsAtFirst_21, dX0_lyingAsAtFirst_24, dX0_lyingAsAtFirst_25, dX0_lyingAsAtFirst_28, dX0_lyingAsAtFirst_29, dX0_lyingAsAtFirst_30, dX0_lyingAsAtFirst_31, dX0_lyingAsAtFirst_34, dX0_lyingAsAtFirst_37, dX0_lyingAsAtFirst_38, zf_0_9, zi_0, zi_1, h1, h2]
      refine ⟨fun _ => ⟨by rw [show i = 8 by omega], rfl⟩, fun c1 => absurd (nI_le (by omega) (by omega)) c1⟩
    | succ n ih =>
      intro i hi
      refine z_run C [4] 30 ?_
      simp only [z_x, z_n, z_stop, z_mem, z_ldi, z_lda, z_sto, z_s1, z_s2, z_sa, z_sv, z_br, z_bn, z_ob, z_ar, z_aq, z_al, z_rt, z_ra, z_at, z_st, z_K0i, z_K0v, zk_0, zk_1, zk_2, zk_3, z_lv, List.map_cons, List.map_nil, List.length_cons, List.length_nil, List.replicate, List.cons_append, List.nil_append, Nat.reduceAdd, Nat.reduceSub, Nat.reduceBEq, Nat.reduceEqDiff, Nat.reduceLT, Nat.reduceLeDiff, Nat.zero_add, Int.cast_ofNat_Int, Int.reduceAdd, Int.reduceNeg, Int.reduceToNat, Int.reduceLE, Int.zero_add, Int.toNat_zero, Int.add_zero, Int.add_neg_cancel_right, Fin.isValue, Int32.reduceOfInt, ↓reduceIte, Bool.false_eq_true, Bool.or_false, Bool.false_or, Bool.or_true, Bool.true_or, if_true, if_false, true_and, and_true, true_or, or_true, false_or, or_false, eq_self, and_self, z_up_i, Nat.add_left_cancel_iff, Nat.left_eq_add, Nat.add_eq_left, reduceCtorEq, Nat.add_one_ne_zero, z_tt, implies_true, zn_0, zn_1, zo_0, zo_1, dX0_lyingAsAtFirst_0, dX0_lyingAsAtFirst_1, dX0_lyingAsAtFirst_2, dX0_lyingAsAtFirst_3, dX0_lyingAsAtFirst_4, dX0_lyingAsAtFirst_5, dX0_lyingAsAtFirst_6, dX0_lyingAsAtFirst_9, dX0_lyingAsAtFirst_10, dX0_lyingAsAtFirst_13, dX0_lyingAsAtFirst_14, dX0_lyingAsAtFirst_15, dX0_lyingAsAtFirst_18, dX0_lyingAsAtFirst_19, dX0_lyingAsAtFirst_20, dX0_lyingAsAtFirst_21, dX0_lyingAsAtFirst_24, dX0_lyingAsAtFirst_25, dX0_lyingAsAtFirst_28, dX0_lyingAsAtFirst_29, dX0_lyingAsAtFirst_30, dX0_lyingAsAtFirst_31, dX0_lyingAsAtFirst_34, dX0_lyingAsAtFirst_37, dX0_lyingAsAtFirst_38, zf_0_9, zi_0, zi_1, h1, h2]
      refine ⟨fun c1 => absurd ((nI_leI (by omega) (by omega)).mp c1) (by omega), fun _ => ⟨vp_in_nI (by omega) (by omega), ?_⟩⟩
      have h6 := h4 i (by omega)
      have h7 := ih (i + 1) (by omega)
      rw [m_fix_s] at h7
      rw [nI_1, nI_clamp (by omega), h6.1, nI_eq (by omega) (by omega), nI_1, show (0 : Int32) = nI 0 from rfl, nI_add]
      refine ⟨fun c => ?_, fun c => ?_⟩
      · rw [if_pos c] at h7; exact h7
      · rw [if_neg c] at h7; exact h7
  refine z_run C [4] 5 ?_
  simp only [z_x, z_n, z_stop, z_mem, z_ldi, z_lda, z_sto, z_s1, z_s2, z_sa, z_sv, z_br, z_bn, z_ob, z_ar, z_aq, z_al, z_rt, z_ra, z_at, z_st, z_K0i, z_K0v, zk_0, zk_1, zk_2, zk_3, z_lv, List.map_cons, List.map_nil, List.length_cons, List.length_nil, List.replicate, List.cons_append, List.nil_append, Nat.reduceAdd, Nat.reduceSub, Nat.reduceBEq, Nat.reduceEqDiff, Nat.reduceLT, Nat.reduceLeDiff, Nat.zero_add, Int.cast_ofNat_Int, Int.reduceAdd, Int.reduceNeg, Int.reduceToNat, Int.reduceLE, Int.zero_add, Int.toNat_zero, Int.add_zero, Int.add_neg_cancel_right, Fin.isValue, Int32.reduceOfInt, ↓reduceIte, Bool.false_eq_true, Bool.or_false, Bool.false_or, Bool.or_true, Bool.true_or, if_true, if_false, true_and, and_true, true_or, or_true, false_or, or_false, eq_self, and_self, z_up_i, Nat.add_left_cancel_iff, Nat.left_eq_add, Nat.add_eq_left, reduceCtorEq, Nat.add_one_ne_zero, z_tt, implies_true, zn_0, zn_1, zo_0, zo_1, dX0_lyingAsAtFirst_0, dX0_lyingAsAtFirst_1, dX0_lyingAsAtFirst_2, dX0_lyingAsAtFirst_3, dX0_lyingAsAtFirst_4, dX0_lyingAsAtFirst_5, dX0_lyingAsAtFirst_6, dX0_lyingAsAtFirst_9, dX0_lyingAsAtFirst_10, dX0_lyingAsAtFirst_13, dX0_lyingAsAtFirst_14, dX0_lyingAsAtFirst_15, dX0_lyingAsAtFirst_18, dX0_lyingAsAtFirst_19, dX0_lyingAsAtFirst_20, dX0_lyingAsAtFirst_21, dX0_lyingAsAtFirst_24, dX0_lyingAsAtFirst_25, dX0_lyingAsAtFirst_28, dX0_lyingAsAtFirst_29, dX0_lyingAsAtFirst_30, dX0_lyingAsAtFirst_31, dX0_lyingAsAtFirst_34, dX0_lyingAsAtFirst_37, dX0_lyingAsAtFirst_38, zf_0_9, zi_0, zi_1]
  exact loop 8 0 (by omega)
set_option maxRecDepth 100000 in
set_option maxHeartbeats 4000000 in
theorem c_turnOnce {l : Launch} {E : zE} {d : Nat} {M : zH} {b : Nat} {p q : Nat → Nat} (h : z_brd M b p q) : nX0_turnOnce l E (d + 1) [.ref b] M (z_i fun v M' => z_fp M M' (fun a => a = b + 2) ∧ z_brd M' b p (fun j => p (q j)) ∧ ((v = 1 ∧ ∀ j, j < 8 → p (q j) = j) ∨ (v = 0 ∧ ¬ ∀ j, j < 8 → p (q j) = j))) := by
  refine z_cn 0 fun P z C => ?_
  have loop : ∀ (n i : Nat) (M1 : zH) (t : Nat), i + n = 8 → z_fp M M1 (fun a => a = b + 2) → z_brd M1 b p (fun j => if j < i then p (q j) else q j) → (t = 1 ∧ (∀ j, j < i → p (q j) = j) ∨ t = 0 ∧ ¬ ∀ j, j < i → p (q j) = j) → P (M1, z, 0, 0) 4 [some (.ref b), some (.int (nI t)), some (.int (nI i))] [] := by
    intro n
    induction n with
    | zero =>
      intro i M1 t hi hf hb ht
      obtain ⟨f, g, h1, h2, h3, h4, h5⟩ := hb
      have e8 : i = 8 := by omega
      subst e8
      have hbb : z_brd M1 b p (fun j => p (q j)) := ⟨f, g, h1, h2, h3, h4, fun j hj => by have := h5 j hj; simpa [hj] using this⟩
      refine z_run C [] 20 ?_
      simp only [z_x, z_n, z_stop, z_mem, z_ldi, z_lda, z_sto, z_s1, z_s2, z_sa, z_sv, z_br, z_bn, z_ob, z_ar, z_aq, z_al, z_rt, z_ra, z_at, z_st, z_K0i, z_K0v, zk_0, zk_1, zk_2, zk_3, z_lv, List.map_cons, List.map_nil, List.length_cons, List.length_nil, List.replicate, List.cons_append, List.nil_append, Nat.reduceAdd, Nat.reduceSub, Nat.reduceBEq, Nat.reduceEqDiff, Nat.reduceLT, Nat.reduceLeDiff, Nat.zero_add, Int.cast_ofNat_Int, Int.reduceAdd, Int.reduceNeg, Int.reduceToNat, Int.reduceLE, Int.zero_add, Int.toNat_zero, Int.add_zero, Int.add_neg_cancel_right, Fin.isValue, Int32.reduceOfInt, ↓reduceIte, Bool.false_eq_true, Bool.or_false, Bool.false_or, Bool.or_true, Bool.true_or, if_true, if_false, true_and, and_true, true_or, or_true, false_or, or_false, eq_self, and_self, z_up_i, Nat.add_left_cancel_iff, Nat.left_eq_add, Nat.add_eq_left, reduceCtorEq, Nat.add_one_ne_zero, z_tt, implies_true, zn_0, zn_1, zo_0, zo_1, dX0_turnOnce_0, dX0_turnOnce_1, dX0_turnOnce_2, dX0_turnOnce_3, dX0_turnOnce_4, dX0_turnOnce_5, dX0_turnOnce_6, dX0_turnOnce_9, dX0_turnOnce_10, dX0_turnOnce_13, dX0_turnOnce_14, dX0_turnOnce_17, dX0_turnOnce_18, dX0_turnOnce_19, dX0_turnOnce_20, dX0_turnOnce_23, dX0_turnOnce_24, dX0_turnOnce_25, dX0_turnOnce_28, dX0_turnOnce_29, dX0_turnOnce_30, dX0_turnOnce_33, dX0_turnOnce_34, dX0_turnOnce_37, dX0_turnOnce_38, dX0_turnOnce_39, dX0_turnOnce_40, dX0_turnOnce_43, dX0_turnOnce_44, dX0_turnOnce_47, dX0_turnOnce_48, dX0_turnOnce_49, dX0_turnOnce_52, dX0_turnOnce_55, dX0_turnOnce_56, zf_0_15, zi_0, zi_1, h1, h3]
      refine ⟨fun _ => ?_, fun c1 => absurd (nI_le (by omega) (by omega)) c1⟩
      rcases ht with ⟨rfl, ht⟩ | ⟨rfl, ht⟩
      · exact ⟨rfl, hf, hbb, Or.inl ⟨rfl, ht⟩⟩
      · exact ⟨rfl, hf, hbb, Or.inr ⟨rfl, ht⟩⟩
    | succ n ih =>
      intro i M1 t hi hf hb ht
      obtain ⟨f, g, h1, h2, h3, h4, h5⟩ := id hb
      have h6 := h5 i (by omega)
      simp only [Nat.lt_irrefl, if_false] at h6
      refine z_run C [4] 30 ?_
      simp only [z_x, z_n, z_stop, z_mem, z_ldi, z_lda, z_sto, z_s1, z_s2, z_sa, z_sv, z_br, z_bn, z_ob, z_ar, z_aq, z_al, z_rt, z_ra, z_at, z_st, z_K0i, z_K0v, zk_0, zk_1, zk_2, zk_3, z_lv, List.map_cons, List.map_nil, List.length_cons, List.length_nil, List.replicate, List.cons_append, List.nil_append, Nat.reduceAdd, Nat.reduceSub, Nat.reduceBEq, Nat.reduceEqDiff, Nat.reduceLT, Nat.reduceLeDiff, Nat.zero_add, Int.cast_ofNat_Int, Int.reduceAdd, Int.reduceNeg, Int.reduceToNat, Int.reduceLE, Int.zero_add, Int.toNat_zero, Int.add_zero, Int.add_neg_cancel_right, Fin.isValue, Int32.reduceOfInt, ↓reduceIte, Bool.false_eq_true, Bool.or_false, Bool.false_or, Bool.or_true, Bool.true_or, if_true, if_false, true_and, and_true, true_or, or_true, false_or, or_false, eq_self, and_self, z_up_i, Nat.add_left_cancel_iff, Nat.left_eq_add, Nat.add_eq_left, reduceCtorEq, Nat.add_one_ne_zero, z_tt, implies_true, zn_0, zn_1, zo_0, zo_1, dX0_turnOnce_0, dX0_turnOnce_1, dX0_turnOnce_2, dX0_turnOnce_3, dX0_turnOnce_4, dX0_turnOnce_5, dX0_turnOnce_6, dX0_turnOnce_9, dX0_turnOnce_10, dX0_turnOnce_13, dX0_turnOnce_14, dX0_turnOnce_17, dX0_turnOnce_18, dX0_turnOnce_19, dX0_turnOnce_20, dX0_turnOnce_23, dX0_turnOnce_24, dX0_turnOnce_25, dX0_turnOnce_28, dX0_turnOnce_29, dX0_turnOnce_30, dX0_turnOnce_33, dX0_turnOnce_34, dX0_turnOnce_37, dX0_turnOnce_38, dX0_turnOnce_39, dX0_turnOnce_40, dX0_turnOnce_43, dX0_turnOnce_44, dX0_turnOnce_47, dX0_turnOnce_48, dX0_turnOnce_49, dX0_turnOnce_52, dX0_turnOnce_55, dX0_turnOnce_56, zf_0_15, zi_0, zi_1, h1, h3]
      refine ⟨fun c1 => absurd ((nI_leI (by omega) (by omega)).mp c1) (by omega), fun _ => ⟨vp_in_nI (by omega) (by omega), ?_⟩⟩
      rw [nI_clamp (by omega), h6.1]
      refine z_vi C dX0_turnOnce_25 lk_0_42 (c_bobbinAt (q i) h6.2 hb) rfl hb.ob (fun v M2 hv => ?_)
      obtain ⟨rfl, rfl⟩ := hv
      refine z_run C [4] 30 ?_
      simp only [z_x, z_n, z_stop, z_mem, z_ldi, z_lda, z_sto, z_s1, z_s2, z_sa, z_sv, z_br, z_bn, z_ob, z_ar, z_aq, z_al, z_rt, z_ra, z_at, z_st, z_K0i, z_K0v, zk_0, zk_1, zk_2, zk_3, z_lv, List.map_cons, List.map_nil, List.length_cons, List.length_nil, List.replicate, List.cons_append, List.nil_append, Nat.reduceAdd, Nat.reduceSub, Nat.reduceBEq, Nat.reduceEqDiff, Nat.reduceLT, Nat.reduceLeDiff, Nat.zero_add, Int.cast_ofNat_Int, Int.reduceAdd, Int.reduceNeg, Int.reduceToNat, Int.reduceLE, Int.zero_add, Int.toNat_zero, Int.add_zero, Int.add_neg_cancel_right, Fin.isValue, Int32.reduceOfInt, ↓reduceIte, Bool.false_eq_true, Bool.or_false, Bool.false_or, Bool.or_true, Bool.true_or, if_true, if_false, true_and, and_true, true_or, or_true, false_or, or_false, eq_self, and_self, z_up_i, Nat.add_left_cancel_iff, Nat.left_eq_add, Nat.add_eq_left, reduceCtorEq, Nat.add_one_ne_zero, z_tt, implies_true, zn_0, zn_1, zo_0, zo_1, dX0_turnOnce_0, dX0_turnOnce_1, dX0_turnOnce_2, dX0_turnOnce_3, dX0_turnOnce_4, dX0_turnOnce_5, dX0_turnOnce_6, dX0_turnOnce_9, dX0_turnOnce_10, dX0_turnOnce_13, dX0_turnOnce_14, dX0_turnOnce_17, dX0_turnOnce_18, dX0_turnOnce_19, dX0_turnOnce_20, dX0_turnOnce_23, dX0_turnOnce_24, dX0_turnOnce_25, dX0_turnOnce_28, dX0_turnOnce_29, dX0_turnOnce_30, dX0_turnOnce_33, dX0_turnOnce_34, dX0_turnOnce_37, dX0_turnOnce_38, dX0_turnOnce_39, dX0_turnOnce_40, dX0_turnOnce_43, dX0_turnOnce_44, dX0_turnOnce_47, dX0_turnOnce_48, dX0_turnOnce_49, dX0_turnOnce_52, dX0_turnOnce_55, dX0_turnOnce_56, zf_0_15, zi_0, zi_1, h1, h3]
      refine ⟨vp_in_nI (by omega) (by omega), ?_⟩
      have hf2 : z_fp M (z_up M2 (b + 2) (.inl (0, 8, .inl (upd g i (nI (p (q i))))))) (fun a => a = b + 2) := fun a ha => by rw [z_up_n ha]; exact hf a ha
      have hb2 : z_brd (z_up M2 (b + 2) (.inl (0, 8, .inl (upd g i (nI (p (q i))))))) b p (fun j => if j < i + 1 then p (q j) else q j) := by
        refine ⟨f, _, by rw [z_up_n (by omega)]; exact h1, by rw [z_up_n (by omega)]; exact h2, z_up_s _ _ _, h4, fun j hj => ?_⟩
        by_cases hji : j = i
        · subst hji
          simp [upd]
          exact (h4 _ h6.2).2
        · have h8 := h5 j hj
          by_cases hlt : j < i
          · simp only [hlt, if_true] at h8
            simp [upd, hji, show j < i + 1 by omega]; exact h8
          · simp only [hlt, if_false] at h8
            simp [upd, hji, show ¬ j < i + 1 by omega]; exact h8
      rw [nI_1, nI_clamp (by omega)]
      have ee : upd g i (nI (p (q i))) i = nI (p (q i)) := pk_us
      rw [ee, nI_eq (by have := (h4 _ h6.2).2; omega) (by omega)]
      have go := fun t' ht' => ih (i + 1) _ t' (by omega) hf2 hb2 ht'
      rw [show (1 : Int32) = nI 1 from rfl, show (0 : Int32) = nI 0 from rfl]
      rcases ht with ⟨rfl, ht⟩ | ⟨rfl, ht⟩
      · refine ⟨fun c => absurd c (by decide), fun _ => ⟨vp_in_nI (by omega) (by omega), fun c => ?_, fun c => ?_⟩⟩
        · refine go 1 (Or.inl ⟨rfl, fun j hj => ?_⟩)
          by_cases hji : j = i
          · subst hji; exact c
          · exact ht j (by omega)
        · exact go 0 (Or.inr ⟨rfl, fun hh => c (hh i (by omega))⟩)
      · exact ⟨fun _ => go 0 (Or.inr ⟨rfl, fun hh => ht (fun j hj => hh j (by omega))⟩), fun c => absurd rfl c⟩
  refine z_run C [4] 5 ?_
  simp only [z_x, z_n, z_stop, z_mem, z_ldi, z_lda, z_sto, z_s1, z_s2, z_sa, z_sv, z_br, z_bn, z_ob, z_ar, z_aq, z_al, z_rt, z_ra, z_at, z_st, z_K0i, z_K0v, zk_0, zk_1, zk_2, zk_3, z_lv, List.map_cons, List.map_nil, List.length_cons, List.length_nil, List.replicate, List.cons_append, List.nil_append, Nat.reduceAdd, Nat.reduceSub, Nat.reduceBEq, Nat.reduceEqDiff, Nat.reduceLT, Nat.reduceLeDiff, Nat.zero_add, Int.cast_ofNat_Int, Int.reduceAdd, Int.reduceNeg, Int.reduceToNat, Int.reduceLE, Int.zero_add, Int.toNat_zero, Int.add_zero, Int.add_neg_cancel_right, Fin.isValue, Int32.reduceOfInt, ↓reduceIte, Bool.false_eq_true, Bool.or_false, Bool.false_or, Bool.or_true, Bool.true_or, if_true, if_false, true_and, and_true, true_or, or_true, false_or, or_false, eq_self, and_self, z_up_i, Nat.add_left_cancel_iff, Nat.left_eq_add, Nat.add_eq_left, reduceCtorEq, Nat.add_one_ne_zero, z_tt, implies_true, zn_0, zn_1, zo_0, zo_1, dX0_turnOnce_0, dX0_turnOnce_1, dX0_turnOnce_2, dX0_turnOnce_3, dX0_turnOnce_4, dX0_turnOnce_5, dX0_turnOnce_6, dX0_turnOnce_9, dX0_turnOnce_10, dX0_turnOnce_13, dX0_turnOnce_14, dX0_turnOnce_17, dX0_turnOnce_18, dX0_turnOnce_19, dX0_turnOnce_20, dX0_turnOnce_23, dX0_turnOnce_24, dX0_turnOnce_25, dX0_turnOnce_28, dX0_turnOnce_29, dX0_turnOnce_30, dX0_turnOnce_33, dX0_turnOnce_34, dX0_turnOnce_37, dX0_turnOnce_38, dX0_turnOnce_39, dX0_turnOnce_40, dX0_turnOnce_43, dX0_turnOnce_44, dX0_turnOnce_47, dX0_turnOnce_48, dX0_turnOnce_49, dX0_turnOnce_52, dX0_turnOnce_55, dX0_turnOnce_56, zf_0_15, zi_0, zi_1]
  refine loop 8 0 M 1 (by omega) z_fp.rf ?_ (Or.inl ⟨rfl, fun j hj => by omega⟩)
  simpa using h
end
section
/-! THE JDK'S METHODS THAT ARE REACHED -/
section ZMM
variable {P : zP} {l : Launch} {E : zE} {cn : Nat} {cc : ByteArray} {nL : Nat} {rt : Option FieldType} {ini : Bool} {Kr : Option Value → zS → Prop} {S : zS} {pc : Nat} {lv : zL} {rest : List Value} {idx d mc ms : Nat} {a b : Int32}
theorem z_mx (C : z_OK P l E (z_rm (d + 1) mc ms) cn cc nL rt ini Kr) (hd : decode cc pc = .ok (.invokestatic idx, 3)) (hk : z_lk cn idx yJ9_max_7cf53 cJ9_max_7cf53 2 (some .int) 2 [.static yJ9_max_7cf53]) (kk : P S (pc + 3) lv (.int (if a < b then b else a) :: rest)) (hm : S.2.2.1 ≤ mc ∧ S.2.2.2 ≤ ms := by exact ⟨Nat.zero_le _, Nat.zero_le _⟩) (hrest : (rest.map fun v => v.category).sum ≤ 8 := by simp [Value.category]) : P S pc lv (.int b :: .int a :: rest) := by
  obtain ⟨p, e, s, m, args, below, meth, c, Q, rfl, ⟨hx, hb, hml, hrt, hown, hts, hlocks, hini, hKK, hN, hsz⟩, hQ⟩ := C
  intro H locs ls hR hS hl
  obtain ⟨l0, hl1, hl2, hl3, hl4⟩ := id hl
  have h1 : Cond.methodLink (z_own cn) idx Lib.Math.max.name ∈ z_gw := hk.1 (.methodLink (z_own cn) idx yJ9_max_7cf53) (by simp)
  have h2 : Cond.static Lib.Math.max.name ∈ z_gw := hk.1 (.static yJ9_max_7cf53) (by simp)
  have h3 : Cond.initialized "java/lang/Math" ∈ z_gw := hk.1 (.initialized yJ9_max_7cf53.cls) (by simp)
  exact va_mmax hx hb (by rw [hml, hl1.1]) hown (hts _ h1) (hts _ h2) (hts _ h3) (hts _ (by decide +kernel)) (by show 1 ≤ d + 1; omega) (by show _ ≤ 60 * (d + 1); omega) hm.1 hm.2 hd (kk H locs ls hR hS hl)
theorem z_mn (C : z_OK P l E (z_rm (d + 1) mc ms) cn cc nL rt ini Kr) (hd : decode cc pc = .ok (.invokestatic idx, 3)) (hk : z_lk cn idx yJ9_min_7cf53 cJ9_min_7cf53 2 (some .int) 2 [.static yJ9_min_7cf53]) (kk : P S (pc + 3) lv (.int (if b < a then b else a) :: rest)) (hm : S.2.2.1 ≤ mc ∧ S.2.2.2 ≤ ms := by exact ⟨Nat.zero_le _, Nat.zero_le _⟩) (hrest : (rest.map fun v => v.category).sum ≤ 8 := by simp [Value.category]) : P S pc lv (.int b :: .int a :: rest) := by
  obtain ⟨p, e, s, m, args, below, meth, c, Q, rfl, ⟨hx, hb, hml, hrt, hown, hts, hlocks, hini, hKK, hN, hsz⟩, hQ⟩ := C
  intro H locs ls hR hS hl
  obtain ⟨l0, hl1, hl2, hl3, hl4⟩ := id hl
  have h1 : Cond.methodLink (z_own cn) idx Lib.Math.min.name ∈ z_gw := hk.1 (.methodLink (z_own cn) idx yJ9_min_7cf53) (by simp)
  have h2 : Cond.static Lib.Math.min.name ∈ z_gw := hk.1 (.static yJ9_min_7cf53) (by simp)
  have h3 : Cond.initialized "java/lang/Math" ∈ z_gw := hk.1 (.initialized yJ9_min_7cf53.cls) (by simp)
  exact va_mmin hx hb (by rw [hml, hl1.1]) hown (hts _ h1) (hts _ h2) (hts _ h3) (hts _ (by decide +kernel)) (by show 1 ≤ d + 1; omega) (by show _ ≤ 60 * (d + 1); omega) hm.1 hm.2 hd (kk H locs ls hR hS hl)
end ZMM
set_option maxRecDepth 100000 in
set_option maxHeartbeats 4000000 in
theorem c_fill {l : Launch} {E : zE} {d : Nat} {M : zH} {a n : Nat} {f : Nat → Int32} (v : Int32) (hn : n ≤ 1000) (h : M a = some (.inl (0, n, .inl f))) : nJ7_fill_53178 l E d [.ref a, .int v] M (z_v fun M' => z_fp M M' (fun q => q = a) ∧ ∃ g, M' a = some (.inl (0, n, .inl g)) ∧ ∀ j, j < n → g j = v) := by
  refine z_cn 11 fun P z C => ?_
  have loop : ∀ (k i : Nat) (M1 : zH) (g : Nat → Int32), i + k = n → z_fp M M1 (fun q => q = a) → M1 a = some (.inl (0, n, .inl g)) → (∀ j, j < i → g j = v) → P (M1, z, 0, 0) 5 [some (.ref a), some (.int v), some (.int (nI i)), some (.int (nI n))] [] := by
    intro k
    induction k with
    | zero =>
      intro i M1 g hi hf hM hg
      refine z_run C [] 10 ?_
      simp only [z_x, z_n, z_stop, z_mem, z_ldi, z_lda, z_sto, z_s1, z_s2, z_sa, z_sv, z_br, z_bn, z_ob, z_ar, z_aq, z_al, z_rt, z_ra, z_at, z_st, z_K0i, z_K0v, zk_0, zk_1, zk_2, zk_3, z_lv, List.map_cons, List.map_nil, List.length_cons, List.length_nil, List.replicate, List.cons_append, List.nil_append, Nat.reduceAdd, Nat.reduceSub, Nat.reduceBEq, Nat.reduceEqDiff, Nat.reduceLT, Nat.reduceLeDiff, Nat.zero_add, Int.cast_ofNat_Int, Int.reduceAdd, Int.reduceNeg, Int.reduceToNat, Int.reduceLE, Int.zero_add, Int.toNat_zero, Int.add_zero, Int.add_neg_cancel_right, Fin.isValue, Int32.reduceOfInt, ↓reduceIte, Bool.false_eq_true, Bool.or_false, Bool.false_or, Bool.or_true, Bool.true_or, if_true, if_false, true_and, and_true, true_or, or_true, false_or, or_false, eq_self, and_self, z_up_i, Nat.add_left_cancel_iff, Nat.left_eq_add, Nat.add_eq_left, reduceCtorEq, Nat.add_one_ne_zero, z_tt, implies_true, zn_0, zn_1, zo_0, zo_1, dJ7_fill_53178_0, dJ7_fill_53178_1, dJ7_fill_53178_2, dJ7_fill_53178_3, dJ7_fill_53178_4, dJ7_fill_53178_5, dJ7_fill_53178_6, dJ7_fill_53178_7, dJ7_fill_53178_10, dJ7_fill_53178_11, dJ7_fill_53178_12, dJ7_fill_53178_13, dJ7_fill_53178_14, dJ7_fill_53178_17, dJ7_fill_53178_20, zi_0, zi_1, hM]
      exact ⟨fun _ => ⟨hf, g, hM, fun j hj => hg j (by omega)⟩, fun c => absurd (nI_le (by omega) (by omega)) c⟩
    | succ k ih =>
      intro i M1 g hi hf hM hg
      refine z_run C [5] 20 ?_
      simp only [z_x, z_n, z_stop, z_mem, z_ldi, z_lda, z_sto, z_s1, z_s2, z_sa, z_sv, z_br, z_bn, z_ob, z_ar, z_aq, z_al, z_rt, z_ra, z_at, z_st, z_K0i, z_K0v, zk_0, zk_1, zk_2, zk_3, z_lv, List.map_cons, List.map_nil, List.length_cons, List.length_nil, List.replicate, List.cons_append, List.nil_append, Nat.reduceAdd, Nat.reduceSub, Nat.reduceBEq, Nat.reduceEqDiff, Nat.reduceLT, Nat.reduceLeDiff, Nat.zero_add, Int.cast_ofNat_Int, Int.reduceAdd, Int.reduceNeg, Int.reduceToNat, Int.reduceLE, Int.zero_add, Int.toNat_zero, Int.add_zero, Int.add_neg_cancel_right, Fin.isValue, Int32.reduceOfInt, ↓reduceIte, Bool.false_eq_true, Bool.or_false, Bool.false_or, Bool.or_true, Bool.true_or, if_true, if_false, true_and, and_true, true_or, or_true, false_or, or_false, eq_self, and_self, z_up_i, Nat.add_left_cancel_iff, Nat.left_eq_add, Nat.add_eq_left, reduceCtorEq, Nat.add_one_ne_zero, z_tt, implies_true, zn_0, zn_1, zo_0, zo_1, dJ7_fill_53178_0, dJ7_fill_53178_1, dJ7_fill_53178_2, dJ7_fill_53178_3, dJ7_fill_53178_4, dJ7_fill_53178_5, dJ7_fill_53178_6, dJ7_fill_53178_7, dJ7_fill_53178_10, dJ7_fill_53178_11, dJ7_fill_53178_12, dJ7_fill_53178_13, dJ7_fill_53178_14, dJ7_fill_53178_17, dJ7_fill_53178_20, zi_0, zi_1, hM]
      refine ⟨fun c1 => absurd ((nI_leI (by omega) (by omega)).mp c1) (by omega), fun _ => ⟨vp_in_nI (by omega) (by omega), ?_⟩⟩
      rw [nI_1, nI_clamp (by omega)]
      refine ih (i + 1) _ _ (by omega) (fun q hq => ?_) (z_up_s _ _ _) (fun j hj => ?_)
      · rw [z_up_n hq]; exact hf q hq
      · by_cases hji : j = i
        · subst hji; exact pk_us
        · rw [pk_un hji]; exact hg j (by omega)
  refine z_run C [5] 10 ?_
  simp only [z_x, z_n, z_stop, z_mem, z_ldi, z_lda, z_sto, z_s1, z_s2, z_sa, z_sv, z_br, z_bn, z_ob, z_ar, z_aq, z_al, z_rt, z_ra, z_at, z_st, z_K0i, z_K0v, zk_0, zk_1, zk_2, zk_3, z_lv, List.map_cons, List.map_nil, List.length_cons, List.length_nil, List.replicate, List.cons_append, List.nil_append, Nat.reduceAdd, Nat.reduceSub, Nat.reduceBEq, Nat.reduceEqDiff, Nat.reduceLT, Nat.reduceLeDiff, Nat.zero_add, Int.cast_ofNat_Int, Int.reduceAdd, Int.reduceNeg, Int.reduceToNat, Int.reduceLE, Int.zero_add, Int.toNat_zero, Int.add_zero, Int.add_neg_cancel_right, Fin.isValue, Int32.reduceOfInt, ↓reduceIte, Bool.false_eq_true, Bool.or_false, Bool.false_or, Bool.or_true, Bool.true_or, if_true, if_false, true_and, and_true, true_or, or_true, false_or, or_false, eq_self, and_self, z_up_i, Nat.add_left_cancel_iff, Nat.left_eq_add, Nat.add_eq_left, reduceCtorEq, Nat.add_one_ne_zero, z_tt, implies_true, zn_0, zn_1, zo_0, zo_1, dJ7_fill_53178_0, dJ7_fill_53178_1, dJ7_fill_53178_2, dJ7_fill_53178_3, dJ7_fill_53178_4, dJ7_fill_53178_5, dJ7_fill_53178_6, dJ7_fill_53178_7, dJ7_fill_53178_10, dJ7_fill_53178_11, dJ7_fill_53178_12, dJ7_fill_53178_13, dJ7_fill_53178_14, dJ7_fill_53178_17, dJ7_fill_53178_20, zi_0, zi_1, h]
  exact loop n 0 M f (by omega) z_fp.rf h (fun j hj => by omega)
/-! the constant text: its object, its bytes -/
section ZTXT
variable {P : zP} {l : Launch} {E : zE} {R : Room} {cn : Nat} {cc : ByteArray} {nL : Nat} {rt : Option FieldType} {ini : Bool} {Kr : Option Value → zS → Prop} {S : zS} {pc : Nat} {lv : zL} {st : List Value} {idx i : Nat}
theorem z_ldcR (C : z_OK P l E R 1 cc nL rt ini Kr) (hd : decode cc pc = .ok (.ldc 44, 2)) (kk : P S (pc + 2) lv (.ref (z_sK E 0) :: st)) : P S pc lv st := by
  obtain ⟨p, e, s, m, args, below, meth, c, Q, rfl, ⟨hx, hb, hml, hrt, hown, hts, hlocks, hini, hKK, hN, hsz⟩, hQ⟩ := C
  intro H locs ls hR hS hl
  obtain ⟨-, -, h3, -⟩ := hN
  exact va_ldcS hx hb hown h3 hd (kk H locs ls hR hS hl)
theorem z_ldcL (C : z_OK P l E R 5 cc nL rt ini Kr) (hd : decode cc pc = .ok (.ldc 182, 2)) (kk : P S (pc + 2) lv (.ref (z_sK E 1) :: st)) : P S pc lv st := by
  obtain ⟨p, e, s, m, args, below, meth, c, Q, rfl, ⟨hx, hb, hml, hrt, hown, hts, hlocks, hini, hKK, hN, hsz⟩, hQ⟩ := C
  intro H locs ls hR hS hl
  obtain ⟨-, -, -, h4, -⟩ := hN
  exact va_ldcS hx hb hown h4 hd (kk H locs ls hR hS hl)
theorem z_sval (C : z_OK P l E R 8 cc nL rt ini Kr) (hi : i < 2) (hd : decode cc pc = .ok (.getfield 9, 3)) (kk : P S (pc + 3) lv (.ref (z_sV E i) :: st)) : P S pc lv (.ref (z_sK E i) :: st) := by
  obtain ⟨p, e, s, m, args, below, meth, c, Q, rfl, ⟨hx, hb, hml, hrt, hown, hts, hlocks, hini, hKK, hN, hsz⟩, hQ⟩ := C
  intro H locs ls hR hS hl
  obtain ⟨-, h2, -⟩ := hN
  exact vk_getf hx hb (h2.1 i hi).2.2.1 hS hown (hts (.fieldLink RJ0 9 "java/lang/String" "value" "[B") (by decide +kernel)) (fun _ h => h) hd (kk H locs ls hR hS hl)
theorem z_scod (C : z_OK P l E R 8 cc nL rt ini Kr) (hi : i < 2) (hd : decode cc pc = .ok (.getfield 15, 3)) (kk : P S (pc + 3) lv (.int 0 :: st)) : P S pc lv (.ref (z_sK E i) :: st) := by
  obtain ⟨p, e, s, m, args, below, meth, c, Q, rfl, ⟨hx, hb, hml, hrt, hown, hts, hlocks, hini, hKK, hN, hsz⟩, hQ⟩ := C
  intro H locs ls hR hS hl
  obtain ⟨-, h2, -⟩ := hN
  exact vk_getf hx hb (h2.1 i hi).2.1 hS hown (hts (.fieldLink RJ0 15 "java/lang/String" "coder" "B") (by decide +kernel)) (fun _ h => h) hd (kk H locs ls hR hS hl)
theorem z_scmp (C : z_OK P l E R 8 cc nL rt ini Kr) (hd : decode cc pc = .ok (.getstatic 38, 3)) (kk : P S (pc + 3) lv (.int 1 :: st)) : P S pc lv st := by
  obtain ⟨p, e, s, m, args, below, meth, c, Q, rfl, ⟨hx, hb, hml, hrt, hown, hts, hlocks, hini, hKK, hN, hsz⟩, hQ⟩ := C
  intro H locs ls hR hS hl
  obtain ⟨-, -, -, -, h5, -⟩ := hN
  exact va_gets hx hb h5 hS hown (hts (.fieldLink RJ0 38 "java/lang/String" "COMPACT_STRINGS" "Z") (by decide +kernel)) (fun _ h => h) hd (kk H locs ls hR hS hl)
theorem z_sfmt (C : z_OK P l E R 8 cc nL rt ini Kr) (hd : decode cc pc = .ok (.getstatic 1053, 3)) (kk : P S (pc + 3) lv (z_qf E :: st)) : P S pc lv st := by
  obtain ⟨p, e, s, m, args, below, meth, c, Q, rfl, ⟨hx, hb, hml, hrt, hown, hts, hlocks, hini, hKK, hN, hsz⟩, hQ⟩ := C
  intro H locs ls hR hS hl
  obtain ⟨-, -, -, -, -, h6, -⟩ := hN
  exact va_gets hx hb h6 hS hown (hts (.fieldLink RJ0 1053 "jdk/internal/util/Preconditions" "SIOOBE_FORMATTER" "Ljava/util/function/BiFunction;") (by decide +kernel)) (fun _ h => h) hd (kk H locs ls hR hS hl)
theorem z_qfc (C : z_OK P l E R cn cc nL rt ini Kr) : z_qf E = .null ∨ ∃ a, z_qf E = .ref a := by
  obtain ⟨p, e, s, m, args, below, meth, c, Q, rfl, ⟨hx, hb, hml, hrt, hown, hts, hlocks, hini, hKK, hN, hsz⟩, hQ⟩ := C
  exact hN.2.2.2.2.2.2
def z_sign (j : Nat) : Nat := [67, 68, 84, 85, 80].getD j 0
theorem z_salen (C : z_OK P l E R cn cc nL rt ini Kr) (hi : i < 2) (hd : decode cc pc = .ok (.arraylength, 1)) (kk : P S (pc + 1) lv (.int (nI 5) :: st)) : P S pc lv (.ref (z_sV E i) :: st) := by
  obtain ⟨p, e, s, m, args, below, meth, c, Q, rfl, ⟨hx, hb, hml, hrt, hown, hts, hlocks, hini, hKK, hN, hsz⟩, hQ⟩ := C
  intro H locs ls hR hS hl
  obtain ⟨-, h2, -⟩ := hN
  obtain ⟨cell, t1, t2, t3, t4, t5, -⟩ := (h2.1 i hi).2.2.2.kept hS.2.1
  refine W.alen (n := nI 5) hx hb t1 t2 (t5.trans ?_) rfl rfl hd (kk H locs ls hR hS hl)
  rcases (show i = 0 ∨ i = 1 by omega) with rfl | rfl <;> rfl
theorem z_sbald (C : z_OK P l E R cn cc nL rt ini Kr) (hi : i < 2) {j : Nat} (hj : j < 5) (hd : decode cc pc = .ok (.baload, 1)) (kk : P S (pc + 1) lv (.int (nI (z_sign j)) :: st)) : P S pc lv (.int (nI j) :: .ref (z_sV E i) :: st) := by
  obtain ⟨p, e, s, m, args, below, meth, c, Q, rfl, ⟨hx, hb, hml, hrt, hown, hts, hlocks, hini, hKK, hN, hsz⟩, hQ⟩ := C
  intro H locs ls hR hS hl
  obtain ⟨-, h2, -⟩ := hN
  have h9 := (h2.1 i hi).2.2.2
  have e5 : ([5, 5] : List Nat).getD i 0 = 5 := by rcases (show i = 0 ∨ i = 1 by omega) with rfl | rfl <;> rfl
  rw [e5] at h9
  refine va_tb hx hb h9 hS (vp_in_nI hj (by omega)) ?_ hd (kk H locs ls hR hS hl)
  rw [nI_clamp (by omega)]
  rcases (show i = 0 ∨ i = 1 by omega) with rfl | rfl <;> rcases (show j = 0 ∨ j = 1 ∨ j = 2 ∨ j = 3 ∨ j = 4 by omega) with rfl | rfl | rfl | rfl | rfl <;> rfl
end ZTXT
section ZCS
variable {P : zP} {l : Launch} {E : zE} {cn : Nat} {cc : ByteArray} {nL : Nat} {rt : Option FieldType} {ini : Bool} {Kr : Option Value → zS → Prop} {M : zH} {z : Nat} {pc : Nat} {lv : zL} {st : List Value} {idx : Nat} {nm : MethodName} {cc' : ByteArray} {nL' : Nat} {rt' : Option FieldType} {n i d : Nat} {as rest : List Value}
set_option maxHeartbeats 4000000 in
/-- a method of the constant text -/
theorem z_ti {post : Int32 → zH → Prop} (C : z_OK P l E (z_rm (d + 1) 0 0) cn cc nL rt ini Kr) (hi : i < 2) (hd : decode cc pc = .ok (.invokevirtual idx, 3)) (hk : z_lk cn idx nm cc' nL' rt' n [.instanceMethod nm, .selects nm.cls nm nm]) (hc : z_Cn l E d nm cc' nL' rt' (.ref (z_sK E i) :: as) M (z_i post)) (hst : st = as.reverse ++ .ref (z_sK E i) :: rest) (kk : ∀ (v : Int32) (M' : zH), post v M' → P (M', z, 0, 0) (pc + 3) lv (.int v :: rest)) (hcls : nm.cls = "java/lang/String" := by rfl) (hn : as.length = n := by rfl) (hrest : (rest.map fun v => v.category).sum ≤ 8 := by simp [Value.category]) : P (M, z, 0, 0) pc lv st := by
  subst hst
  obtain ⟨p, e, s, m, args, below, meth, c, Q, rfl, ⟨hx, hcb, hml, hrt, hown, hts, hlocks, hini, hKK, hN, hsz⟩, hQ⟩ := C
  intro H locs ls hRR hS hl
  obtain ⟨l0, hl1, hl2, hl3, hl4⟩ := id hl
  have hrc := vk_recv hN.2.1 hi hS
  refine z_go (va_runV (C := nm.cls) (b := z_sK E i) (As := as) (rest := rest) (g := F0 m pc ls (as.reverse ++ .ref (z_sK E i) :: rest)) ⟨hx, hcb, hml, hown, hts⟩ (hc z) ⟨z_callB hts hk z_rr, hts _ (hk.1 _ (by simp)), hts _ (hk.1 _ (by simp))⟩ ⟨z_blind, by rw [hcls]; exact hrc, fun U hU hW => ⟨rfl, ?_, ?_, va_K.moved hW.alike hKK, z_Nmove (locs := locs) hN hW (by rw [hU]; exact hS)⟩⟩ rfl hn hl1.1 rfl (lv_room hrest) hd ⟨Nat.le_refl _, Nat.le_refl _⟩) hS (fun r M' z' H1 locs1 hp hr hs => by
      obtain ⟨rfl, v, rfl, hp⟩ := hp
      exact kk v M' hp H1 locs1 ls hr hs hl)
  · rw [hU]; exact Nat.le_trans hsz hS.1
  · rw [hU]; exact hRR
end ZCS

set_option maxRecDepth 100000 in
set_option maxHeartbeats 4000000 in
theorem c_coder {l : Launch} {E : zE} {d : Nat} {M : zH} {i : Nat} (hi : i < 2) : nJ0_coder_7d493 l E d [.ref (z_sK E i)] M (z_i fun v M' => v = 0 ∧ M' = M) := by
  refine z_cn 8 fun P z C => ?_
  refine z_scmp C dJ0_coder_7d493_0 ?_
  refine z_run C [] 2 ?_
  simp only [z_x, z_n, z_stop, z_mem, z_ldi, z_lda, z_sto, z_s1, z_s2, z_sa, z_sv, z_br, z_bn, z_ob, z_ar, z_aq, z_al, z_rt, z_ra, z_at, z_st, z_K0i, z_K0v, zk_0, zk_1, zk_2, zk_3, z_lv, List.map_cons, List.map_nil, List.length_cons, List.length_nil, List.replicate, List.cons_append, List.nil_append, Nat.reduceAdd, Nat.reduceSub, Nat.reduceBEq, Nat.reduceEqDiff, Nat.reduceLT, Nat.reduceLeDiff, Nat.zero_add, Int.cast_ofNat_Int, Int.reduceAdd, Int.reduceNeg, Int.reduceToNat, Int.reduceLE, Int.zero_add, Int.toNat_zero, Int.add_zero, Int.add_neg_cancel_right, Fin.isValue, Int32.reduceOfInt, ↓reduceIte, Bool.false_eq_true, Bool.or_false, Bool.false_or, Bool.or_true, Bool.true_or, if_true, if_false, true_and, and_true, true_or, or_true, false_or, or_false, eq_self, and_self, z_up_i, Nat.add_left_cancel_iff, Nat.left_eq_add, Nat.add_eq_left, reduceCtorEq, Nat.add_one_ne_zero, z_tt, implies_true, zn_0, zn_1, zo_0, zo_1, dJ0_coder_7d493_0, dJ0_coder_7d493_3, dJ0_coder_7d493_6, dJ0_coder_7d493_7, dJ0_coder_7d493_10, dJ0_coder_7d493_13, dJ0_coder_7d493_14, zi_1]
  refine ⟨fun c => absurd c (by decide), fun _ => ?_⟩
  refine z_scod C hi dJ0_coder_7d493_7 ?_
  refine z_run C [] 3 ?_
  simp only [z_x, z_n, z_stop, z_mem, z_ldi, z_lda, z_sto, z_s1, z_s2, z_sa, z_sv, z_br, z_bn, z_ob, z_ar, z_aq, z_al, z_rt, z_ra, z_at, z_st, z_K0i, z_K0v, zk_0, zk_1, zk_2, zk_3, z_lv, List.map_cons, List.map_nil, List.length_cons, List.length_nil, List.replicate, List.cons_append, List.nil_append, Nat.reduceAdd, Nat.reduceSub, Nat.reduceBEq, Nat.reduceEqDiff, Nat.reduceLT, Nat.reduceLeDiff, Nat.zero_add, Int.cast_ofNat_Int, Int.reduceAdd, Int.reduceNeg, Int.reduceToNat, Int.reduceLE, Int.zero_add, Int.toNat_zero, Int.add_zero, Int.add_neg_cancel_right, Fin.isValue, Int32.reduceOfInt, ↓reduceIte, Bool.false_eq_true, Bool.or_false, Bool.false_or, Bool.or_true, Bool.true_or, if_true, if_false, true_and, and_true, true_or, or_true, false_or, or_false, eq_self, and_self, z_up_i, Nat.add_left_cancel_iff, Nat.left_eq_add, Nat.add_eq_left, reduceCtorEq, Nat.add_one_ne_zero, z_tt, implies_true, zn_0, zn_1, zo_0, zo_1, dJ0_coder_7d493_0, dJ0_coder_7d493_3, dJ0_coder_7d493_6, dJ0_coder_7d493_7, dJ0_coder_7d493_10, dJ0_coder_7d493_13, dJ0_coder_7d493_14, zi_1]
  exact ⟨rfl, rfl, rfl⟩
set_option maxRecDepth 100000 in
set_option maxHeartbeats 4000000 in
theorem c_isLatin1 {l : Launch} {E : zE} {d : Nat} {M : zH} {i : Nat} (hi : i < 2) : nJ0_isLatin1_aae02 l E d [.ref (z_sK E i)] M (z_i fun v M' => v = 1 ∧ M' = M) := by
  refine z_cn 8 fun P z C => ?_
  refine z_scmp C dJ0_isLatin1_aae02_0 ?_
  refine z_run C [] 2 ?_
  simp only [z_x, z_n, z_stop, z_mem, z_ldi, z_lda, z_sto, z_s1, z_s2, z_sa, z_sv, z_br, z_bn, z_ob, z_ar, z_aq, z_al, z_rt, z_ra, z_at, z_st, z_K0i, z_K0v, zk_0, zk_1, zk_2, zk_3, z_lv, List.map_cons, List.map_nil, List.length_cons, List.length_nil, List.replicate, List.cons_append, List.nil_append, Nat.reduceAdd, Nat.reduceSub, Nat.reduceBEq, Nat.reduceEqDiff, Nat.reduceLT, Nat.reduceLeDiff, Nat.zero_add, Int.cast_ofNat_Int, Int.reduceAdd, Int.reduceNeg, Int.reduceToNat, Int.reduceLE, Int.zero_add, Int.toNat_zero, Int.add_zero, Int.add_neg_cancel_right, Fin.isValue, Int32.reduceOfInt, ↓reduceIte, Bool.false_eq_true, Bool.or_false, Bool.false_or, Bool.or_true, Bool.true_or, if_true, if_false, true_and, and_true, true_or, or_true, false_or, or_false, eq_self, and_self, z_up_i, Nat.add_left_cancel_iff, Nat.left_eq_add, Nat.add_eq_left, reduceCtorEq, Nat.add_one_ne_zero, z_tt, implies_true, zn_0, zn_1, zo_0, zo_1, dJ0_isLatin1_aae02_0, dJ0_isLatin1_aae02_3, dJ0_isLatin1_aae02_6, dJ0_isLatin1_aae02_7, dJ0_isLatin1_aae02_10, dJ0_isLatin1_aae02_13, dJ0_isLatin1_aae02_14, dJ0_isLatin1_aae02_17, dJ0_isLatin1_aae02_18, zi_0, zi_1]
  refine ⟨fun c => absurd c (by decide), fun _ => ?_⟩
  refine z_scod C hi dJ0_isLatin1_aae02_7 ?_
  refine z_run C [] 5 ?_
  simp only [z_x, z_n, z_stop, z_mem, z_ldi, z_lda, z_sto, z_s1, z_s2, z_sa, z_sv, z_br, z_bn, z_ob, z_ar, z_aq, z_al, z_rt, z_ra, z_at, z_st, z_K0i, z_K0v, zk_0, zk_1, zk_2, zk_3, z_lv, List.map_cons, List.map_nil, List.length_cons, List.length_nil, List.replicate, List.cons_append, List.nil_append, Nat.reduceAdd, Nat.reduceSub, Nat.reduceBEq, Nat.reduceEqDiff, Nat.reduceLT, Nat.reduceLeDiff, Nat.zero_add, Int.cast_ofNat_Int, Int.reduceAdd, Int.reduceNeg, Int.reduceToNat, Int.reduceLE, Int.zero_add, Int.toNat_zero, Int.add_zero, Int.add_neg_cancel_right, Fin.isValue, Int32.reduceOfInt, ↓reduceIte, Bool.false_eq_true, Bool.or_false, Bool.false_or, Bool.or_true, Bool.true_or, if_true, if_false, true_and, and_true, true_or, or_true, false_or, or_false, eq_self, and_self, z_up_i, Nat.add_left_cancel_iff, Nat.left_eq_add, Nat.add_eq_left, reduceCtorEq, Nat.add_one_ne_zero, z_tt, implies_true, zn_0, zn_1, zo_0, zo_1, dJ0_isLatin1_aae02_0, dJ0_isLatin1_aae02_3, dJ0_isLatin1_aae02_6, dJ0_isLatin1_aae02_7, dJ0_isLatin1_aae02_10, dJ0_isLatin1_aae02_13, dJ0_isLatin1_aae02_14, dJ0_isLatin1_aae02_17, dJ0_isLatin1_aae02_18, zi_0, zi_1]
  exact ⟨fun _ => ⟨rfl, rfl⟩, fun c => absurd trivial c⟩
set_option maxRecDepth 100000 in
set_option maxHeartbeats 4000000 in
theorem c_length {l : Launch} {E : zE} {d : Nat} {M : zH} {i : Nat} (hi : i < 2) : nJ0_length_8abf5 l E (d + 1) [.ref (z_sK E i)] M (z_i fun v M' => v = nI 5 ∧ M' = M) := by
  refine z_cn 8 fun P z C => ?_
  refine z_run C [] 1 ?_
  simp only [z_x, z_n, z_stop, z_mem, z_ldi, z_lda, z_sto, z_s1, z_s2, z_sa, z_sv, z_br, z_bn, z_ob, z_ar, z_aq, z_al, z_rt, z_ra, z_at, z_st, z_K0i, z_K0v, zk_0, zk_1, zk_2, zk_3, z_lv, List.map_cons, List.map_nil, List.length_cons, List.length_nil, List.replicate, List.cons_append, List.nil_append, Nat.reduceAdd, Nat.reduceSub, Nat.reduceBEq, Nat.reduceEqDiff, Nat.reduceLT, Nat.reduceLeDiff, Nat.zero_add, Int.cast_ofNat_Int, Int.reduceAdd, Int.reduceNeg, Int.reduceToNat, Int.reduceLE, Int.zero_add, Int.toNat_zero, Int.add_zero, Int.add_neg_cancel_right, Fin.isValue, Int32.reduceOfInt, ↓reduceIte, Bool.false_eq_true, Bool.or_false, Bool.false_or, Bool.or_true, Bool.true_or, if_true, if_false, true_and, and_true, true_or, or_true, false_or, or_false, eq_self, and_self, z_up_i, Nat.add_left_cancel_iff, Nat.left_eq_add, Nat.add_eq_left, reduceCtorEq, Nat.add_one_ne_zero, z_tt, implies_true, zn_0, zn_1, zo_0, zo_1, dJ0_length_8abf5_0, dJ0_length_8abf5_1, dJ0_length_8abf5_4, dJ0_length_8abf5_5, dJ0_length_8abf5_6, dJ0_length_8abf5_9, dJ0_length_8abf5_10]
  refine z_sval C hi dJ0_length_8abf5_1 ?_
  refine z_salen C hi dJ0_length_8abf5_4 ?_
  refine z_run C [] 1 ?_
  simp only [z_x, z_n, z_stop, z_mem, z_ldi, z_lda, z_sto, z_s1, z_s2, z_sa, z_sv, z_br, z_bn, z_ob, z_ar, z_aq, z_al, z_rt, z_ra, z_at, z_st, z_K0i, z_K0v, zk_0, zk_1, zk_2, zk_3, z_lv, List.map_cons, List.map_nil, List.length_cons, List.length_nil, List.replicate, List.cons_append, List.nil_append, Nat.reduceAdd, Nat.reduceSub, Nat.reduceBEq, Nat.reduceEqDiff, Nat.reduceLT, Nat.reduceLeDiff, Nat.zero_add, Int.cast_ofNat_Int, Int.reduceAdd, Int.reduceNeg, Int.reduceToNat, Int.reduceLE, Int.zero_add, Int.toNat_zero, Int.add_zero, Int.add_neg_cancel_right, Fin.isValue, Int32.reduceOfInt, ↓reduceIte, Bool.false_eq_true, Bool.or_false, Bool.false_or, Bool.or_true, Bool.true_or, if_true, if_false, true_and, and_true, true_or, or_true, false_or, or_false, eq_self, and_self, z_up_i, Nat.add_left_cancel_iff, Nat.left_eq_add, Nat.add_eq_left, reduceCtorEq, Nat.add_one_ne_zero, z_tt, implies_true, zn_0, zn_1, zo_0, zo_1, dJ0_length_8abf5_0, dJ0_length_8abf5_1, dJ0_length_8abf5_4, dJ0_length_8abf5_5, dJ0_length_8abf5_6, dJ0_length_8abf5_9, dJ0_length_8abf5_10]
  refine z_ti C hi dJ0_length_8abf5_6 lk_8_335 (c_coder hi) rfl (fun v M2 hv => ?_)
  obtain ⟨rfl, rfl⟩ := hv
  refine z_run C [] 3 ?_
  simp only [z_x, z_n, z_stop, z_mem, z_ldi, z_lda, z_sto, z_s1, z_s2, z_sa, z_sv, z_br, z_bn, z_ob, z_ar, z_aq, z_al, z_rt, z_ra, z_at, z_st, z_K0i, z_K0v, zk_0, zk_1, zk_2, zk_3, z_lv, List.map_cons, List.map_nil, List.length_cons, List.length_nil, List.replicate, List.cons_append, List.nil_append, Nat.reduceAdd, Nat.reduceSub, Nat.reduceBEq, Nat.reduceEqDiff, Nat.reduceLT, Nat.reduceLeDiff, Nat.zero_add, Int.cast_ofNat_Int, Int.reduceAdd, Int.reduceNeg, Int.reduceToNat, Int.reduceLE, Int.zero_add, Int.toNat_zero, Int.add_zero, Int.add_neg_cancel_right, Fin.isValue, Int32.reduceOfInt, ↓reduceIte, Bool.false_eq_true, Bool.or_false, Bool.false_or, Bool.or_true, Bool.true_or, if_true, if_false, true_and, and_true, true_or, or_true, false_or, or_false, eq_self, and_self, z_up_i, Nat.add_left_cancel_iff, Nat.left_eq_add, Nat.add_eq_left, reduceCtorEq, Nat.add_one_ne_zero, z_tt, implies_true, zn_0, zn_1, zo_0, zo_1, dJ0_length_8abf5_0, dJ0_length_8abf5_1, dJ0_length_8abf5_4, dJ0_length_8abf5_5, dJ0_length_8abf5_6, dJ0_length_8abf5_9, dJ0_length_8abf5_10]
  exact ⟨by decide, rfl⟩
set_option maxRecDepth 100000 in
set_option maxHeartbeats 4000000 in
theorem c_checkIndex3 {l : Launch} {E : zE} {d : Nat} {M : zH} {j : Nat} (hj : j < 5) (hq : (z_qf E).category = 1) : nJ3_checkIndex_8e157 l E d [.int (nI j), .int (nI 5), z_qf E] M (z_i fun v M' => M' = M) := by
  refine z_cn 10 (fun P z C => ?_) (hc := by intro v hv; simp only [List.mem_cons, List.not_mem_nil, or_false] at hv; rcases hv with rfl | rfl | rfl; rfl; rfl; exact hq)
  refine z_run C [] 5 ?_
  simp only [z_x, z_n, z_stop, z_mem, z_ldi, z_lda, z_sto, z_s1, z_s2, z_sa, z_sv, z_br, z_bn, z_ob, z_ar, z_aq, z_al, z_rt, z_ra, z_at, z_st, z_K0i, z_K0v, zk_0, zk_1, zk_2, zk_3, z_lv, List.map_cons, List.map_nil, List.length_cons, List.length_nil, List.replicate, List.cons_append, List.nil_append, Nat.reduceAdd, Nat.reduceSub, Nat.reduceBEq, Nat.reduceEqDiff, Nat.reduceLT, Nat.reduceLeDiff, Nat.zero_add, Int.cast_ofNat_Int, Int.reduceAdd, Int.reduceNeg, Int.reduceToNat, Int.reduceLE, Int.zero_add, Int.toNat_zero, Int.add_zero, Int.add_neg_cancel_right, Fin.isValue, Int32.reduceOfInt, ↓reduceIte, Bool.false_eq_true, Bool.or_false, Bool.false_or, Bool.or_true, Bool.true_or, if_true, if_false, true_and, and_true, true_or, or_true, false_or, or_false, eq_self, and_self, z_up_i, Nat.add_left_cancel_iff, Nat.left_eq_add, Nat.add_eq_left, reduceCtorEq, Nat.add_one_ne_zero, z_tt, implies_true, zn_0, zn_1, zo_0, zo_1, dJ3_checkIndex_8e157_0, dJ3_checkIndex_8e157_1, dJ3_checkIndex_8e157_4, dJ3_checkIndex_8e157_5, dJ3_checkIndex_8e157_6, dJ3_checkIndex_8e157_9, dJ3_checkIndex_8e157_10, dJ3_checkIndex_8e157_11, dJ3_checkIndex_8e157_12, dJ3_checkIndex_8e157_15, dJ3_checkIndex_8e157_16, dJ3_checkIndex_8e157_17]
  refine ⟨fun c => absurd c (nI_pos (by omega)), fun _ => ⟨fun _ => ?_, fun c => absurd (nI_lt hj (by omega)) c⟩⟩
  refine z_run C [] 3 ?_
  simp only [z_x, z_n, z_stop, z_mem, z_ldi, z_lda, z_sto, z_s1, z_s2, z_sa, z_sv, z_br, z_bn, z_ob, z_ar, z_aq, z_al, z_rt, z_ra, z_at, z_st, z_K0i, z_K0v, zk_0, zk_1, zk_2, zk_3, z_lv, List.map_cons, List.map_nil, List.length_cons, List.length_nil, List.replicate, List.cons_append, List.nil_append, Nat.reduceAdd, Nat.reduceSub, Nat.reduceBEq, Nat.reduceEqDiff, Nat.reduceLT, Nat.reduceLeDiff, Nat.zero_add, Int.cast_ofNat_Int, Int.reduceAdd, Int.reduceNeg, Int.reduceToNat, Int.reduceLE, Int.zero_add, Int.toNat_zero, Int.add_zero, Int.add_neg_cancel_right, Fin.isValue, Int32.reduceOfInt, ↓reduceIte, Bool.false_eq_true, Bool.or_false, Bool.false_or, Bool.or_true, Bool.true_or, if_true, if_false, true_and, and_true, true_or, or_true, false_or, or_false, eq_self, and_self, z_up_i, Nat.add_left_cancel_iff, Nat.left_eq_add, Nat.add_eq_left, reduceCtorEq, Nat.add_one_ne_zero, z_tt, implies_true, zn_0, zn_1, zo_0, zo_1, dJ3_checkIndex_8e157_0, dJ3_checkIndex_8e157_1, dJ3_checkIndex_8e157_4, dJ3_checkIndex_8e157_5, dJ3_checkIndex_8e157_6, dJ3_checkIndex_8e157_9, dJ3_checkIndex_8e157_10, dJ3_checkIndex_8e157_11, dJ3_checkIndex_8e157_12, dJ3_checkIndex_8e157_15, dJ3_checkIndex_8e157_16, dJ3_checkIndex_8e157_17]
  exact rfl
set_option maxRecDepth 100000 in
set_option maxHeartbeats 4000000 in
theorem c_checkIndex0 {l : Launch} {E : zE} {d : Nat} {M : zH} {j : Nat} (hj : j < 5) : nJ0_checkIndex_df160 l E (d + 1) [.int (nI j), .int (nI 5)] M (z_v fun M' => M' = M) := by
  refine z_cn 8 fun P z C => ?_
  refine z_run C [] 2 ?_
  simp only [z_x, z_n, z_stop, z_mem, z_ldi, z_lda, z_sto, z_s1, z_s2, z_sa, z_sv, z_br, z_bn, z_ob, z_ar, z_aq, z_al, z_rt, z_ra, z_at, z_st, z_K0i, z_K0v, zk_0, zk_1, zk_2, zk_3, z_lv, List.map_cons, List.map_nil, List.length_cons, List.length_nil, List.replicate, List.cons_append, List.nil_append, Nat.reduceAdd, Nat.reduceSub, Nat.reduceBEq, Nat.reduceEqDiff, Nat.reduceLT, Nat.reduceLeDiff, Nat.zero_add, Int.cast_ofNat_Int, Int.reduceAdd, Int.reduceNeg, Int.reduceToNat, Int.reduceLE, Int.zero_add, Int.toNat_zero, Int.add_zero, Int.add_neg_cancel_right, Fin.isValue, Int32.reduceOfInt, ↓reduceIte, Bool.false_eq_true, Bool.or_false, Bool.false_or, Bool.or_true, Bool.true_or, if_true, if_false, true_and, and_true, true_or, or_true, false_or, or_false, eq_self, and_self, z_up_i, Nat.add_left_cancel_iff, Nat.left_eq_add, Nat.add_eq_left, reduceCtorEq, Nat.add_one_ne_zero, z_tt, implies_true, zn_0, zn_1, zo_0, zo_1, dJ0_checkIndex_df160_0, dJ0_checkIndex_df160_1, dJ0_checkIndex_df160_2, dJ0_checkIndex_df160_5, dJ0_checkIndex_df160_8, dJ0_checkIndex_df160_9]
  refine z_sfmt C dJ0_checkIndex_df160_2 ?_
  have hq : (z_qf E).category = 1 := by rcases z_qfc C with h | ⟨a, h⟩ <;> rw [h] <;> rfl
  refine z_si C dJ0_checkIndex_df160_5 lk_8_1059 (c_checkIndex3 hj hq) rfl (fun v M2 hv => ?_)
  obtain rfl := hv
  refine z_run C [] 3 ?_
  simp only [z_x, z_n, z_stop, z_mem, z_ldi, z_lda, z_sto, z_s1, z_s2, z_sa, z_sv, z_br, z_bn, z_ob, z_ar, z_aq, z_al, z_rt, z_ra, z_at, z_st, z_K0i, z_K0v, zk_0, zk_1, zk_2, zk_3, z_lv, List.map_cons, List.map_nil, List.length_cons, List.length_nil, List.replicate, List.cons_append, List.nil_append, Nat.reduceAdd, Nat.reduceSub, Nat.reduceBEq, Nat.reduceEqDiff, Nat.reduceLT, Nat.reduceLeDiff, Nat.zero_add, Int.cast_ofNat_Int, Int.reduceAdd, Int.reduceNeg, Int.reduceToNat, Int.reduceLE, Int.zero_add, Int.toNat_zero, Int.add_zero, Int.add_neg_cancel_right, Fin.isValue, Int32.reduceOfInt, ↓reduceIte, Bool.false_eq_true, Bool.or_false, Bool.false_or, Bool.or_true, Bool.true_or, if_true, if_false, true_and, and_true, true_or, or_true, false_or, or_false, eq_self, and_self, z_up_i, Nat.add_left_cancel_iff, Nat.left_eq_add, Nat.add_eq_left, reduceCtorEq, Nat.add_one_ne_zero, z_tt, implies_true, zn_0, zn_1, zo_0, zo_1, dJ0_checkIndex_df160_0, dJ0_checkIndex_df160_1, dJ0_checkIndex_df160_2, dJ0_checkIndex_df160_5, dJ0_checkIndex_df160_8, dJ0_checkIndex_df160_9]
  exact rfl
set_option maxRecDepth 100000 in
set_option maxHeartbeats 4000000 in
theorem c_charAt1 {l : Launch} {E : zE} {d : Nat} {M : zH} {i j : Nat} (hi : i < 2) (hj : j < 5) : nJ1_charAt_3b067 l E (d + 2) [.ref (z_sV E i), .int (nI j)] M (z_i fun v M' => v = nI (z_sign j) ∧ M' = M) := by
  refine z_cn 9 fun P z C => ?_
  refine z_run C [] 2 ?_
  simp only [z_x, z_n, z_stop, z_mem, z_ldi, z_lda, z_sto, z_s1, z_s2, z_sa, z_sv, z_br, z_bn, z_ob, z_ar, z_aq, z_al, z_rt, z_ra, z_at, z_st, z_K0i, z_K0v, zk_0, zk_1, zk_2, zk_3, z_lv, List.map_cons, List.map_nil, List.length_cons, List.length_nil, List.replicate, List.cons_append, List.nil_append, Nat.reduceAdd, Nat.reduceSub, Nat.reduceBEq, Nat.reduceEqDiff, Nat.reduceLT, Nat.reduceLeDiff, Nat.zero_add, Int.cast_ofNat_Int, Int.reduceAdd, Int.reduceNeg, Int.reduceToNat, Int.reduceLE, Int.zero_add, Int.toNat_zero, Int.add_zero, Int.add_neg_cancel_right, Fin.isValue, Int32.reduceOfInt, ↓reduceIte, Bool.false_eq_true, Bool.or_false, Bool.false_or, Bool.or_true, Bool.true_or, if_true, if_false, true_and, and_true, true_or, or_true, false_or, or_false, eq_self, and_self, z_up_i, Nat.add_left_cancel_iff, Nat.left_eq_add, Nat.add_eq_left, reduceCtorEq, Nat.add_one_ne_zero, z_tt, implies_true, zn_0, zn_1, zo_0, zo_1, dJ1_charAt_3b067_0, dJ1_charAt_3b067_1, dJ1_charAt_3b067_2, dJ1_charAt_3b067_3, dJ1_charAt_3b067_6, dJ1_charAt_3b067_7, dJ1_charAt_3b067_8, dJ1_charAt_3b067_9, dJ1_charAt_3b067_12, dJ1_charAt_3b067_13, dJ1_charAt_3b067_14, zs_255]
  refine z_salen C hi dJ1_charAt_3b067_2 ?_
  refine z_sw C dJ1_charAt_3b067_3 lk_9_9 (c_checkIndex0 hj) rfl (fun M2 hv => ?_)
  obtain rfl := hv
  refine z_run C [] 2 ?_
  simp only [z_x, z_n, z_stop, z_mem, z_ldi, z_lda, z_sto, z_s1, z_s2, z_sa, z_sv, z_br, z_bn, z_ob, z_ar, z_aq, z_al, z_rt, z_ra, z_at, z_st, z_K0i, z_K0v, zk_0, zk_1, zk_2, zk_3, z_lv, List.map_cons, List.map_nil, List.length_cons, List.length_nil, List.replicate, List.cons_append, List.nil_append, Nat.reduceAdd, Nat.reduceSub, Nat.reduceBEq, Nat.reduceEqDiff, Nat.reduceLT, Nat.reduceLeDiff, Nat.zero_add, Int.cast_ofNat_Int, Int.reduceAdd, Int.reduceNeg, Int.reduceToNat, Int.reduceLE, Int.zero_add, Int.toNat_zero, Int.add_zero, Int.add_neg_cancel_right, Fin.isValue, Int32.reduceOfInt, ↓reduceIte, Bool.false_eq_true, Bool.or_false, Bool.false_or, Bool.or_true, Bool.true_or, if_true, if_false, true_and, and_true, true_or, or_true, false_or, or_false, eq_self, and_self, z_up_i, Nat.add_left_cancel_iff, Nat.left_eq_add, Nat.add_eq_left, reduceCtorEq, Nat.add_one_ne_zero, z_tt, implies_true, zn_0, zn_1, zo_0, zo_1, dJ1_charAt_3b067_0, dJ1_charAt_3b067_1, dJ1_charAt_3b067_2, dJ1_charAt_3b067_3, dJ1_charAt_3b067_6, dJ1_charAt_3b067_7, dJ1_charAt_3b067_8, dJ1_charAt_3b067_9, dJ1_charAt_3b067_12, dJ1_charAt_3b067_13, dJ1_charAt_3b067_14, zs_255]
  refine z_sbald C hi hj dJ1_charAt_3b067_8 ?_
  refine z_run C [] 4 ?_
  simp only [z_x, z_n, z_stop, z_mem, z_ldi, z_lda, z_sto, z_s1, z_s2, z_sa, z_sv, z_br, z_bn, z_ob, z_ar, z_aq, z_al, z_rt, z_ra, z_at, z_st, z_K0i, z_K0v, zk_0, zk_1, zk_2, zk_3, z_lv, List.map_cons, List.map_nil, List.length_cons, List.length_nil, List.replicate, List.cons_append, List.nil_append, Nat.reduceAdd, Nat.reduceSub, Nat.reduceBEq, Nat.reduceEqDiff, Nat.reduceLT, Nat.reduceLeDiff, Nat.zero_add, Int.cast_ofNat_Int, Int.reduceAdd, Int.reduceNeg, Int.reduceToNat, Int.reduceLE, Int.zero_add, Int.toNat_zero, Int.add_zero, Int.add_neg_cancel_right, Fin.isValue, Int32.reduceOfInt, ↓reduceIte, Bool.false_eq_true, Bool.or_false, Bool.false_or, Bool.or_true, Bool.true_or, if_true, if_false, true_and, and_true, true_or, or_true, false_or, or_false, eq_self, and_self, z_up_i, Nat.add_left_cancel_iff, Nat.left_eq_add, Nat.add_eq_left, reduceCtorEq, Nat.add_one_ne_zero, z_tt, implies_true, zn_0, zn_1, zo_0, zo_1, dJ1_charAt_3b067_0, dJ1_charAt_3b067_1, dJ1_charAt_3b067_2, dJ1_charAt_3b067_3, dJ1_charAt_3b067_6, dJ1_charAt_3b067_7, dJ1_charAt_3b067_8, dJ1_charAt_3b067_9, dJ1_charAt_3b067_12, dJ1_charAt_3b067_13, dJ1_charAt_3b067_14, zs_255]
  rcases (show j = 0 ∨ j = 1 ∨ j = 2 ∨ j = 3 ∨ j = 4 by omega) with rfl | rfl | rfl | rfl | rfl <;> exact ⟨by decide, by decide, rfl⟩
set_option maxRecDepth 100000 in
set_option maxHeartbeats 4000000 in
theorem c_charAt {l : Launch} {E : zE} {d : Nat} {M : zH} {i j : Nat} (hi : i < 2) (hj : j < 5) : nJ0_charAt_5068e l E (d + 3) [.ref (z_sK E i), .int (nI j)] M (z_i fun v M' => v = nI (z_sign j) ∧ M' = M) := by
  refine z_cn 8 fun P z C => ?_
  refine z_run C [] 1 ?_
  simp only [z_x, z_n, z_stop, z_mem, z_ldi, z_lda, z_sto, z_s1, z_s2, z_sa, z_sv, z_br, z_bn, z_ob, z_ar, z_aq, z_al, z_rt, z_ra, z_at, z_st, z_K0i, z_K0v, zk_0, zk_1, zk_2, zk_3, z_lv, List.map_cons, List.map_nil, List.length_cons, List.length_nil, List.replicate, List.cons_append, List.nil_append, Nat.reduceAdd, Nat.reduceSub, Nat.reduceBEq, Nat.reduceEqDiff, Nat.reduceLT, Nat.reduceLeDiff, Nat.zero_add, Int.cast_ofNat_Int, Int.reduceAdd, Int.reduceNeg, Int.reduceToNat, Int.reduceLE, Int.zero_add, Int.toNat_zero, Int.add_zero, Int.add_neg_cancel_right, Fin.isValue, Int32.reduceOfInt, ↓reduceIte, Bool.false_eq_true, Bool.or_false, Bool.false_or, Bool.or_true, Bool.true_or, if_true, if_false, true_and, and_true, true_or, or_true, false_or, or_false, eq_self, and_self, z_up_i, Nat.add_left_cancel_iff, Nat.left_eq_add, Nat.add_eq_left, reduceCtorEq, Nat.add_one_ne_zero, z_tt, implies_true, zn_0, zn_1, zo_0, zo_1, dJ0_charAt_5068e_0, dJ0_charAt_5068e_1, dJ0_charAt_5068e_4, dJ0_charAt_5068e_7, dJ0_charAt_5068e_8, dJ0_charAt_5068e_11, dJ0_charAt_5068e_12, dJ0_charAt_5068e_15, dJ0_charAt_5068e_16, dJ0_charAt_5068e_17, dJ0_charAt_5068e_20, dJ0_charAt_5068e_21, dJ0_charAt_5068e_24]
  refine z_ti C hi dJ0_charAt_5068e_1 lk_8_492 (c_isLatin1 hi) rfl (fun v M2 hv => ?_)
  obtain ⟨rfl, rfl⟩ := hv
  refine z_run C [] 2 ?_
  simp only [z_x, z_n, z_stop, z_mem, z_ldi, z_lda, z_sto, z_s1, z_s2, z_sa, z_sv, z_br, z_bn, z_ob, z_ar, z_aq, z_al, z_rt, z_ra, z_at, z_st, z_K0i, z_K0v, zk_0, zk_1, zk_2, zk_3, z_lv, List.map_cons, List.map_nil, List.length_cons, List.length_nil, List.replicate, List.cons_append, List.nil_append, Nat.reduceAdd, Nat.reduceSub, Nat.reduceBEq, Nat.reduceEqDiff, Nat.reduceLT, Nat.reduceLeDiff, Nat.zero_add, Int.cast_ofNat_Int, Int.reduceAdd, Int.reduceNeg, Int.reduceToNat, Int.reduceLE, Int.zero_add, Int.toNat_zero, Int.add_zero, Int.add_neg_cancel_right, Fin.isValue, Int32.reduceOfInt, ↓reduceIte, Bool.false_eq_true, Bool.or_false, Bool.false_or, Bool.or_true, Bool.true_or, if_true, if_false, true_and, and_true, true_or, or_true, false_or, or_false, eq_self, and_self, z_up_i, Nat.add_left_cancel_iff, Nat.left_eq_add, Nat.add_eq_left, reduceCtorEq, Nat.add_one_ne_zero, z_tt, implies_true, zn_0, zn_1, zo_0, zo_1, dJ0_charAt_5068e_0, dJ0_charAt_5068e_1, dJ0_charAt_5068e_4, dJ0_charAt_5068e_7, dJ0_charAt_5068e_8, dJ0_charAt_5068e_11, dJ0_charAt_5068e_12, dJ0_charAt_5068e_15, dJ0_charAt_5068e_16, dJ0_charAt_5068e_17, dJ0_charAt_5068e_20, dJ0_charAt_5068e_21, dJ0_charAt_5068e_24]
  refine ⟨fun c => absurd c (by decide), fun _ => ?_⟩
  refine z_sval C hi dJ0_charAt_5068e_8 ?_
  refine z_run C [] 1 ?_
  simp only [z_x, z_n, z_stop, z_mem, z_ldi, z_lda, z_sto, z_s1, z_s2, z_sa, z_sv, z_br, z_bn, z_ob, z_ar, z_aq, z_al, z_rt, z_ra, z_at, z_st, z_K0i, z_K0v, zk_0, zk_1, zk_2, zk_3, z_lv, List.map_cons, List.map_nil, List.length_cons, List.length_nil, List.replicate, List.cons_append, List.nil_append, Nat.reduceAdd, Nat.reduceSub, Nat.reduceBEq, Nat.reduceEqDiff, Nat.reduceLT, Nat.reduceLeDiff, Nat.zero_add, Int.cast_ofNat_Int, Int.reduceAdd, Int.reduceNeg, Int.reduceToNat, Int.reduceLE, Int.zero_add, Int.toNat_zero, Int.add_zero, Int.add_neg_cancel_right, Fin.isValue, Int32.reduceOfInt, ↓reduceIte, Bool.false_eq_true, Bool.or_false, Bool.false_or, Bool.or_true, Bool.true_or, if_true, if_false, true_and, and_true, true_or, or_true, false_or, or_false, eq_self, and_self, z_up_i, Nat.add_left_cancel_iff, Nat.left_eq_add, Nat.add_eq_left, reduceCtorEq, Nat.add_one_ne_zero, z_tt, implies_true, zn_0, zn_1, zo_0, zo_1, dJ0_charAt_5068e_0, dJ0_charAt_5068e_1, dJ0_charAt_5068e_4, dJ0_charAt_5068e_7, dJ0_charAt_5068e_8, dJ0_charAt_5068e_11, dJ0_charAt_5068e_12, dJ0_charAt_5068e_15, dJ0_charAt_5068e_16, dJ0_charAt_5068e_17, dJ0_charAt_5068e_20, dJ0_charAt_5068e_21, dJ0_charAt_5068e_24]
  refine z_si C dJ0_charAt_5068e_12 lk_8_495 (c_charAt1 hi hj) rfl (fun v M2 hv => ?_)
  obtain ⟨rfl, rfl⟩ := hv
  refine z_run C [] 1 ?_
  simp only [z_x, z_n, z_stop, z_mem, z_ldi, z_lda, z_sto, z_s1, z_s2, z_sa, z_sv, z_br, z_bn, z_ob, z_ar, z_aq, z_al, z_rt, z_ra, z_at, z_st, z_K0i, z_K0v, zk_0, zk_1, zk_2, zk_3, z_lv, List.map_cons, List.map_nil, List.length_cons, List.length_nil, List.replicate, List.cons_append, List.nil_append, Nat.reduceAdd, Nat.reduceSub, Nat.reduceBEq, Nat.reduceEqDiff, Nat.reduceLT, Nat.reduceLeDiff, Nat.zero_add, Int.cast_ofNat_Int, Int.reduceAdd, Int.reduceNeg, Int.reduceToNat, Int.reduceLE, Int.zero_add, Int.toNat_zero, Int.add_zero, Int.add_neg_cancel_right, Fin.isValue, Int32.reduceOfInt, ↓reduceIte, Bool.false_eq_true, Bool.or_false, Bool.false_or, Bool.or_true, Bool.true_or, if_true, if_false, true_and, and_true, true_or, or_true, false_or, or_false, eq_self, and_self, z_up_i, Nat.add_left_cancel_iff, Nat.left_eq_add, Nat.add_eq_left, reduceCtorEq, Nat.add_one_ne_zero, z_tt, implies_true, zn_0, zn_1, zo_0, zo_1, dJ0_charAt_5068e_0, dJ0_charAt_5068e_1, dJ0_charAt_5068e_4, dJ0_charAt_5068e_7, dJ0_charAt_5068e_8, dJ0_charAt_5068e_11, dJ0_charAt_5068e_12, dJ0_charAt_5068e_15, dJ0_charAt_5068e_16, dJ0_charAt_5068e_17, dJ0_charAt_5068e_20, dJ0_charAt_5068e_21, dJ0_charAt_5068e_24]
  rcases (show j = 0 ∨ j = 1 ∨ j = 2 ∨ j = 3 ∨ j = 4 by omega) with rfl | rfl | rfl | rfl | rfl <;> exact ⟨by decide, rfl, rfl⟩
def m_kI (a : Nat) : Int32 := if a = 67 then 0 else if a = 68 then 1 else if a = 84 then 2 else if a = 85 then 3 else if a = 80 then 4 else -1
set_option maxRecDepth 100000 in
set_option maxHeartbeats 4000000 in
theorem c_indexOfChar {l : Launch} {E : zE} {d : Nat} {M : zH} {i a : Nat} (hi : i < 2) (ha : a < 128) : nJ1_indexOfChar_4cfef l E d [.ref (z_sV E i), .int (nI a), .int (nI 0), .int (nI 5)] M (z_i fun v M' => v = m_kI a ∧ M' = M) := by
  refine z_cn 9 fun P z C => ?_
  have hz : ∀ k, k < 5 → z_sign k < 128 := by decide
  have loop : ∀ (n k : Nat), k + n = 5 → (∀ j, j < k → z_sign j ≠ a) → P (M, z, 0, 0) 7 [some (.ref (z_sV E i)), some (.int (nI a)), some (.int (nI 0)), some (.int (nI 5)), some (.int (nI a)), some (.int (nI k))] [] := by
    intro n
    induction n with
    | zero =>
      intro k hk hn
      refine z_run C [] 5 ?_
      simp only [z_x, z_n, z_stop, z_mem, z_ldi, z_lda, z_sto, z_s1, z_s2, z_sa, z_sv, z_br, z_bn, z_ob, z_ar, z_aq, z_al, z_rt, z_ra, z_at, z_st, z_K0i, z_K0v, zk_0, zk_1, zk_2, zk_3, z_lv, List.map_cons, List.map_nil, List.length_cons, List.length_nil, List.replicate, List.cons_append, List.nil_append, Nat.reduceAdd, Nat.reduceSub, Nat.reduceBEq, Nat.reduceEqDiff, Nat.reduceLT, Nat.reduceLeDiff, Nat.zero_add, Int.cast_ofNat_Int, Int.reduceAdd, Int.reduceNeg, Int.reduceToNat, Int.reduceLE, Int.zero_add, Int.toNat_zero, Int.add_zero, Int.add_neg_cancel_right, Fin.isValue, Int32.reduceOfInt, ↓reduceIte, Bool.false_eq_true, Bool.or_false, Bool.false_or, Bool.or_true, Bool.true_or, if_true, if_false, true_and, and_true, true_or, or_true, false_or, or_false, eq_self, and_self, z_up_i, Nat.add_left_cancel_iff, Nat.left_eq_add, Nat.add_eq_left, reduceCtorEq, Nat.add_one_ne_zero, z_tt, implies_true, zn_0, zn_1, zo_0, zo_1, dJ1_indexOfChar_4cfef_0, dJ1_indexOfChar_4cfef_1, dJ1_indexOfChar_4cfef_2, dJ1_indexOfChar_4cfef_4, dJ1_indexOfChar_4cfef_5, dJ1_indexOfChar_4cfef_7, dJ1_indexOfChar_4cfef_9, dJ1_indexOfChar_4cfef_10, dJ1_indexOfChar_4cfef_13, dJ1_indexOfChar_4cfef_14, dJ1_indexOfChar_4cfef_16, dJ1_indexOfChar_4cfef_17, dJ1_indexOfChar_4cfef_19, dJ1_indexOfChar_4cfef_22, dJ1_indexOfChar_4cfef_24, dJ1_indexOfChar_4cfef_25, dJ1_indexOfChar_4cfef_28, dJ1_indexOfChar_4cfef_31, dJ1_indexOfChar_4cfef_32, zi_1, zi_m1]
      refine ⟨fun _ => ⟨?_, rfl⟩, fun c => absurd (nI_le (by omega) (by omega)) c⟩
      have n0 := hn 0 (by omega)
      have n1 := hn 1 (by omega)
      have n2 := hn 2 (by omega)
      have n3 := hn 3 (by omega)
      have n4 := hn 4 (by omega)
      simp only [z_sign, List.getD_cons_zero, List.getD_cons_succ, ne_eq] at n0 n1 n2 n3 n4
      simp only [m_kI, Ne.symm n0, Ne.symm n1, Ne.symm n2, Ne.symm n3, Ne.symm n4, if_false]
    | succ n ih =>
      intro k hk hn
      refine z_run C [] 5 ?_
      simp only [z_x, z_n, z_stop, z_mem, z_ldi, z_lda, z_sto, z_s1, z_s2, z_sa, z_sv, z_br, z_bn, z_ob, z_ar, z_aq, z_al, z_rt, z_ra, z_at, z_st, z_K0i, z_K0v, zk_0, zk_1, zk_2, zk_3, z_lv, List.map_cons, List.map_nil, List.length_cons, List.length_nil, List.replicate, List.cons_append, List.nil_append, Nat.reduceAdd, Nat.reduceSub, Nat.reduceBEq, Nat.reduceEqDiff, Nat.reduceLT, Nat.reduceLeDiff, Nat.zero_add, Int.cast_ofNat_Int, Int.reduceAdd, Int.reduceNeg, Int.reduceToNat, Int.reduceLE, Int.zero_add, Int.toNat_zero, Int.add_zero, Int.add_neg_cancel_right, Fin.isValue, Int32.reduceOfInt, ↓reduceIte, Bool.false_eq_true, Bool.or_false, Bool.false_or, Bool.or_true, Bool.true_or, if_true, if_false, true_and, and_true, true_or, or_true, false_or, or_false, eq_self, and_self, z_up_i, Nat.add_left_cancel_iff, Nat.left_eq_add, Nat.add_eq_left, reduceCtorEq, Nat.add_one_ne_zero, z_tt, implies_true, zn_0, zn_1, zo_0, zo_1, dJ1_indexOfChar_4cfef_0, dJ1_indexOfChar_4cfef_1, dJ1_indexOfChar_4cfef_2, dJ1_indexOfChar_4cfef_4, dJ1_indexOfChar_4cfef_5, dJ1_indexOfChar_4cfef_7, dJ1_indexOfChar_4cfef_9, dJ1_indexOfChar_4cfef_10, dJ1_indexOfChar_4cfef_13, dJ1_indexOfChar_4cfef_14, dJ1_indexOfChar_4cfef_16, dJ1_indexOfChar_4cfef_17, dJ1_indexOfChar_4cfef_19, dJ1_indexOfChar_4cfef_22, dJ1_indexOfChar_4cfef_24, dJ1_indexOfChar_4cfef_25, dJ1_indexOfChar_4cfef_28, dJ1_indexOfChar_4cfef_31, dJ1_indexOfChar_4cfef_32, zi_1, zi_m1]
      refine ⟨fun c1 => absurd ((nI_leI (by omega) (by omega)).mp c1) (by omega), fun _ => ?_⟩
      refine z_sbald C hi (show k < 5 by omega) dJ1_indexOfChar_4cfef_16 ?_
      refine z_run C [7] 5 ?_
      simp only [z_x, z_n, z_stop, z_mem, z_ldi, z_lda, z_sto, z_s1, z_s2, z_sa, z_sv, z_br, z_bn, z_ob, z_ar, z_aq, z_al, z_rt, z_ra, z_at, z_st, z_K0i, z_K0v, zk_0, zk_1, zk_2, zk_3, z_lv, List.map_cons, List.map_nil, List.length_cons, List.length_nil, List.replicate, List.cons_append, List.nil_append, Nat.reduceAdd, Nat.reduceSub, Nat.reduceBEq, Nat.reduceEqDiff, Nat.reduceLT, Nat.reduceLeDiff, Nat.zero_add, Int.cast_ofNat_Int, Int.reduceAdd, Int.reduceNeg, Int.reduceToNat, Int.reduceLE, Int.zero_add, Int.toNat_zero, Int.add_zero, Int.add_neg_cancel_right, Fin.isValue, Int32.reduceOfInt, ↓reduceIte, Bool.false_eq_true, Bool.or_false, Bool.false_or, Bool.or_true, Bool.true_or, if_true, if_false, true_and, and_true, true_or, or_true, false_or, or_false, eq_self, and_self, z_up_i, Nat.add_left_cancel_iff, Nat.left_eq_add, Nat.add_eq_left, reduceCtorEq, Nat.add_one_ne_zero, z_tt, implies_true, zn_0, zn_1, zo_0, zo_1, dJ1_indexOfChar_4cfef_0, dJ1_indexOfChar_4cfef_1, dJ1_indexOfChar_4cfef_2, dJ1_indexOfChar_4cfef_4, dJ1_indexOfChar_4cfef_5, dJ1_indexOfChar_4cfef_7, dJ1_indexOfChar_4cfef_9, dJ1_indexOfChar_4cfef_10, dJ1_indexOfChar_4cfef_13, dJ1_indexOfChar_4cfef_14, dJ1_indexOfChar_4cfef_16, dJ1_indexOfChar_4cfef_17, dJ1_indexOfChar_4cfef_19, dJ1_indexOfChar_4cfef_22, dJ1_indexOfChar_4cfef_24, dJ1_indexOfChar_4cfef_25, dJ1_indexOfChar_4cfef_28, dJ1_indexOfChar_4cfef_31, dJ1_indexOfChar_4cfef_32, zi_1, zi_m1]
      rw [nI_eq (by have := hz k (by omega); omega) (by omega), nI_1]
      refine ⟨fun c => ⟨?_, rfl⟩, fun c => ?_⟩
      · rw [← c]
        rcases (show k = 0 ∨ k = 1 ∨ k = 2 ∨ k = 3 ∨ k = 4 by omega) with rfl | rfl | rfl | rfl | rfl <;> decide
      · refine ih (k + 1) (by omega) (fun j hj => ?_)
        by_cases hjk : j = k
        · subst hjk; exact c
        · exact hn j (by omega)
  have hb : ∀ a, a < 128 → (nI a).toInt8.toInt32 = nI a := by decide
  refine z_run C [7] 5 ?_
  simp only [z_x, z_n, z_stop, z_mem, z_ldi, z_lda, z_sto, z_s1, z_s2, z_sa, z_sv, z_br, z_bn, z_ob, z_ar, z_aq, z_al, z_rt, z_ra, z_at, z_st, z_K0i, z_K0v, zk_0, zk_1, zk_2, zk_3, z_lv, List.map_cons, List.map_nil, List.length_cons, List.length_nil, List.replicate, List.cons_append, List.nil_append, Nat.reduceAdd, Nat.reduceSub, Nat.reduceBEq, Nat.reduceEqDiff, Nat.reduceLT, Nat.reduceLeDiff, Nat.zero_add, Int.cast_ofNat_Int, Int.reduceAdd, Int.reduceNeg, Int.reduceToNat, Int.reduceLE, Int.zero_add, Int.toNat_zero, Int.add_zero, Int.add_neg_cancel_right, Fin.isValue, Int32.reduceOfInt, ↓reduceIte, Bool.false_eq_true, Bool.or_false, Bool.false_or, Bool.or_true, Bool.true_or, if_true, if_false, true_and, and_true, true_or, or_true, false_or, or_false, eq_self, and_self, z_up_i, Nat.add_left_cancel_iff, Nat.left_eq_add, Nat.add_eq_left, reduceCtorEq, Nat.add_one_ne_zero, z_tt, implies_true, zn_0, zn_1, zo_0, zo_1, dJ1_indexOfChar_4cfef_0, dJ1_indexOfChar_4cfef_1, dJ1_indexOfChar_4cfef_2, dJ1_indexOfChar_4cfef_4, dJ1_indexOfChar_4cfef_5, dJ1_indexOfChar_4cfef_7, dJ1_indexOfChar_4cfef_9, dJ1_indexOfChar_4cfef_10, dJ1_indexOfChar_4cfef_13, dJ1_indexOfChar_4cfef_14, dJ1_indexOfChar_4cfef_16, dJ1_indexOfChar_4cfef_17, dJ1_indexOfChar_4cfef_19, dJ1_indexOfChar_4cfef_22, dJ1_indexOfChar_4cfef_24, dJ1_indexOfChar_4cfef_25, dJ1_indexOfChar_4cfef_28, dJ1_indexOfChar_4cfef_31, dJ1_indexOfChar_4cfef_32, zi_1, zi_m1]
  rw [hb a ha]
  exact loop 5 0 (by omega) (fun j hj => by omega)
set_option maxRecDepth 100000 in
set_option maxHeartbeats 4000000 in
theorem c_canEncode {l : Launch} {E : zE} {d : Nat} {M : zH} {a : Nat} (ha : a < 128) : nJ1_canEncode_9a6ad l E d [.int (nI a)] M (z_i fun v M' => v = 1 ∧ M' = M) := by
  refine z_cn 9 fun P z C => ?_
  refine z_run C [] 10 ?_
  simp only [z_x, z_n, z_stop, z_mem, z_ldi, z_lda, z_sto, z_s1, z_s2, z_sa, z_sv, z_br, z_bn, z_ob, z_ar, z_aq, z_al, z_rt, z_ra, z_at, z_st, z_K0i, z_K0v, zk_0, zk_1, zk_2, zk_3, z_lv, List.map_cons, List.map_nil, List.length_cons, List.length_nil, List.replicate, List.cons_append, List.nil_append, Nat.reduceAdd, Nat.reduceSub, Nat.reduceBEq, Nat.reduceEqDiff, Nat.reduceLT, Nat.reduceLeDiff, Nat.zero_add, Int.cast_ofNat_Int, Int.reduceAdd, Int.reduceNeg, Int.reduceToNat, Int.reduceLE, Int.zero_add, Int.toNat_zero, Int.add_zero, Int.add_neg_cancel_right, Fin.isValue, Int32.reduceOfInt, ↓reduceIte, Bool.false_eq_true, Bool.or_false, Bool.false_or, Bool.or_true, Bool.true_or, if_true, if_false, true_and, and_true, true_or, or_true, false_or, or_false, eq_self, and_self, z_up_i, Nat.add_left_cancel_iff, Nat.left_eq_add, Nat.add_eq_left, reduceCtorEq, Nat.add_one_ne_zero, z_tt, implies_true, zn_0, zn_1, zo_0, zo_1, dJ1_canEncode_9a6ad_0, dJ1_canEncode_9a6ad_1, dJ1_canEncode_9a6ad_4, dJ1_canEncode_9a6ad_5, dJ1_canEncode_9a6ad_8, dJ1_canEncode_9a6ad_11, dJ1_canEncode_9a6ad_12, dJ1_canEncode_9a6ad_15, dJ1_canEncode_9a6ad_16, zi_0, zi_1, zs_255]
  exact ⟨fun c => absurd c (nI_pos (by omega)), fun _ => ⟨fun c => absurd ((nI_ltI (a := 255) (by omega) (by omega)).mp c) (by omega), fun _ => ⟨rfl, rfl⟩⟩⟩
set_option maxRecDepth 100000 in
set_option maxHeartbeats 4000000 in
theorem c_indexOf1 {l : Launch} {E : zE} {d : Nat} {M : zH} {i a : Nat} (hi : i < 2) (ha : a < 128) : nJ1_indexOf_4cfef l E (d + 1) [.ref (z_sV E i), .int (nI a), .int (nI 0), .int (nI 5)] M (z_i fun v M' => v = m_kI a ∧ M' = M) := by
  refine z_cn 9 fun P z C => ?_
  refine z_run C [] 1 ?_
  simp only [z_x, z_n, z_stop, z_mem, z_ldi, z_lda, z_sto, z_s1, z_s2, z_sa, z_sv, z_br, z_bn, z_ob, z_ar, z_aq, z_al, z_rt, z_ra, z_at, z_st, z_K0i, z_K0v, zk_0, zk_1, zk_2, zk_3, z_lv, List.map_cons, List.map_nil, List.length_cons, List.length_nil, List.replicate, List.cons_append, List.nil_append, Nat.reduceAdd, Nat.reduceSub, Nat.reduceBEq, Nat.reduceEqDiff, Nat.reduceLT, Nat.reduceLeDiff, Nat.zero_add, Int.cast_ofNat_Int, Int.reduceAdd, Int.reduceNeg, Int.reduceToNat, Int.reduceLE, Int.zero_add, Int.toNat_zero, Int.add_zero, Int.add_neg_cancel_right, Fin.isValue, Int32.reduceOfInt, ↓reduceIte, Bool.false_eq_true, Bool.or_false, Bool.false_or, Bool.or_true, Bool.true_or, if_true, if_false, true_and, and_true, true_or, or_true, false_or, or_false, eq_self, and_self, z_up_i, Nat.add_left_cancel_iff, Nat.left_eq_add, Nat.add_eq_left, reduceCtorEq, Nat.add_one_ne_zero, z_tt, implies_true, zn_0, zn_1, zo_0, zo_1, dJ1_indexOf_4cfef_0, dJ1_indexOf_4cfef_1, dJ1_indexOf_4cfef_4, dJ1_indexOf_4cfef_7, dJ1_indexOf_4cfef_8, dJ1_indexOf_4cfef_9, dJ1_indexOf_4cfef_10, dJ1_indexOf_4cfef_11, dJ1_indexOf_4cfef_14, dJ1_indexOf_4cfef_15, dJ1_indexOf_4cfef_16, dJ1_indexOf_4cfef_17, dJ1_indexOf_4cfef_18, dJ1_indexOf_4cfef_21, dJ1_indexOf_4cfef_22, dJ1_indexOf_4cfef_23, dJ1_indexOf_4cfef_24, dJ1_indexOf_4cfef_27, dJ1_indexOf_4cfef_28, dJ1_indexOf_4cfef_29, dJ1_indexOf_4cfef_30, dJ1_indexOf_4cfef_31, dJ1_indexOf_4cfef_32, dJ1_indexOf_4cfef_33, dJ1_indexOf_4cfef_36, zi_0, zi_m1]
  refine z_si C dJ1_indexOf_4cfef_1 lk_9_88 (c_canEncode ha) rfl (fun v M2 hv => ?_)
  obtain ⟨rfl, rfl⟩ := hv
  refine z_run C [] 3 ?_
  simp only [z_x, z_n, z_stop, z_mem, z_ldi, z_lda, z_sto, z_s1, z_s2, z_sa, z_sv, z_br, z_bn, z_ob, z_ar, z_aq, z_al, z_rt, z_ra, z_at, z_st, z_K0i, z_K0v, zk_0, zk_1, zk_2, zk_3, z_lv, List.map_cons, List.map_nil, List.length_cons, List.length_nil, List.replicate, List.cons_append, List.nil_append, Nat.reduceAdd, Nat.reduceSub, Nat.reduceBEq, Nat.reduceEqDiff, Nat.reduceLT, Nat.reduceLeDiff, Nat.zero_add, Int.cast_ofNat_Int, Int.reduceAdd, Int.reduceNeg, Int.reduceToNat, Int.reduceLE, Int.zero_add, Int.toNat_zero, Int.add_zero, Int.add_neg_cancel_right, Fin.isValue, Int32.reduceOfInt, ↓reduceIte, Bool.false_eq_true, Bool.or_false, Bool.false_or, Bool.or_true, Bool.true_or, if_true, if_false, true_and, and_true, true_or, or_true, false_or, or_false, eq_self, and_self, z_up_i, Nat.add_left_cancel_iff, Nat.left_eq_add, Nat.add_eq_left, reduceCtorEq, Nat.add_one_ne_zero, z_tt, implies_true, zn_0, zn_1, zo_0, zo_1, dJ1_indexOf_4cfef_0, dJ1_indexOf_4cfef_1, dJ1_indexOf_4cfef_4, dJ1_indexOf_4cfef_7, dJ1_indexOf_4cfef_8, dJ1_indexOf_4cfef_9, dJ1_indexOf_4cfef_10, dJ1_indexOf_4cfef_11, dJ1_indexOf_4cfef_14, dJ1_indexOf_4cfef_15, dJ1_indexOf_4cfef_16, dJ1_indexOf_4cfef_17, dJ1_indexOf_4cfef_18, dJ1_indexOf_4cfef_21, dJ1_indexOf_4cfef_22, dJ1_indexOf_4cfef_23, dJ1_indexOf_4cfef_24, dJ1_indexOf_4cfef_27, dJ1_indexOf_4cfef_28, dJ1_indexOf_4cfef_29, dJ1_indexOf_4cfef_30, dJ1_indexOf_4cfef_31, dJ1_indexOf_4cfef_32, dJ1_indexOf_4cfef_33, dJ1_indexOf_4cfef_36, zi_0, zi_m1]
  refine ⟨fun c => absurd c (by decide), fun _ => ?_⟩
  refine z_mx C dJ1_indexOf_4cfef_11 lk_9_92 ?_
  refine z_run C [] 3 ?_
  simp only [z_x, z_n, z_stop, z_mem, z_ldi, z_lda, z_sto, z_s1, z_s2, z_sa, z_sv, z_br, z_bn, z_ob, z_ar, z_aq, z_al, z_rt, z_ra, z_at, z_st, z_K0i, z_K0v, zk_0, zk_1, zk_2, zk_3, z_lv, List.map_cons, List.map_nil, List.length_cons, List.length_nil, List.replicate, List.cons_append, List.nil_append, Nat.reduceAdd, Nat.reduceSub, Nat.reduceBEq, Nat.reduceEqDiff, Nat.reduceLT, Nat.reduceLeDiff, Nat.zero_add, Int.cast_ofNat_Int, Int.reduceAdd, Int.reduceNeg, Int.reduceToNat, Int.reduceLE, Int.zero_add, Int.toNat_zero, Int.add_zero, Int.add_neg_cancel_right, Fin.isValue, Int32.reduceOfInt, ↓reduceIte, Bool.false_eq_true, Bool.or_false, Bool.false_or, Bool.or_true, Bool.true_or, if_true, if_false, true_and, and_true, true_or, or_true, false_or, or_false, eq_self, and_self, z_up_i, Nat.add_left_cancel_iff, Nat.left_eq_add, Nat.add_eq_left, reduceCtorEq, Nat.add_one_ne_zero, z_tt, implies_true, zn_0, zn_1, zo_0, zo_1, dJ1_indexOf_4cfef_0, dJ1_indexOf_4cfef_1, dJ1_indexOf_4cfef_4, dJ1_indexOf_4cfef_7, dJ1_indexOf_4cfef_8, dJ1_indexOf_4cfef_9, dJ1_indexOf_4cfef_10, dJ1_indexOf_4cfef_11, dJ1_indexOf_4cfef_14, dJ1_indexOf_4cfef_15, dJ1_indexOf_4cfef_16, dJ1_indexOf_4cfef_17, dJ1_indexOf_4cfef_18, dJ1_indexOf_4cfef_21, dJ1_indexOf_4cfef_22, dJ1_indexOf_4cfef_23, dJ1_indexOf_4cfef_24, dJ1_indexOf_4cfef_27, dJ1_indexOf_4cfef_28, dJ1_indexOf_4cfef_29, dJ1_indexOf_4cfef_30, dJ1_indexOf_4cfef_31, dJ1_indexOf_4cfef_32, dJ1_indexOf_4cfef_33, dJ1_indexOf_4cfef_36, zi_0, zi_m1]
  refine z_salen C hi dJ1_indexOf_4cfef_17 ?_
  refine z_mn C dJ1_indexOf_4cfef_18 lk_9_38 ?_
  rw [show (if nI 0 < 0 then (0 : Int32) else nI 0) = nI 0 from rfl, show (if nI 5 < nI 5 then nI 5 else nI 5) = nI 5 from rfl]
  refine z_run C [] 8 ?_
  simp only [z_x, z_n, z_stop, z_mem, z_ldi, z_lda, z_sto, z_s1, z_s2, z_sa, z_sv, z_br, z_bn, z_ob, z_ar, z_aq, z_al, z_rt, z_ra, z_at, z_st, z_K0i, z_K0v, zk_0, zk_1, zk_2, zk_3, z_lv, List.map_cons, List.map_nil, List.length_cons, List.length_nil, List.replicate, List.cons_append, List.nil_append, Nat.reduceAdd, Nat.reduceSub, Nat.reduceBEq, Nat.reduceEqDiff, Nat.reduceLT, Nat.reduceLeDiff, Nat.zero_add, Int.cast_ofNat_Int, Int.reduceAdd, Int.reduceNeg, Int.reduceToNat, Int.reduceLE, Int.zero_add, Int.toNat_zero, Int.add_zero, Int.add_neg_cancel_right, Fin.isValue, Int32.reduceOfInt, ↓reduceIte, Bool.false_eq_true, Bool.or_false, Bool.false_or, Bool.or_true, Bool.true_or, if_true, if_false, true_and, and_true, true_or, or_true, false_or, or_false, eq_self, and_self, z_up_i, Nat.add_left_cancel_iff, Nat.left_eq_add, Nat.add_eq_left, reduceCtorEq, Nat.add_one_ne_zero, z_tt, implies_true, zn_0, zn_1, zo_0, zo_1, dJ1_indexOf_4cfef_0, dJ1_indexOf_4cfef_1, dJ1_indexOf_4cfef_4, dJ1_indexOf_4cfef_7, dJ1_indexOf_4cfef_8, dJ1_indexOf_4cfef_9, dJ1_indexOf_4cfef_10, dJ1_indexOf_4cfef_11, dJ1_indexOf_4cfef_14, dJ1_indexOf_4cfef_15, dJ1_indexOf_4cfef_16, dJ1_indexOf_4cfef_17, dJ1_indexOf_4cfef_18, dJ1_indexOf_4cfef_21, dJ1_indexOf_4cfef_22, dJ1_indexOf_4cfef_23, dJ1_indexOf_4cfef_24, dJ1_indexOf_4cfef_27, dJ1_indexOf_4cfef_28, dJ1_indexOf_4cfef_29, dJ1_indexOf_4cfef_30, dJ1_indexOf_4cfef_31, dJ1_indexOf_4cfef_32, dJ1_indexOf_4cfef_33, dJ1_indexOf_4cfef_36, zi_0, zi_m1]
  refine ⟨fun _ => ?_, fun c => absurd (by decide) c⟩
  refine z_si C dJ1_indexOf_4cfef_33 lk_9_95 (c_indexOfChar hi ha) rfl (fun v M2 hv => ?_)
  obtain ⟨rfl, rfl⟩ := hv
  refine z_run C [] 2 ?_
  simp only [z_x, z_n, z_stop, z_mem, z_ldi, z_lda, z_sto, z_s1, z_s2, z_sa, z_sv, z_br, z_bn, z_ob, z_ar, z_aq, z_al, z_rt, z_ra, z_at, z_st, z_K0i, z_K0v, zk_0, zk_1, zk_2, zk_3, z_lv, List.map_cons, List.map_nil, List.length_cons, List.length_nil, List.replicate, List.cons_append, List.nil_append, Nat.reduceAdd, Nat.reduceSub, Nat.reduceBEq, Nat.reduceEqDiff, Nat.reduceLT, Nat.reduceLeDiff, Nat.zero_add, Int.cast_ofNat_Int, Int.reduceAdd, Int.reduceNeg, Int.reduceToNat, Int.reduceLE, Int.zero_add, Int.toNat_zero, Int.add_zero, Int.add_neg_cancel_right, Fin.isValue, Int32.reduceOfInt, ↓reduceIte, Bool.false_eq_true, Bool.or_false, Bool.false_or, Bool.or_true, Bool.true_or, if_true, if_false, true_and, and_true, true_or, or_true, false_or, or_false, eq_self, and_self, z_up_i, Nat.add_left_cancel_iff, Nat.left_eq_add, Nat.add_eq_left, reduceCtorEq, Nat.add_one_ne_zero, z_tt, implies_true, zn_0, zn_1, zo_0, zo_1, dJ1_indexOf_4cfef_0, dJ1_indexOf_4cfef_1, dJ1_indexOf_4cfef_4, dJ1_indexOf_4cfef_7, dJ1_indexOf_4cfef_8, dJ1_indexOf_4cfef_9, dJ1_indexOf_4cfef_10, dJ1_indexOf_4cfef_11, dJ1_indexOf_4cfef_14, dJ1_indexOf_4cfef_15, dJ1_indexOf_4cfef_16, dJ1_indexOf_4cfef_17, dJ1_indexOf_4cfef_18, dJ1_indexOf_4cfef_21, dJ1_indexOf_4cfef_22, dJ1_indexOf_4cfef_23, dJ1_indexOf_4cfef_24, dJ1_indexOf_4cfef_27, dJ1_indexOf_4cfef_28, dJ1_indexOf_4cfef_29, dJ1_indexOf_4cfef_30, dJ1_indexOf_4cfef_31, dJ1_indexOf_4cfef_32, dJ1_indexOf_4cfef_33, dJ1_indexOf_4cfef_36, zi_0, zi_m1]
  exact ⟨rfl, rfl⟩
set_option maxRecDepth 100000 in
set_option maxHeartbeats 4000000 in
theorem c_indexOf2 {l : Launch} {E : zE} {d : Nat} {M : zH} {i a : Nat} (hi : i < 2) (ha : a < 128) : nJ0_indexOf_7cf53 l E (d + 2) [.ref (z_sK E i), .int (nI a), .int (nI 0)] M (z_i fun v M' => v = m_kI a ∧ M' = M) := by
  refine z_cn 8 fun P z C => ?_
  refine z_run C [] 1 ?_
  simp only [z_x, z_n, z_stop, z_mem, z_ldi, z_lda, z_sto, z_s1, z_s2, z_sa, z_sv, z_br, z_bn, z_ob, z_ar, z_aq, z_al, z_rt, z_ra, z_at, z_st, z_K0i, z_K0v, zk_0, zk_1, zk_2, zk_3, z_lv, List.map_cons, List.map_nil, List.length_cons, List.length_nil, List.replicate, List.cons_append, List.nil_append, Nat.reduceAdd, Nat.reduceSub, Nat.reduceBEq, Nat.reduceEqDiff, Nat.reduceLT, Nat.reduceLeDiff, Nat.zero_add, Int.cast_ofNat_Int, Int.reduceAdd, Int.reduceNeg, Int.reduceToNat, Int.reduceLE, Int.zero_add, Int.toNat_zero, Int.add_zero, Int.add_neg_cancel_right, Fin.isValue, Int32.reduceOfInt, ↓reduceIte, Bool.false_eq_true, Bool.or_false, Bool.false_or, Bool.or_true, Bool.true_or, if_true, if_false, true_and, and_true, true_or, or_true, false_or, or_false, eq_self, and_self, z_up_i, Nat.add_left_cancel_iff, Nat.left_eq_add, Nat.add_eq_left, reduceCtorEq, Nat.add_one_ne_zero, z_tt, implies_true, zn_0, zn_1, zo_0, zo_1, dJ0_indexOf_7cf53_0, dJ0_indexOf_7cf53_1, dJ0_indexOf_7cf53_4, dJ0_indexOf_7cf53_7, dJ0_indexOf_7cf53_8, dJ0_indexOf_7cf53_11, dJ0_indexOf_7cf53_12, dJ0_indexOf_7cf53_13, dJ0_indexOf_7cf53_14, dJ0_indexOf_7cf53_17, dJ0_indexOf_7cf53_20, dJ0_indexOf_7cf53_23, dJ0_indexOf_7cf53_24, dJ0_indexOf_7cf53_27, dJ0_indexOf_7cf53_28, dJ0_indexOf_7cf53_29, dJ0_indexOf_7cf53_30, dJ0_indexOf_7cf53_33, dJ0_indexOf_7cf53_36]
  refine z_ti C hi dJ0_indexOf_7cf53_1 lk_8_492 (c_isLatin1 hi) rfl (fun v M2 hv => ?_)
  obtain ⟨rfl, rfl⟩ := hv
  refine z_run C [] 2 ?_
  simp only [z_x, z_n, z_stop, z_mem, z_ldi, z_lda, z_sto, z_s1, z_s2, z_sa, z_sv, z_br, z_bn, z_ob, z_ar, z_aq, z_al, z_rt, z_ra, z_at, z_st, z_K0i, z_K0v, zk_0, zk_1, zk_2, zk_3, z_lv, List.map_cons, List.map_nil, List.length_cons, List.length_nil, List.replicate, List.cons_append, List.nil_append, Nat.reduceAdd, Nat.reduceSub, Nat.reduceBEq, Nat.reduceEqDiff, Nat.reduceLT, Nat.reduceLeDiff, Nat.zero_add, Int.cast_ofNat_Int, Int.reduceAdd, Int.reduceNeg, Int.reduceToNat, Int.reduceLE, Int.zero_add, Int.toNat_zero, Int.add_zero, Int.add_neg_cancel_right, Fin.isValue, Int32.reduceOfInt, ↓reduceIte, Bool.false_eq_true, Bool.or_false, Bool.false_or, Bool.or_true, Bool.true_or, if_true, if_false, true_and, and_true, true_or, or_true, false_or, or_false, eq_self, and_self, z_up_i, Nat.add_left_cancel_iff, Nat.left_eq_add, Nat.add_eq_left, reduceCtorEq, Nat.add_one_ne_zero, z_tt, implies_true, zn_0, zn_1, zo_0, zo_1, dJ0_indexOf_7cf53_0, dJ0_indexOf_7cf53_1, dJ0_indexOf_7cf53_4, dJ0_indexOf_7cf53_7, dJ0_indexOf_7cf53_8, dJ0_indexOf_7cf53_11, dJ0_indexOf_7cf53_12, dJ0_indexOf_7cf53_13, dJ0_indexOf_7cf53_14, dJ0_indexOf_7cf53_17, dJ0_indexOf_7cf53_20, dJ0_indexOf_7cf53_23, dJ0_indexOf_7cf53_24, dJ0_indexOf_7cf53_27, dJ0_indexOf_7cf53_28, dJ0_indexOf_7cf53_29, dJ0_indexOf_7cf53_30, dJ0_indexOf_7cf53_33, dJ0_indexOf_7cf53_36]
  refine ⟨fun c => absurd c (by decide), fun _ => ?_⟩
  refine z_sval C hi dJ0_indexOf_7cf53_8 ?_
  refine z_run C [] 3 ?_
  simp only [z_x, z_n, z_stop, z_mem, z_ldi, z_lda, z_sto, z_s1, z_s2, z_sa, z_sv, z_br, z_bn, z_ob, z_ar, z_aq, z_al, z_rt, z_ra, z_at, z_st, z_K0i, z_K0v, zk_0, zk_1, zk_2, zk_3, z_lv, List.map_cons, List.map_nil, List.length_cons, List.length_nil, List.replicate, List.cons_append, List.nil_append, Nat.reduceAdd, Nat.reduceSub, Nat.reduceBEq, Nat.reduceEqDiff, Nat.reduceLT, Nat.reduceLeDiff, Nat.zero_add, Int.cast_ofNat_Int, Int.reduceAdd, Int.reduceNeg, Int.reduceToNat, Int.reduceLE, Int.zero_add, Int.toNat_zero, Int.add_zero, Int.add_neg_cancel_right, Fin.isValue, Int32.reduceOfInt, ↓reduceIte, Bool.false_eq_true, Bool.or_false, Bool.false_or, Bool.or_true, Bool.true_or, if_true, if_false, true_and, and_true, true_or, or_true, false_or, or_false, eq_self, and_self, z_up_i, Nat.add_left_cancel_iff, Nat.left_eq_add, Nat.add_eq_left, reduceCtorEq, Nat.add_one_ne_zero, z_tt, implies_true, zn_0, zn_1, zo_0, zo_1, dJ0_indexOf_7cf53_0, dJ0_indexOf_7cf53_1, dJ0_indexOf_7cf53_4, dJ0_indexOf_7cf53_7, dJ0_indexOf_7cf53_8, dJ0_indexOf_7cf53_11, dJ0_indexOf_7cf53_12, dJ0_indexOf_7cf53_13, dJ0_indexOf_7cf53_14, dJ0_indexOf_7cf53_17, dJ0_indexOf_7cf53_20, dJ0_indexOf_7cf53_23, dJ0_indexOf_7cf53_24, dJ0_indexOf_7cf53_27, dJ0_indexOf_7cf53_28, dJ0_indexOf_7cf53_29, dJ0_indexOf_7cf53_30, dJ0_indexOf_7cf53_33, dJ0_indexOf_7cf53_36]
  refine z_ti C hi dJ0_indexOf_7cf53_14 lk_8_505 (c_length hi) rfl (fun v M2 hv => ?_)
  obtain ⟨rfl, rfl⟩ := hv
  refine z_si C dJ0_indexOf_7cf53_17 lk_8_637 (c_indexOf1 hi ha) rfl (fun v M2 hv => ?_)
  obtain ⟨rfl, rfl⟩ := hv
  refine z_run C [] 3 ?_
  simp only [z_x, z_n, z_stop, z_mem, z_ldi, z_lda, z_sto, z_s1, z_s2, z_sa, z_sv, z_br, z_bn, z_ob, z_ar, z_aq, z_al, z_rt, z_ra, z_at, z_st, z_K0i, z_K0v, zk_0, zk_1, zk_2, zk_3, z_lv, List.map_cons, List.map_nil, List.length_cons, List.length_nil, List.replicate, List.cons_append, List.nil_append, Nat.reduceAdd, Nat.reduceSub, Nat.reduceBEq, Nat.reduceEqDiff, Nat.reduceLT, Nat.reduceLeDiff, Nat.zero_add, Int.cast_ofNat_Int, Int.reduceAdd, Int.reduceNeg, Int.reduceToNat, Int.reduceLE, Int.zero_add, Int.toNat_zero, Int.add_zero, Int.add_neg_cancel_right, Fin.isValue, Int32.reduceOfInt, ↓reduceIte, Bool.false_eq_true, Bool.or_false, Bool.false_or, Bool.or_true, Bool.true_or, if_true, if_false, true_and, and_true, true_or, or_true, false_or, or_false, eq_self, and_self, z_up_i, Nat.add_left_cancel_iff, Nat.left_eq_add, Nat.add_eq_left, reduceCtorEq, Nat.add_one_ne_zero, z_tt, implies_true, zn_0, zn_1, zo_0, zo_1, dJ0_indexOf_7cf53_0, dJ0_indexOf_7cf53_1, dJ0_indexOf_7cf53_4, dJ0_indexOf_7cf53_7, dJ0_indexOf_7cf53_8, dJ0_indexOf_7cf53_11, dJ0_indexOf_7cf53_12, dJ0_indexOf_7cf53_13, dJ0_indexOf_7cf53_14, dJ0_indexOf_7cf53_17, dJ0_indexOf_7cf53_20, dJ0_indexOf_7cf53_23, dJ0_indexOf_7cf53_24, dJ0_indexOf_7cf53_27, dJ0_indexOf_7cf53_28, dJ0_indexOf_7cf53_29, dJ0_indexOf_7cf53_30, dJ0_indexOf_7cf53_33, dJ0_indexOf_7cf53_36]
  exact ⟨rfl, rfl⟩
set_option maxRecDepth 100000 in
set_option maxHeartbeats 4000000 in
theorem c_indexOf {l : Launch} {E : zE} {d : Nat} {M : zH} {i a : Nat} (hi : i < 2) (ha : a < 128) : nJ0_indexOf_0f7a4 l E (d + 3) [.ref (z_sK E i), .int (nI a)] M (z_i fun v M' => v = m_kI a ∧ M' = M) := by
  refine z_cn 8 fun P z C => ?_
  refine z_run C [] 3 ?_
  simp only [z_x, z_n, z_stop, z_mem, z_ldi, z_lda, z_sto, z_s1, z_s2, z_sa, z_sv, z_br, z_bn, z_ob, z_ar, z_aq, z_al, z_rt, z_ra, z_at, z_st, z_K0i, z_K0v, zk_0, zk_1, zk_2, zk_3, z_lv, List.map_cons, List.map_nil, List.length_cons, List.length_nil, List.replicate, List.cons_append, List.nil_append, Nat.reduceAdd, Nat.reduceSub, Nat.reduceBEq, Nat.reduceEqDiff, Nat.reduceLT, Nat.reduceLeDiff, Nat.zero_add, Int.cast_ofNat_Int, Int.reduceAdd, Int.reduceNeg, Int.reduceToNat, Int.reduceLE, Int.zero_add, Int.toNat_zero, Int.add_zero, Int.add_neg_cancel_right, Fin.isValue, Int32.reduceOfInt, ↓reduceIte, Bool.false_eq_true, Bool.or_false, Bool.false_or, Bool.or_true, Bool.true_or, if_true, if_false, true_and, and_true, true_or, or_true, false_or, or_false, eq_self, and_self, z_up_i, Nat.add_left_cancel_iff, Nat.left_eq_add, Nat.add_eq_left, reduceCtorEq, Nat.add_one_ne_zero, z_tt, implies_true, zn_0, zn_1, zo_0, zo_1, dJ0_indexOf_0f7a4_0, dJ0_indexOf_0f7a4_1, dJ0_indexOf_0f7a4_2, dJ0_indexOf_0f7a4_3, dJ0_indexOf_0f7a4_6, zi_0]
  refine z_ti C hi dJ0_indexOf_0f7a4_3 lk_8_633 (c_indexOf2 hi ha) rfl (fun v M2 hv => ?_)
  obtain ⟨rfl, rfl⟩ := hv
  refine z_run C [] 3 ?_
  simp only [z_x, z_n, z_stop, z_mem, z_ldi, z_lda, z_sto, z_s1, z_s2, z_sa, z_sv, z_br, z_bn, z_ob, z_ar, z_aq, z_al, z_rt, z_ra, z_at, z_st, z_K0i, z_K0v, zk_0, zk_1, zk_2, zk_3, z_lv, List.map_cons, List.map_nil, List.length_cons, List.length_nil, List.replicate, List.cons_append, List.nil_append, Nat.reduceAdd, Nat.reduceSub, Nat.reduceBEq, Nat.reduceEqDiff, Nat.reduceLT, Nat.reduceLeDiff, Nat.zero_add, Int.cast_ofNat_Int, Int.reduceAdd, Int.reduceNeg, Int.reduceToNat, Int.reduceLE, Int.zero_add, Int.toNat_zero, Int.add_zero, Int.add_neg_cancel_right, Fin.isValue, Int32.reduceOfInt, ↓reduceIte, Bool.false_eq_true, Bool.or_false, Bool.false_or, Bool.or_true, Bool.true_or, if_true, if_false, true_and, and_true, true_or, or_true, false_or, or_false, eq_self, and_self, z_up_i, Nat.add_left_cancel_iff, Nat.left_eq_add, Nat.add_eq_left, reduceCtorEq, Nat.add_one_ne_zero, z_tt, implies_true, zn_0, zn_1, zo_0, zo_1, dJ0_indexOf_0f7a4_0, dJ0_indexOf_0f7a4_1, dJ0_indexOf_0f7a4_2, dJ0_indexOf_0f7a4_3, dJ0_indexOf_0f7a4_6, zi_0]
  exact ⟨rfl, rfl⟩
end
section
/-! WHAT A PAD TELLS -/
def m_kd (c : Nat) : Nat := if c = 67 then 0 else if c = 68 then 1 else if c = 84 then 2 else if c = 85 then 3 else 4
def m_isK (c : Nat) : Prop := c = 67 ∨ c = 68 ∨ c = 84 ∨ c = 85 ∨ c = 80
def m_isS (c : Nat) : Prop := 48 ≤ c ∧ c < 51
theorem m_kI_k {c : Nat} (h : m_isK c) : m_kI c = nI (m_kd c) ∧ m_kd c < 5 := by
  rcases h with rfl | rfl | rfl | rfl | rfl <;> decide
theorem m_kI_n {c : Nat} (h : ¬ m_isK c) : m_kI c = -1 := by
  unfold m_isK at h
  simp only [not_or] at h
  simp only [m_kI, h.1, h.2.1, h.2.2.1, h.2.2.2.1, h.2.2.2.2, if_false]
/-- whether a sign can stand there -/
def m_ok (c o : Nat) (due : Bool) : Prop := if due = true then 49 ≤ c ∧ c ≤ 57 else if c = 40 then o < 3 else if c = 41 then 0 < o else m_isS c ∨ m_isK c
def m_opn (c o : Nat) : Nat := if c = 40 then o + 1 else if c = 41 then o - 1 else o
def m_wf : List Nat → Nat → Bool → Prop
  | [], o, due => o = 0 ∧ due = false
  | c :: l, o, due => m_ok c o due ∧ m_wf l (m_opn c o) (c == 41)
def m_rep (n : Nat) (f : List Nat) : List Nat := (List.replicate n f).flatten
def m_den : Nat → List Nat → List Nat × List Nat
  | 0, l => ([], l)
  | _ + 1, [] => ([], [])
  | n + 1, c :: l => if c = 41 then ([], c :: l) else if c = 40 then
      (m_rep ((m_den n l).2.getD 1 0 - 48) (m_den n l).1 ++ (m_den n ((m_den n l).2.drop 2)).1, (m_den n ((m_den n l).2.drop 2)).2)
    else (c :: (m_den n l).1, (m_den n l).2)
theorem m_den_len : ∀ (n : Nat) (l : List Nat), (m_den n l).2.length ≤ l.length
  | 0, l => Nat.le_refl _
  | n + 1, [] => Nat.le_refl _
  | n + 1, c :: l => by
    have h1 := m_den_len n l
    have h2 := m_den_len n ((m_den n l).2.drop 2)
    rw [List.length_drop] at h2
    unfold m_den
    split
    · exact Nat.le_refl _
    · split
      · simp only [List.length_cons]; omega
      · simp only [List.length_cons]; omega
theorem m_den_s : ∀ (n : Nat) (l : List Nat), l.length ≤ n → m_den (n + 1) l = m_den n l
  | 0, [], _ => rfl
  | n + 1, [], _ => rfl
  | n + 1, c :: l, h => by
    have hl : l.length ≤ n := by simp only [List.length_cons] at h; omega
    have h1 := m_den_s n l hl
    have h3 := m_den_len n l
    have h2 := m_den_s n ((m_den n l).2.drop 2) (by rw [List.length_drop]; omega)
    rw [m_den.eq_def (n + 1 + 1) (c :: l), m_den.eq_def (n + 1) (c :: l)]
    simp only [h1, h2]
theorem m_den_ge {n : Nat} {l : List Nat} (h : l.length ≤ n) : m_den n l = m_den l.length l := by
  induction n with
  | zero => have : l.length = 0 := by omega
            rw [this]
  | succ n ih =>
    by_cases hn : l.length ≤ n
    · rw [m_den_s n l hn, ih hn]
    · rw [show l.length = n + 1 by omega]
def m_dn (l : List Nat) : List Nat × List Nat := m_den l.length l
theorem m_dn_nil : m_dn [] = ([], []) := rfl
theorem m_dn_close (l : List Nat) : m_dn (41 :: l) = ([], 41 :: l) := rfl
theorem m_dn_basic {c : Nat} (l : List Nat) (h1 : c ≠ 41) (h2 : c ≠ 40) : m_dn (c :: l) = (c :: (m_dn l).1, (m_dn l).2) := by
  unfold m_dn
  simp only [List.length_cons]
  rw [m_den.eq_def]
  simp only [h1, h2, if_false]
theorem m_dn_open (l : List Nat) {f r : List Nat} {d : Nat} (h : m_dn l = (f, 41 :: d :: r)) : m_dn (40 :: l) = (m_rep (d - 48) f ++ (m_dn r).1, (m_dn r).2) := by
  have h3 := m_den_len l.length l
  unfold m_dn at h ⊢
  rw [h] at h3
  simp only [List.length_cons] at h3 ⊢
  rw [m_den.eq_def]
  simp only [h, show ¬ (40 : Nat) = 41 by omega, if_false, if_true, List.getD_cons_succ, List.getD_cons_zero, List.drop_succ_cons, List.drop_zero]
  rw [m_den_ge (by omega)]
def m_flatok (f : List Nat) : Prop := ∀ c ∈ f, m_isS c ∨ m_isK c
theorem m_flatok_rep {f : List Nat} (h : m_flatok f) (n : Nat) : m_flatok (m_rep n f) := by
  intro c hc
  unfold m_rep at hc
  obtain ⟨g, hg, hcg⟩ := List.mem_flatten.mp hc
  rw [List.mem_replicate] at hg
  rw [hg.2] at hcg
  exact h c hcg
/-- a text that can stand ends at its ) or at the pad's end -/
theorem m_dn_wf : ∀ (n : Nat) (l : List Nat) (o : Nat), l.length ≤ n → m_wf l o false → m_flatok (m_dn l).1 ∧ ((o = 0 ∧ (m_dn l).2 = []) ∨ (0 < o ∧ ∃ d r, (m_dn l).2 = 41 :: d :: r ∧ 49 ≤ d ∧ d ≤ 57 ∧ m_wf r (o - 1) false ∧ ∃ p, l = p ++ 41 :: d :: r)) := by
  intro n
  induction n with
  | zero =>
    intro l o hl hw
    have : l = [] := List.eq_nil_of_length_eq_zero (by omega)
    subst this
    exact ⟨fun c hc => by simp [m_dn_nil] at hc, Or.inl ⟨hw.1, rfl⟩⟩
  | succ n ih =>
    intro l o hl hw
    match l, hl, hw with
    | [], hl, hw => exact ⟨fun c hc => by simp [m_dn_nil] at hc, Or.inl ⟨hw.1, rfl⟩⟩
    | c :: l, hl, hw =>
      obtain ⟨h1, h2⟩ := hw
      simp only [List.length_cons] at hl
      by_cases c1 : c = 41
      · subst c1
        simp only [m_ok, m_opn] at h1 h2
        simp at h1 h2
        refine ⟨fun c hc => by simp [m_dn_close] at hc, Or.inr ⟨h1, ?_⟩⟩
        match l, h2 with
        | [], h2 => exact absurd h2.2 (by simp)
        | d :: r, h2 =>
          obtain ⟨g1, g2⟩ := h2
          simp [m_ok] at g1
          have hd : ¬ d = 41 := by omega
          have hd2 : ¬ d = 40 := by omega
          simp [m_opn, hd, hd2] at g2
          rw [show (d == 41) = false from by simp [hd]] at g2
          exact ⟨d, r, rfl, g1.1, g1.2, g2, [], rfl⟩
      · by_cases c2 : c = 40
        · subst c2
          simp [m_ok, m_opn] at h1 h2
          obtain ⟨i1, i2⟩ := ih l (o + 1) (by omega) h2
          rcases i2 with ⟨i2, -⟩ | ⟨-, d, r, e1, e2, e3, e4, p, e5⟩
          · omega
          · have hr : r.length ≤ n := by
              have := congrArg List.length e5
              simp at this; omega
            simp only [Nat.add_sub_cancel] at e4
            obtain ⟨j1, j2⟩ := ih r o hr e4
            have e6 : m_dn l = ((m_dn l).1, 41 :: d :: r) := by rw [← e1]
            rw [m_dn_open l e6]
            refine ⟨fun c hc => ?_, ?_⟩
            · rcases List.mem_append.mp hc with hc | hc
              · exact m_flatok_rep i1 _ c hc
              · exact j1 c hc
            · rcases j2 with j2 | ⟨k1, d2, r2, k2, k3, k4, k5, p2, k6⟩
              · exact Or.inl j2
              · exact Or.inr ⟨k1, d2, r2, k2, k3, k4, k5, 40 :: p ++ 41 :: d :: p2, by rw [e5, k6]; simp⟩
        · simp [m_ok, m_opn, c1, c2] at h1 h2
          rw [show (c == 41) = false from by simp [c1]] at h2
          obtain ⟨i1, i2⟩ := ih l o (by omega) h2
          rw [m_dn_basic l c1 c2]
          refine ⟨fun a ha => ?_, ?_⟩
          · rcases List.mem_cons.mp ha with rfl | ha
            · exact h1
            · exact i1 a ha
          · rcases i2 with i2 | ⟨k1, d2, r2, k2, k3, k4, k5, p2, k6⟩
            · exact Or.inl i2
            · exact Or.inr ⟨k1, d2, r2, k2, k3, k4, k5, c :: p2, by rw [k6]; simp⟩
def m_app : List Nat → Nat → List Nat
  | [], _ => []
  | c :: f, s => if 48 ≤ c ∧ c < 51 then m_app f (c - 48) else (3 * m_kd c + s) :: m_app f s
def m_spt : List Nat → Nat → Nat
  | [], s => s
  | c :: f, s => if 48 ≤ c ∧ c < 51 then m_spt f (c - 48) else m_spt f s
theorem m_app_app : ∀ (f g : List Nat) (s : Nat), m_app (f ++ g) s = m_app f s ++ m_app g (m_spt f s)
  | [], g, s => rfl
  | c :: f, g, s => by
    simp only [List.cons_append, m_app, m_spt]
    split
    · exact m_app_app f g _
    · rw [m_app_app f g s]; rfl
theorem m_spt_app : ∀ (f g : List Nat) (s : Nat), m_spt (f ++ g) s = m_spt g (m_spt f s)
  | [], g, s => rfl
  | c :: f, g, s => by
    simp only [List.cons_append, m_spt]
    split <;> exact m_spt_app f g _
theorem m_app_len : ∀ (f : List Nat) (s t : Nat), (m_app f s).length = (m_app f t).length
  | [], s, t => rfl
  | c :: f, s, t => by
    simp only [m_app]
    split
    · rfl
    · simp only [List.length_cons]; rw [m_app_len f s t]
theorem m_spt_or : ∀ (f : List Nat), (∀ s, m_spt f s = s) ∨ ∃ k, ∀ s, m_spt f s = k
  | [] => Or.inl fun s => rfl
  | c :: f => by
    simp only [m_spt]
    split
    · exact Or.inr ⟨_, fun s => rfl⟩
    · exact m_spt_or f
theorem m_spt_idem (f : List Nat) (s : Nat) : m_spt f (m_spt f s) = m_spt f s := by
  rcases m_spt_or f with h | ⟨k, h⟩
  · rw [h, h]
  · rw [h, h]
theorem m_rep_0 (f : List Nat) : m_rep 0 f = [] := rfl
theorem m_rep_s (n : Nat) (f : List Nat) : m_rep (n + 1) f = f ++ m_rep n f := by simp [m_rep, List.replicate_succ]
theorem m_rep_s' (n : Nat) (f : List Nat) : m_rep (n + 1) f = m_rep n f ++ f := by simp [m_rep, List.replicate_succ']
theorem m_spt_rep (f : List Nat) (s : Nat) : ∀ n, m_spt (m_rep (n + 1) f) s = m_spt f s
  | 0 => by simp [m_rep]
  | n + 1 => by rw [m_rep_s', m_spt_app, m_spt_rep f s n, m_spt_idem]
theorem m_app_rep0 (f : List Nat) (h : ∀ s, (m_app f s).length = 0) : ∀ n s, m_app (m_rep n f) s = []
  | 0, s => rfl
  | n + 1, s => by rw [m_rep_s, m_app_app, List.eq_nil_of_length_eq_zero (h s), m_app_rep0 f h n]; rfl
theorem m_app_lt : ∀ (f : List Nat) (s : Nat), s < 3 → m_flatok f → (∀ a ∈ m_app f s, a < 15) ∧ m_spt f s < 3
  | [], s, hs, _ => ⟨fun a ha => by simp [m_app] at ha, hs⟩
  | c :: f, s, hs, hf => by
    have hf' : m_flatok f := fun a ha => hf a (List.mem_cons_of_mem _ ha)
    simp only [m_app, m_spt]
    split
    · exact m_app_lt f _ (by omega) hf'
    · obtain ⟨h1, h2⟩ := m_app_lt f s hs hf'
      refine ⟨fun a ha => ?_, h2⟩
      rcases List.mem_cons.mp ha with rfl | ha
      · have : m_kd c < 5 := by unfold m_kd; split; omega; split; omega; split; omega; split; omega; omega
        omega
      · exact h1 a ha
end
section
/-! THE READER -/
def z_rst (M : zH) (b : Nat) (pad w0 : List Nat) (s tm : Nat) : Prop := M (b + 46) = some (.inr (1, [.ref (b + 1), .ref (b + 3), .int (nI s), .int (nI tm)])) ∧ z_row M (b + 1) 40 (pad.map nI) ∧ z_row M (b + 3) 60 (w0.map nI)
def z_rA (b : Nat) : Nat → Prop := fun q => q = b + 3 ∨ q = b + 4 ∨ q = b + 46
theorem z_rst.len {M : zH} {b : Nat} {pad w0 : List Nat} {s tm : Nat} (h : z_rst M b pad w0 s tm) : pad.length ≤ 40 ∧ w0.length ≤ 60 := by
  have h1 := h.2.1.le.1
  have h2 := h.2.2.le.1
  simp only [List.length_map] at h1 h2
  exact ⟨h1, h2⟩
set_option maxRecDepth 100000 in
set_option maxHeartbeats 4000000 in
theorem c_isSpot {l : Launch} {E : zE} {d : Nat} {M : zH} (c : Nat) (hc : c < 2 ^ 31) : nX1_isSpot l E d [.int (nI c)] M (z_i fun v M' => ((v = 1 ∧ m_isS c) ∨ (v = 0 ∧ ¬ m_isS c)) ∧ M' = M) := by
  refine z_cn 1 fun P z C => ?_
  refine z_run C [] 12 ?_
  simp only [z_x, z_n, z_stop, z_mem, z_ldi, z_lda, z_sto, z_s1, z_s2, z_sa, z_sv, z_br, z_bn, z_ob, z_ar, z_aq, z_al, z_rt, z_ra, z_at, z_st, z_K0i, z_K0v, zk_0, zk_1, zk_2, zk_3, z_lv, List.map_cons, List.map_nil, List.length_cons, List.length_nil, List.replicate, List.cons_append, List.nil_append, Nat.reduceAdd, Nat.reduceSub, Nat.reduceBEq, Nat.reduceEqDiff, Nat.reduceLT, Nat.reduceLeDiff, Nat.zero_add, Int.cast_ofNat_Int, Int.reduceAdd, Int.reduceNeg, Int.reduceToNat, Int.reduceLE, Int.zero_add, Int.toNat_zero, Int.add_zero, Int.add_neg_cancel_right, Fin.isValue, Int32.reduceOfInt, ↓reduceIte, Bool.false_eq_true, Bool.or_false, Bool.false_or, Bool.or_true, Bool.true_or, if_true, if_false, true_and, and_true, true_or, or_true, false_or, or_false, eq_self, and_self, z_up_i, Nat.add_left_cancel_iff, Nat.left_eq_add, Nat.add_eq_left, reduceCtorEq, Nat.add_one_ne_zero, z_tt, implies_true, zn_0, zn_1, zo_0, zo_1, dX1_isSpot_0, dX1_isSpot_1, dX1_isSpot_3, dX1_isSpot_6, dX1_isSpot_7, dX1_isSpot_9, dX1_isSpot_12, dX1_isSpot_13, dX1_isSpot_16, dX1_isSpot_17, zb_48, zb_51, zi_0, zi_1]
  rw [show (48 : Int32) = nI 48 from rfl, show (51 : Int32) = nI 51 from rfl, nI_ltI hc (by omega), nI_leI (by omega) hc]
  refine ⟨fun c1 => ⟨Or.inr ⟨rfl, fun h => ?_⟩, rfl⟩, fun c1 => ⟨fun c2 => ⟨Or.inr ⟨rfl, fun h => ?_⟩, rfl⟩, fun c2 => ⟨Or.inl ⟨rfl, ?_⟩, rfl⟩⟩⟩ <;> unfold m_isS at * <;> omega
set_option maxRecDepth 100000 in
set_option maxHeartbeats 4000000 in
theorem c_canStand {l : Launch} {E : zE} {d : Nat} {M : zH} (c o : Nat) (due : Bool) (hc : c < 128) (ho : o < 100) : nX1_canStand l E (d + 4) [.int (nI c), .int (nI o), .int (nI (if due = true then 1 else 0))] M (z_i fun v M' => ((v = 1 ∧ m_ok c o due) ∨ (v = 0 ∧ ¬ m_ok c o due)) ∧ M' = M) := by
  refine z_cn 1 fun P z C => ?_
  have e49 : (49 : Int32) = nI 49 := rfl
  have e57 : (57 : Int32) = nI 57 := rfl
  have e40 : (40 : Int32) = nI 40 := rfl
  have e41 : (41 : Int32) = nI 41 := rfl
  have e3 : (3 : Int32) = nI 3 := rfl
  have hi2 : ∀ c, c < 128 → ((nI c).toUInt32 % 65536).toInt32 = nI c := by decide
  refine z_run C [] 20 ?_
  simp only [z_x, z_n, z_stop, z_mem, z_ldi, z_lda, z_sto, z_s1, z_s2, z_sa, z_sv, z_br, z_bn, z_ob, z_ar, z_aq, z_al, z_rt, z_ra, z_at, z_st, z_K0i, z_K0v, zk_0, zk_1, zk_2, zk_3, z_lv, List.map_cons, List.map_nil, List.length_cons, List.length_nil, List.replicate, List.cons_append, List.nil_append, Nat.reduceAdd, Nat.reduceSub, Nat.reduceBEq, Nat.reduceEqDiff, Nat.reduceLT, Nat.reduceLeDiff, Nat.zero_add, Int.cast_ofNat_Int, Int.reduceAdd, Int.reduceNeg, Int.reduceToNat, Int.reduceLE, Int.zero_add, Int.toNat_zero, Int.add_zero, Int.add_neg_cancel_right, Fin.isValue, Int32.reduceOfInt, ↓reduceIte, Bool.false_eq_true, Bool.or_false, Bool.false_or, Bool.or_true, Bool.true_or, if_true, if_false, true_and, and_true, true_or, or_true, false_or, or_false, eq_self, and_self, z_up_i, Nat.add_left_cancel_iff, Nat.left_eq_add, Nat.add_eq_left, reduceCtorEq, Nat.add_one_ne_zero, z_tt, implies_true, zn_0, zn_1, zo_0, zo_1, dX1_canStand_0, dX1_canStand_1, dX1_canStand_4, dX1_canStand_5, dX1_canStand_7, dX1_canStand_10, dX1_canStand_11, dX1_canStand_13, dX1_canStand_16, dX1_canStand_17, dX1_canStand_20, dX1_canStand_21, dX1_canStand_22, dX1_canStand_23, dX1_canStand_25, dX1_canStand_28, dX1_canStand_29, dX1_canStand_30, dX1_canStand_33, dX1_canStand_34, dX1_canStand_37, dX1_canStand_38, dX1_canStand_39, dX1_canStand_40, dX1_canStand_42, dX1_canStand_45, dX1_canStand_46, dX1_canStand_49, dX1_canStand_50, dX1_canStand_53, dX1_canStand_54, dX1_canStand_55, dX1_canStand_56, dX1_canStand_59, dX1_canStand_62, dX1_canStand_64, dX1_canStand_65, dX1_canStand_66, dX1_canStand_69, dX1_canStand_72, dX1_canStand_73, dX1_canStand_76, dX1_canStand_77, zb_40, zb_41, zb_49, zb_57, zi_0, zi_1, zi_3]
  rw [e49, e57, e40, e41, e3, nI_ltI (by omega) (by omega), nI_ltI (by omega) (by omega), nI_eq (by omega) (by omega), nI_eq (by omega) (by omega), nI_leI (by omega) (by omega), show (nI o ≤ 0) = (o ≤ 0) from propext (nI_leI (b := 0) (by omega) (by omega))]
  cases due
  · refine ⟨fun _ => ?_, fun c => absurd rfl c⟩
    refine ⟨fun c1 => ⟨fun c2 => ⟨Or.inr ⟨rfl, ?_⟩, rfl⟩, fun c2 => ⟨Or.inl ⟨rfl, ?_⟩, rfl⟩⟩, fun c1 => ⟨fun c2 => ⟨fun c3 => ⟨Or.inr ⟨rfl, ?_⟩, rfl⟩, fun c3 => ⟨Or.inl ⟨rfl, ?_⟩, rfl⟩⟩, fun c2 => ?_⟩⟩
    · simp [m_ok, c1]; omega
    · simp [m_ok, c1]; omega
    · simp [m_ok, c1, c2]; omega
    · simp [m_ok, c1, c2]; omega
    · have hok : m_ok c o false = (m_isS c ∨ m_isK c) := by simp [m_ok, c1, c2]
      refine z_si C dX1_canStand_56 lk_1_40 (c_isSpot c (by omega)) rfl (fun v M2 hv => ?_)
      obtain ⟨hv, rfl⟩ := hv
      refine z_run C [] 3 ?_
      simp only [z_x, z_n, z_stop, z_mem, z_ldi, z_lda, z_sto, z_s1, z_s2, z_sa, z_sv, z_br, z_bn, z_ob, z_ar, z_aq, z_al, z_rt, z_ra, z_at, z_st, z_K0i, z_K0v, zk_0, zk_1, zk_2, zk_3, z_lv, List.map_cons, List.map_nil, List.length_cons, List.length_nil, List.replicate, List.cons_append, List.nil_append, Nat.reduceAdd, Nat.reduceSub, Nat.reduceBEq, Nat.reduceEqDiff, Nat.reduceLT, Nat.reduceLeDiff, Nat.zero_add, Int.cast_ofNat_Int, Int.reduceAdd, Int.reduceNeg, Int.reduceToNat, Int.reduceLE, Int.zero_add, Int.toNat_zero, Int.add_zero, Int.add_neg_cancel_right, Fin.isValue, Int32.reduceOfInt, ↓reduceIte, Bool.false_eq_true, Bool.or_false, Bool.false_or, Bool.or_true, Bool.true_or, if_true, if_false, true_and, and_true, true_or, or_true, false_or, or_false, eq_self, and_self, z_up_i, Nat.add_left_cancel_iff, Nat.left_eq_add, Nat.add_eq_left, reduceCtorEq, Nat.add_one_ne_zero, z_tt, implies_true, zn_0, zn_1, zo_0, zo_1, dX1_canStand_0, dX1_canStand_1, dX1_canStand_4, dX1_canStand_5, dX1_canStand_7, dX1_canStand_10, dX1_canStand_11, dX1_canStand_13, dX1_canStand_16, dX1_canStand_17, dX1_canStand_20, dX1_canStand_21, dX1_canStand_22, dX1_canStand_23, dX1_canStand_25, dX1_canStand_28, dX1_canStand_29, dX1_canStand_30, dX1_canStand_33, dX1_canStand_34, dX1_canStand_37, dX1_canStand_38, dX1_canStand_39, dX1_canStand_40, dX1_canStand_42, dX1_canStand_45, dX1_canStand_46, dX1_canStand_49, dX1_canStand_50, dX1_canStand_53, dX1_canStand_54, dX1_canStand_55, dX1_canStand_56, dX1_canStand_59, dX1_canStand_62, dX1_canStand_64, dX1_canStand_65, dX1_canStand_66, dX1_canStand_69, dX1_canStand_72, dX1_canStand_73, dX1_canStand_76, dX1_canStand_77, zb_40, zb_41, zb_49, zb_57, zi_0, zi_1, zi_3]
      rcases hv with ⟨rfl, hS⟩ | ⟨rfl, hS⟩
      · refine ⟨fun c => absurd c (by decide), fun _ => ?_⟩
        refine z_run C [] 3 ?_
        simp only [z_x, z_n, z_stop, z_mem, z_ldi, z_lda, z_sto, z_s1, z_s2, z_sa, z_sv, z_br, z_bn, z_ob, z_ar, z_aq, z_al, z_rt, z_ra, z_at, z_st, z_K0i, z_K0v, zk_0, zk_1, zk_2, zk_3, z_lv, List.map_cons, List.map_nil, List.length_cons, List.length_nil, List.replicate, List.cons_append, List.nil_append, Nat.reduceAdd, Nat.reduceSub, Nat.reduceBEq, Nat.reduceEqDiff, Nat.reduceLT, Nat.reduceLeDiff, Nat.zero_add, Int.cast_ofNat_Int, Int.reduceAdd, Int.reduceNeg, Int.reduceToNat, Int.reduceLE, Int.zero_add, Int.toNat_zero, Int.add_zero, Int.add_neg_cancel_right, Fin.isValue, Int32.reduceOfInt, ↓reduceIte, Bool.false_eq_true, Bool.or_false, Bool.false_or, Bool.or_true, Bool.true_or, if_true, if_false, true_and, and_true, true_or, or_true, false_or, or_false, eq_self, and_self, z_up_i, Nat.add_left_cancel_iff, Nat.left_eq_add, Nat.add_eq_left, reduceCtorEq, Nat.add_one_ne_zero, z_tt, implies_true, zn_0, zn_1, zo_0, zo_1, dX1_canStand_0, dX1_canStand_1, dX1_canStand_4, dX1_canStand_5, dX1_canStand_7, dX1_canStand_10, dX1_canStand_11, dX1_canStand_13, dX1_canStand_16, dX1_canStand_17, dX1_canStand_20, dX1_canStand_21, dX1_canStand_22, dX1_canStand_23, dX1_canStand_25, dX1_canStand_28, dX1_canStand_29, dX1_canStand_30, dX1_canStand_33, dX1_canStand_34, dX1_canStand_37, dX1_canStand_38, dX1_canStand_39, dX1_canStand_40, dX1_canStand_42, dX1_canStand_45, dX1_canStand_46, dX1_canStand_49, dX1_canStand_50, dX1_canStand_53, dX1_canStand_54, dX1_canStand_55, dX1_canStand_56, dX1_canStand_59, dX1_canStand_62, dX1_canStand_64, dX1_canStand_65, dX1_canStand_66, dX1_canStand_69, dX1_canStand_72, dX1_canStand_73, dX1_canStand_76, dX1_canStand_77, zb_40, zb_41, zb_49, zb_57, zi_0, zi_1, zi_3]
        rw [hok]
        exact ⟨Or.inl ⟨rfl, Or.inl hS⟩, rfl⟩
      · refine ⟨fun _ => ?_, fun c => absurd rfl c⟩
        refine z_ldcR C dX1_canStand_62 ?_
        refine z_run C [] 2 ?_
        simp only [z_x, z_n, z_stop, z_mem, z_ldi, z_lda, z_sto, z_s1, z_s2, z_sa, z_sv, z_br, z_bn, z_ob, z_ar, z_aq, z_al, z_rt, z_ra, z_at, z_st, z_K0i, z_K0v, zk_0, zk_1, zk_2, zk_3, z_lv, List.map_cons, List.map_nil, List.length_cons, List.length_nil, List.replicate, List.cons_append, List.nil_append, Nat.reduceAdd, Nat.reduceSub, Nat.reduceBEq, Nat.reduceEqDiff, Nat.reduceLT, Nat.reduceLeDiff, Nat.zero_add, Int.cast_ofNat_Int, Int.reduceAdd, Int.reduceNeg, Int.reduceToNat, Int.reduceLE, Int.zero_add, Int.toNat_zero, Int.add_zero, Int.add_neg_cancel_right, Fin.isValue, Int32.reduceOfInt, ↓reduceIte, Bool.false_eq_true, Bool.or_false, Bool.false_or, Bool.or_true, Bool.true_or, if_true, if_false, true_and, and_true, true_or, or_true, false_or, or_false, eq_self, and_self, z_up_i, Nat.add_left_cancel_iff, Nat.left_eq_add, Nat.add_eq_left, reduceCtorEq, Nat.add_one_ne_zero, z_tt, implies_true, zn_0, zn_1, zo_0, zo_1, dX1_canStand_0, dX1_canStand_1, dX1_canStand_4, dX1_canStand_5, dX1_canStand_7, dX1_canStand_10, dX1_canStand_11, dX1_canStand_13, dX1_canStand_16, dX1_canStand_17, dX1_canStand_20, dX1_canStand_21, dX1_canStand_22, dX1_canStand_23, dX1_canStand_25, dX1_canStand_28, dX1_canStand_29, dX1_canStand_30, dX1_canStand_33, dX1_canStand_34, dX1_canStand_37, dX1_canStand_38, dX1_canStand_39, dX1_canStand_40, dX1_canStand_42, dX1_canStand_45, dX1_canStand_46, dX1_canStand_49, dX1_canStand_50, dX1_canStand_53, dX1_canStand_54, dX1_canStand_55, dX1_canStand_56, dX1_canStand_59, dX1_canStand_62, dX1_canStand_64, dX1_canStand_65, dX1_canStand_66, dX1_canStand_69, dX1_canStand_72, dX1_canStand_73, dX1_canStand_76, dX1_canStand_77, zb_40, zb_41, zb_49, zb_57, zi_0, zi_1, zi_3]
        rw [hi2 c hc]
        refine z_ti (i := 0) C (by omega) dX1_canStand_66 lk_1_46 (c_indexOf (by omega) hc) rfl (fun v M2 hv => ?_)
        obtain ⟨rfl, rfl⟩ := hv
        refine z_run C [] 6 ?_
        simp only [z_x, z_n, z_stop, z_mem, z_ldi, z_lda, z_sto, z_s1, z_s2, z_sa, z_sv, z_br, z_bn, z_ob, z_ar, z_aq, z_al, z_rt, z_ra, z_at, z_st, z_K0i, z_K0v, zk_0, zk_1, zk_2, zk_3, z_lv, List.map_cons, List.map_nil, List.length_cons, List.length_nil, List.replicate, List.cons_append, List.nil_append, Nat.reduceAdd, Nat.reduceSub, Nat.reduceBEq, Nat.reduceEqDiff, Nat.reduceLT, Nat.reduceLeDiff, Nat.zero_add, Int.cast_ofNat_Int, Int.reduceAdd, Int.reduceNeg, Int.reduceToNat, Int.reduceLE, Int.zero_add, Int.toNat_zero, Int.add_zero, Int.add_neg_cancel_right, Fin.isValue, Int32.reduceOfInt, ↓reduceIte, Bool.false_eq_true, Bool.or_false, Bool.false_or, Bool.or_true, Bool.true_or, if_true, if_false, true_and, and_true, true_or, or_true, false_or, or_false, eq_self, and_self, z_up_i, Nat.add_left_cancel_iff, Nat.left_eq_add, Nat.add_eq_left, reduceCtorEq, Nat.add_one_ne_zero, z_tt, implies_true, zn_0, zn_1, zo_0, zo_1, dX1_canStand_0, dX1_canStand_1, dX1_canStand_4, dX1_canStand_5, dX1_canStand_7, dX1_canStand_10, dX1_canStand_11, dX1_canStand_13, dX1_canStand_16, dX1_canStand_17, dX1_canStand_20, dX1_canStand_21, dX1_canStand_22, dX1_canStand_23, dX1_canStand_25, dX1_canStand_28, dX1_canStand_29, dX1_canStand_30, dX1_canStand_33, dX1_canStand_34, dX1_canStand_37, dX1_canStand_38, dX1_canStand_39, dX1_canStand_40, dX1_canStand_42, dX1_canStand_45, dX1_canStand_46, dX1_canStand_49, dX1_canStand_50, dX1_canStand_53, dX1_canStand_54, dX1_canStand_55, dX1_canStand_56, dX1_canStand_59, dX1_canStand_62, dX1_canStand_64, dX1_canStand_65, dX1_canStand_66, dX1_canStand_69, dX1_canStand_72, dX1_canStand_73, dX1_canStand_76, dX1_canStand_77, zb_40, zb_41, zb_49, zb_57, zi_0, zi_1, zi_3]
        rw [hok]
        by_cases hk : m_isK c
        · obtain ⟨k1, k2⟩ := m_kI_k hk
          rw [k1]
          exact ⟨fun c => absurd c (nI_pos (by omega)), fun _ => ⟨Or.inl ⟨rfl, Or.inr hk⟩, rfl⟩⟩
        · rw [m_kI_n hk]
          exact ⟨fun _ => ⟨Or.inr ⟨rfl, fun h => h.elim hS hk⟩, rfl⟩, fun c => absurd (by decide) c⟩
  · refine ⟨fun c => absurd c (by decide), fun _ => ?_⟩
    refine ⟨fun c1 => ⟨Or.inr ⟨rfl, ?_⟩, rfl⟩, fun c1 => ⟨fun c2 => ⟨Or.inr ⟨rfl, ?_⟩, rfl⟩, fun c2 => ⟨Or.inl ⟨rfl, ?_⟩, rfl⟩⟩⟩ <;> simp [m_ok] <;> omega
noncomputable def m_fl : List Nat → Nat → Nat → Bool → Int32
  | [], i, o, due => @ite _ (0 < o ∨ due = true) (Classical.propDecidable _) (nI i) (-6)
  | c :: l, i, o, due => @ite _ (m_ok c o due) (Classical.propDecidable _) (m_fl l (i + 1) (m_opn c o) (c == 41)) (nI i)
theorem m_fl_nil (i o : Nat) (due : Bool) : m_fl [] i o due = @ite _ (0 < o ∨ due = true) (Classical.propDecidable _) (nI i) (-6) := by rw [m_fl]
theorem m_fl_cons (c : Nat) (l : List Nat) (i o : Nat) (due : Bool) : m_fl (c :: l) i o due = @ite _ (m_ok c o due) (Classical.propDecidable _) (m_fl l (i + 1) (m_opn c o) (c == 41)) (nI i) := by rw [m_fl]
theorem m_fl_wf : ∀ (l : List Nat) (i o : Nat) (due : Bool), i + l.length < 2 ^ 30 → (m_fl l i o due = -6 ↔ m_wf l o due) ∧ (m_fl l i o due = -6 ∨ ∃ k, k ≤ i + l.length ∧ m_fl l i o due = nI k)
  | [], i, o, due, h => by
    have hn : ∀ k : Nat, k < 2 ^ 30 → ¬ nI k = -6 := fun k hk e => by
      have h1 := congrArg Int32.toInt e
      rw [nI_toInt (by omega)] at h1
      have h2 : (-6 : Int32).toInt = -6 := by decide
      omega
    unfold m_fl m_wf
    by_cases h1 : 0 < o ∨ due = true
    · rw [if_pos h1]
      simp only [List.length_nil, Nat.add_zero] at h ⊢
      refine ⟨⟨fun e => absurd e (hn i h), fun e => ?_⟩, Or.inr ⟨i, by omega, rfl⟩⟩
      rcases h1 with h1 | h1
      · omega
      · rw [e.2] at h1; cases h1
    · rw [if_neg h1]
      simp only [not_or] at h1
      refine ⟨⟨fun _ => ⟨by omega, by cases due; rfl; exact absurd rfl h1.2⟩, fun _ => rfl⟩, Or.inl rfl⟩
  | c :: l, i, o, due, h => by
    have hn : ∀ k : Nat, k < 2 ^ 30 → ¬ nI k = -6 := fun k hk e => by
      have h1 := congrArg Int32.toInt e
      rw [nI_toInt (by omega)] at h1
      have h2 : (-6 : Int32).toInt = -6 := by decide
      omega
    simp only [List.length_cons] at h
    obtain ⟨g1, g2⟩ := m_fl_wf l (i + 1) (m_opn c o) (c == 41) (by omega)
    unfold m_fl m_wf
    by_cases h1 : m_ok c o due
    · rw [if_pos h1]
      refine ⟨⟨fun e => ⟨h1, g1.mp e⟩, fun e => g1.mpr e.2⟩, ?_⟩
      rcases g2 with g2 | ⟨k, k1, k2⟩
      · exact Or.inl g2
      · exact Or.inr ⟨k, by simp only [List.length_cons]; omega, k2⟩
    · rw [if_neg h1]
      exact ⟨⟨fun e => absurd e (hn i (by omega)), fun e => absurd e.1 h1⟩, Or.inr ⟨i, by omega, rfl⟩⟩
set_option maxRecDepth 100000 in
set_option maxHeartbeats 4000000 in
theorem c_faultPlace {l : Launch} {E : zE} {d : Nat} {M : zH} {a p q : Nat} {sp tm : Int32} {pad : List Nat} (ha : M a = some (.inr (1, [.ref p, .ref q, .int sp, .int tm]))) (hr : z_row M p 40 (pad.map nI)) (hs : ∀ c ∈ pad, c < 128) : nX1_faultPlace l E (d + 5) [.ref a] M (z_i fun v M' => v = m_fl pad 0 0 false ∧ M' = M) := by
  refine z_cn 1 fun P z C => ?_
  have hcap := hr.le
  simp only [List.length_map] at hcap
  have loop : ∀ (n i o : Nat) (due : Bool), i + n = pad.length → o ≤ i → m_fl pad 0 0 false = m_fl (pad.drop i) i o due → ∀ u, P (M, z, 0, 0) 6 [some (.ref a), some (.int (nI o)), some (.int (nI (if due = true then 1 else 0))), some (.int (nI i)), u] [] := by
    intro n
    induction n with
    | zero =>
      intro i o due hi ho hm u
      refine z_run C [] 5 ?_
      simp only [z_x, z_n, z_stop, z_mem, z_ldi, z_lda, z_sto, z_s1, z_s2, z_sa, z_sv, z_br, z_bn, z_ob, z_ar, z_aq, z_al, z_rt, z_ra, z_at, z_st, z_K0i, z_K0v, zk_0, zk_1, zk_2, zk_3, z_lv, List.map_cons, List.map_nil, List.length_cons, List.length_nil, List.replicate, List.cons_append, List.nil_append, Nat.reduceAdd, Nat.reduceSub, Nat.reduceBEq, Nat.reduceEqDiff, Nat.reduceLT, Nat.reduceLeDiff, Nat.zero_add, Int.cast_ofNat_Int, Int.reduceAdd, Int.reduceNeg, Int.reduceToNat, Int.reduceLE, Int.zero_add, Int.toNat_zero, Int.add_zero, Int.add_neg_cancel_right, Fin.isValue, Int32.reduceOfInt, ↓reduceIte, Bool.false_eq_true, Bool.or_false, Bool.false_or, Bool.or_true, Bool.true_or, if_true, if_false, true_and, and_true, true_or, or_true, false_or, or_false, eq_self, and_self, z_up_i, Nat.add_left_cancel_iff, Nat.left_eq_add, Nat.add_eq_left, reduceCtorEq, Nat.add_one_ne_zero, z_tt, implies_true, zn_0, zn_1, zo_0, zo_1, dX1_faultPlace_0, dX1_faultPlace_1, dX1_faultPlace_2, dX1_faultPlace_3, dX1_faultPlace_4, dX1_faultPlace_5, dX1_faultPlace_6, dX1_faultPlace_7, dX1_faultPlace_8, dX1_faultPlace_11, dX1_faultPlace_14, dX1_faultPlace_17, dX1_faultPlace_18, dX1_faultPlace_21, dX1_faultPlace_22, dX1_faultPlace_25, dX1_faultPlace_27, dX1_faultPlace_29, dX1_faultPlace_30, dX1_faultPlace_31, dX1_faultPlace_34, dX1_faultPlace_37, dX1_faultPlace_38, dX1_faultPlace_39, dX1_faultPlace_41, dX1_faultPlace_43, dX1_faultPlace_46, dX1_faultPlace_47, dX1_faultPlace_50, dX1_faultPlace_51, dX1_faultPlace_52, dX1_faultPlace_54, dX1_faultPlace_56, dX1_faultPlace_59, dX1_faultPlace_62, dX1_faultPlace_65, dX1_faultPlace_66, dX1_faultPlace_69, dX1_faultPlace_72, dX1_faultPlace_75, dX1_faultPlace_78, dX1_faultPlace_79, dX1_faultPlace_82, dX1_faultPlace_83, dX1_faultPlace_86, dX1_faultPlace_87, dX1_faultPlace_90, dX1_faultPlace_93, dX1_faultPlace_96, dX1_faultPlace_98, zb_40, zb_41, zb_m6, zf_1_9, zi_0, zi_1, zi_m1, ha]
      refine z_vi C dX1_faultPlace_11 lk_1_26 (c_size hr) rfl hr.ob (fun v M2 hv => ?_)
      obtain ⟨rfl, rfl⟩ := hv
      simp only [List.length_map]
      rw [List.drop_of_length_le (by omega)] at hm
      refine z_run C [] 10 ?_
      simp only [z_x, z_n, z_stop, z_mem, z_ldi, z_lda, z_sto, z_s1, z_s2, z_sa, z_sv, z_br, z_bn, z_ob, z_ar, z_aq, z_al, z_rt, z_ra, z_at, z_st, z_K0i, z_K0v, zk_0, zk_1, zk_2, zk_3, z_lv, List.map_cons, List.map_nil, List.length_cons, List.length_nil, List.replicate, List.cons_append, List.nil_append, Nat.reduceAdd, Nat.reduceSub, Nat.reduceBEq, Nat.reduceEqDiff, Nat.reduceLT, Nat.reduceLeDiff, Nat.zero_add, Int.cast_ofNat_Int, Int.reduceAdd, Int.reduceNeg, Int.reduceToNat, Int.reduceLE, Int.zero_add, Int.toNat_zero, Int.add_zero, Int.add_neg_cancel_right, Fin.isValue, Int32.reduceOfInt, ↓reduceIte, Bool.false_eq_true, Bool.or_false, Bool.false_or, Bool.or_true, Bool.true_or, if_true, if_false, true_and, and_true, true_or, or_true, false_or, or_false, eq_self, and_self, z_up_i, Nat.add_left_cancel_iff, Nat.left_eq_add, Nat.add_eq_left, reduceCtorEq, Nat.add_one_ne_zero, z_tt, implies_true, zn_0, zn_1, zo_0, zo_1, dX1_faultPlace_0, dX1_faultPlace_1, dX1_faultPlace_2, dX1_faultPlace_3, dX1_faultPlace_4, dX1_faultPlace_5, dX1_faultPlace_6, dX1_faultPlace_7, dX1_faultPlace_8, dX1_faultPlace_11, dX1_faultPlace_14, dX1_faultPlace_17, dX1_faultPlace_18, dX1_faultPlace_21, dX1_faultPlace_22, dX1_faultPlace_25, dX1_faultPlace_27, dX1_faultPlace_29, dX1_faultPlace_30, dX1_faultPlace_31, dX1_faultPlace_34, dX1_faultPlace_37, dX1_faultPlace_38, dX1_faultPlace_39, dX1_faultPlace_41, dX1_faultPlace_43, dX1_faultPlace_46, dX1_faultPlace_47, dX1_faultPlace_50, dX1_faultPlace_51, dX1_faultPlace_52, dX1_faultPlace_54, dX1_faultPlace_56, dX1_faultPlace_59, dX1_faultPlace_62, dX1_faultPlace_65, dX1_faultPlace_66, dX1_faultPlace_69, dX1_faultPlace_72, dX1_faultPlace_75, dX1_faultPlace_78, dX1_faultPlace_79, dX1_faultPlace_82, dX1_faultPlace_83, dX1_faultPlace_86, dX1_faultPlace_87, dX1_faultPlace_90, dX1_faultPlace_93, dX1_faultPlace_96, dX1_faultPlace_98, zb_40, zb_41, zb_m6, zf_1_9, zi_0, zi_1, zi_m1, ha]
      refine ⟨fun _ => ?_, fun c1 => absurd (nI_le (by omega) (by omega)) c1⟩
      rw [m_fl_nil] at hm
      rw [show (0 < nI o) = (0 < o) from propext (nI_ltI (a := 0) (by omega) (by omega))]
      refine ⟨fun c1 => ?_, fun c1 => ?_⟩
      · rw [if_pos (Or.inl c1)] at hm
        refine z_vi C dX1_faultPlace_90 lk_1_26 (c_size hr) rfl hr.ob (fun v M2 hv => ?_)
        obtain ⟨rfl, rfl⟩ := hv
        refine z_run C [] 3 ?_
        simp only [z_x, z_n, z_stop, z_mem, z_ldi, z_lda, z_sto, z_s1, z_s2, z_sa, z_sv, z_br, z_bn, z_ob, z_ar, z_aq, z_al, z_rt, z_ra, z_at, z_st, z_K0i, z_K0v, zk_0, zk_1, zk_2, zk_3, z_lv, List.map_cons, List.map_nil, List.length_cons, List.length_nil, List.replicate, List.cons_append, List.nil_append, Nat.reduceAdd, Nat.reduceSub, Nat.reduceBEq, Nat.reduceEqDiff, Nat.reduceLT, Nat.reduceLeDiff, Nat.zero_add, Int.cast_ofNat_Int, Int.reduceAdd, Int.reduceNeg, Int.reduceToNat, Int.reduceLE, Int.zero_add, Int.toNat_zero, Int.add_zero, Int.add_neg_cancel_right, Fin.isValue, Int32.reduceOfInt, ↓reduceIte, Bool.false_eq_true, Bool.or_false, Bool.false_or, Bool.or_true, Bool.true_or, if_true, if_false, true_and, and_true, true_or, or_true, false_or, or_false, eq_self, and_self, z_up_i, Nat.add_left_cancel_iff, Nat.left_eq_add, Nat.add_eq_left, reduceCtorEq, Nat.add_one_ne_zero, z_tt, implies_true, zn_0, zn_1, zo_0, zo_1, dX1_faultPlace_0, dX1_faultPlace_1, dX1_faultPlace_2, dX1_faultPlace_3, dX1_faultPlace_4, dX1_faultPlace_5, dX1_faultPlace_6, dX1_faultPlace_7, dX1_faultPlace_8, dX1_faultPlace_11, dX1_faultPlace_14, dX1_faultPlace_17, dX1_faultPlace_18, dX1_faultPlace_21, dX1_faultPlace_22, dX1_faultPlace_25, dX1_faultPlace_27, dX1_faultPlace_29, dX1_faultPlace_30, dX1_faultPlace_31, dX1_faultPlace_34, dX1_faultPlace_37, dX1_faultPlace_38, dX1_faultPlace_39, dX1_faultPlace_41, dX1_faultPlace_43, dX1_faultPlace_46, dX1_faultPlace_47, dX1_faultPlace_50, dX1_faultPlace_51, dX1_faultPlace_52, dX1_faultPlace_54, dX1_faultPlace_56, dX1_faultPlace_59, dX1_faultPlace_62, dX1_faultPlace_65, dX1_faultPlace_66, dX1_faultPlace_69, dX1_faultPlace_72, dX1_faultPlace_75, dX1_faultPlace_78, dX1_faultPlace_79, dX1_faultPlace_82, dX1_faultPlace_83, dX1_faultPlace_86, dX1_faultPlace_87, dX1_faultPlace_90, dX1_faultPlace_93, dX1_faultPlace_96, dX1_faultPlace_98, zb_40, zb_41, zb_m6, zf_1_9, zi_0, zi_1, zi_m1]
        exact ⟨by rw [hm]; simp only [List.length_map]; rw [show i = pad.length by omega], rfl⟩
      · cases due
        · refine ⟨fun _ => ?_, fun c => absurd rfl c⟩
          rw [if_neg (by rintro (h | h); exact c1 h; cases h)] at hm
          exact ⟨hm.symm, rfl⟩
        · refine ⟨fun c => absurd c (by decide), fun _ => ?_⟩
          rw [if_pos (Or.inr rfl)] at hm
          refine z_vi C dX1_faultPlace_90 lk_1_26 (c_size hr) rfl hr.ob (fun v M2 hv => ?_)
          obtain ⟨rfl, rfl⟩ := hv
          refine z_run C [] 3 ?_
          simp only [z_x, z_n, z_stop, z_mem, z_ldi, z_lda, z_sto, z_s1, z_s2, z_sa, z_sv, z_br, z_bn, z_ob, z_ar, z_aq, z_al, z_rt, z_ra, z_at, z_st, z_K0i, z_K0v, zk_0, zk_1, zk_2, zk_3, z_lv, List.map_cons, List.map_nil, List.length_cons, List.length_nil, List.replicate, List.cons_append, List.nil_append, Nat.reduceAdd, Nat.reduceSub, Nat.reduceBEq, Nat.reduceEqDiff, Nat.reduceLT, Nat.reduceLeDiff, Nat.zero_add, Int.cast_ofNat_Int, Int.reduceAdd, Int.reduceNeg, Int.reduceToNat, Int.reduceLE, Int.zero_add, Int.toNat_zero, Int.add_zero, Int.add_neg_cancel_right, Fin.isValue, Int32.reduceOfInt, ↓reduceIte, Bool.false_eq_true, Bool.or_false, Bool.false_or, Bool.or_true, Bool.true_or, if_true, if_false, true_and, and_true, true_or, or_true, false_or, or_false, eq_self, and_self, z_up_i, Nat.add_left_cancel_iff, Nat.left_eq_add, Nat.add_eq_left, reduceCtorEq, Nat.add_one_ne_zero, z_tt, implies_true, zn_0, zn_1, zo_0, zo_1, dX1_faultPlace_0, dX1_faultPlace_1, dX1_faultPlace_2, dX1_faultPlace_3, dX1_faultPlace_4, dX1_faultPlace_5, dX1_faultPlace_6, dX1_faultPlace_7, dX1_faultPlace_8, dX1_faultPlace_11, dX1_faultPlace_14, dX1_faultPlace_17, dX1_faultPlace_18, dX1_faultPlace_21, dX1_faultPlace_22, dX1_faultPlace_25, dX1_faultPlace_27, dX1_faultPlace_29, dX1_faultPlace_30, dX1_faultPlace_31, dX1_faultPlace_34, dX1_faultPlace_37, dX1_faultPlace_38, dX1_faultPlace_39, dX1_faultPlace_41, dX1_faultPlace_43, dX1_faultPlace_46, dX1_faultPlace_47, dX1_faultPlace_50, dX1_faultPlace_51, dX1_faultPlace_52, dX1_faultPlace_54, dX1_faultPlace_56, dX1_faultPlace_59, dX1_faultPlace_62, dX1_faultPlace_65, dX1_faultPlace_66, dX1_faultPlace_69, dX1_faultPlace_72, dX1_faultPlace_75, dX1_faultPlace_78, dX1_faultPlace_79, dX1_faultPlace_82, dX1_faultPlace_83, dX1_faultPlace_86, dX1_faultPlace_87, dX1_faultPlace_90, dX1_faultPlace_93, dX1_faultPlace_96, dX1_faultPlace_98, zb_40, zb_41, zb_m6, zf_1_9, zi_0, zi_1, zi_m1]
          exact ⟨by rw [hm]; simp only [List.length_map]; rw [show i = pad.length by omega], rfl⟩
    | succ n ih =>
      intro i o due hi ho hm u
      refine z_run C [] 5 ?_
      simp only [z_x, z_n, z_stop, z_mem, z_ldi, z_lda, z_sto, z_s1, z_s2, z_sa, z_sv, z_br, z_bn, z_ob, z_ar, z_aq, z_al, z_rt, z_ra, z_at, z_st, z_K0i, z_K0v, zk_0, zk_1, zk_2, zk_3, z_lv, List.map_cons, List.map_nil, List.length_cons, List.length_nil, List.replicate, List.cons_append, List.nil_append, Nat.reduceAdd, Nat.reduceSub, Nat.reduceBEq, Nat.reduceEqDiff, Nat.reduceLT, Nat.reduceLeDiff, Nat.zero_add, Int.cast_ofNat_Int, Int.reduceAdd, Int.reduceNeg, Int.reduceToNat, Int.reduceLE, Int.zero_add, Int.toNat_zero, Int.add_zero, Int.add_neg_cancel_right, Fin.isValue, Int32.reduceOfInt, ↓reduceIte, Bool.false_eq_true, Bool.or_false, Bool.false_or, Bool.or_true, Bool.true_or, if_true, if_false, true_and, and_true, true_or, or_true, false_or, or_false, eq_self, and_self, z_up_i, Nat.add_left_cancel_iff, Nat.left_eq_add, Nat.add_eq_left, reduceCtorEq, Nat.add_one_ne_zero, z_tt, implies_true, zn_0, zn_1, zo_0, zo_1, dX1_faultPlace_0, dX1_faultPlace_1, dX1_faultPlace_2, dX1_faultPlace_3, dX1_faultPlace_4, dX1_faultPlace_5, dX1_faultPlace_6, dX1_faultPlace_7, dX1_faultPlace_8, dX1_faultPlace_11, dX1_faultPlace_14, dX1_faultPlace_17, dX1_faultPlace_18, dX1_faultPlace_21, dX1_faultPlace_22, dX1_faultPlace_25, dX1_faultPlace_27, dX1_faultPlace_29, dX1_faultPlace_30, dX1_faultPlace_31, dX1_faultPlace_34, dX1_faultPlace_37, dX1_faultPlace_38, dX1_faultPlace_39, dX1_faultPlace_41, dX1_faultPlace_43, dX1_faultPlace_46, dX1_faultPlace_47, dX1_faultPlace_50, dX1_faultPlace_51, dX1_faultPlace_52, dX1_faultPlace_54, dX1_faultPlace_56, dX1_faultPlace_59, dX1_faultPlace_62, dX1_faultPlace_65, dX1_faultPlace_66, dX1_faultPlace_69, dX1_faultPlace_72, dX1_faultPlace_75, dX1_faultPlace_78, dX1_faultPlace_79, dX1_faultPlace_82, dX1_faultPlace_83, dX1_faultPlace_86, dX1_faultPlace_87, dX1_faultPlace_90, dX1_faultPlace_93, dX1_faultPlace_96, dX1_faultPlace_98, zb_40, zb_41, zb_m6, zf_1_9, zi_0, zi_1, zi_m1, ha]
      refine z_vi C dX1_faultPlace_11 lk_1_26 (c_size hr) rfl hr.ob (fun v M2 hv => ?_)
      obtain ⟨rfl, rfl⟩ := hv
      simp only [List.length_map]
      refine z_run C [] 5 ?_
      simp only [z_x, z_n, z_stop, z_mem, z_ldi, z_lda, z_sto, z_s1, z_s2, z_sa, z_sv, z_br, z_bn, z_ob, z_ar, z_aq, z_al, z_rt, z_ra, z_at, z_st, z_K0i, z_K0v, zk_0, zk_1, zk_2, zk_3, z_lv, List.map_cons, List.map_nil, List.length_cons, List.length_nil, List.replicate, List.cons_append, List.nil_append, Nat.reduceAdd, Nat.reduceSub, Nat.reduceBEq, Nat.reduceEqDiff, Nat.reduceLT, Nat.reduceLeDiff, Nat.zero_add, Int.cast_ofNat_Int, Int.reduceAdd, Int.reduceNeg, Int.reduceToNat, Int.reduceLE, Int.zero_add, Int.toNat_zero, Int.add_zero, Int.add_neg_cancel_right, Fin.isValue, Int32.reduceOfInt, ↓reduceIte, Bool.false_eq_true, Bool.or_false, Bool.false_or, Bool.or_true, Bool.true_or, if_true, if_false, true_and, and_true, true_or, or_true, false_or, or_false, eq_self, and_self, z_up_i, Nat.add_left_cancel_iff, Nat.left_eq_add, Nat.add_eq_left, reduceCtorEq, Nat.add_one_ne_zero, z_tt, implies_true, zn_0, zn_1, zo_0, zo_1, dX1_faultPlace_0, dX1_faultPlace_1, dX1_faultPlace_2, dX1_faultPlace_3, dX1_faultPlace_4, dX1_faultPlace_5, dX1_faultPlace_6, dX1_faultPlace_7, dX1_faultPlace_8, dX1_faultPlace_11, dX1_faultPlace_14, dX1_faultPlace_17, dX1_faultPlace_18, dX1_faultPlace_21, dX1_faultPlace_22, dX1_faultPlace_25, dX1_faultPlace_27, dX1_faultPlace_29, dX1_faultPlace_30, dX1_faultPlace_31, dX1_faultPlace_34, dX1_faultPlace_37, dX1_faultPlace_38, dX1_faultPlace_39, dX1_faultPlace_41, dX1_faultPlace_43, dX1_faultPlace_46, dX1_faultPlace_47, dX1_faultPlace_50, dX1_faultPlace_51, dX1_faultPlace_52, dX1_faultPlace_54, dX1_faultPlace_56, dX1_faultPlace_59, dX1_faultPlace_62, dX1_faultPlace_65, dX1_faultPlace_66, dX1_faultPlace_69, dX1_faultPlace_72, dX1_faultPlace_75, dX1_faultPlace_78, dX1_faultPlace_79, dX1_faultPlace_82, dX1_faultPlace_83, dX1_faultPlace_86, dX1_faultPlace_87, dX1_faultPlace_90, dX1_faultPlace_93, dX1_faultPlace_96, dX1_faultPlace_98, zb_40, zb_41, zb_m6, zf_1_9, zi_0, zi_1, zi_m1, ha]
      refine ⟨fun c1 => absurd ((nI_leI (by omega) (by omega)).mp c1) (by omega), fun _ => ?_⟩
      refine z_vi C dX1_faultPlace_22 lk_1_32 (c_get (nI i) hr) rfl hr.ob (fun v M2 hv => ?_)
      obtain ⟨rfl, rfl⟩ := hv
      rw [z_getN (by omega) (by omega)]
      have hg : pad[i]? = some (pad.getD i 0) := by simp [show i < pad.length by omega]
      have hlt := hs _ (List.mem_of_getElem? hg)
      have hdr : pad.drop i = pad.getD i 0 :: pad.drop (i + 1) := by
        rw [List.drop_eq_getElem_cons (by omega)]; simp [show i < pad.length by omega]
      generalize pad.getD i 0 = c at hg hlt hdr
      rw [hdr, m_fl_cons] at hm
      refine z_run C [] 5 ?_
      simp only [z_x, z_n, z_stop, z_mem, z_ldi, z_lda, z_sto, z_s1, z_s2, z_sa, z_sv, z_br, z_bn, z_ob, z_ar, z_aq, z_al, z_rt, z_ra, z_at, z_st, z_K0i, z_K0v, zk_0, zk_1, zk_2, zk_3, z_lv, List.map_cons, List.map_nil, List.length_cons, List.length_nil, List.replicate, List.cons_append, List.nil_append, Nat.reduceAdd, Nat.reduceSub, Nat.reduceBEq, Nat.reduceEqDiff, Nat.reduceLT, Nat.reduceLeDiff, Nat.zero_add, Int.cast_ofNat_Int, Int.reduceAdd, Int.reduceNeg, Int.reduceToNat, Int.reduceLE, Int.zero_add, Int.toNat_zero, Int.add_zero, Int.add_neg_cancel_right, Fin.isValue, Int32.reduceOfInt, ↓reduceIte, Bool.false_eq_true, Bool.or_false, Bool.false_or, Bool.or_true, Bool.true_or, if_true, if_false, true_and, and_true, true_or, or_true, false_or, or_false, eq_self, and_self, z_up_i, Nat.add_left_cancel_iff, Nat.left_eq_add, Nat.add_eq_left, reduceCtorEq, Nat.add_one_ne_zero, z_tt, implies_true, zn_0, zn_1, zo_0, zo_1, dX1_faultPlace_0, dX1_faultPlace_1, dX1_faultPlace_2, dX1_faultPlace_3, dX1_faultPlace_4, dX1_faultPlace_5, dX1_faultPlace_6, dX1_faultPlace_7, dX1_faultPlace_8, dX1_faultPlace_11, dX1_faultPlace_14, dX1_faultPlace_17, dX1_faultPlace_18, dX1_faultPlace_21, dX1_faultPlace_22, dX1_faultPlace_25, dX1_faultPlace_27, dX1_faultPlace_29, dX1_faultPlace_30, dX1_faultPlace_31, dX1_faultPlace_34, dX1_faultPlace_37, dX1_faultPlace_38, dX1_faultPlace_39, dX1_faultPlace_41, dX1_faultPlace_43, dX1_faultPlace_46, dX1_faultPlace_47, dX1_faultPlace_50, dX1_faultPlace_51, dX1_faultPlace_52, dX1_faultPlace_54, dX1_faultPlace_56, dX1_faultPlace_59, dX1_faultPlace_62, dX1_faultPlace_65, dX1_faultPlace_66, dX1_faultPlace_69, dX1_faultPlace_72, dX1_faultPlace_75, dX1_faultPlace_78, dX1_faultPlace_79, dX1_faultPlace_82, dX1_faultPlace_83, dX1_faultPlace_86, dX1_faultPlace_87, dX1_faultPlace_90, dX1_faultPlace_93, dX1_faultPlace_96, dX1_faultPlace_98, zb_40, zb_41, zb_m6, zf_1_9, zi_0, zi_1, zi_m1]
      refine z_si C dX1_faultPlace_31 lk_1_36 (c_canStand c o due hlt (by omega)) rfl (fun v M2 hv => ?_)
      obtain ⟨hv, rfl⟩ := hv
      rcases hv with ⟨rfl, hok⟩ | ⟨rfl, hok⟩
      · rw [if_pos hok] at hm
        refine z_run C [6] 20 ?_
        simp only [z_x, z_n, z_stop, z_mem, z_ldi, z_lda, z_sto, z_s1, z_s2, z_sa, z_sv, z_br, z_bn, z_ob, z_ar, z_aq, z_al, z_rt, z_ra, z_at, z_st, z_K0i, z_K0v, zk_0, zk_1, zk_2, zk_3, z_lv, List.map_cons, List.map_nil, List.length_cons, List.length_nil, List.replicate, List.cons_append, List.nil_append, Nat.reduceAdd, Nat.reduceSub, Nat.reduceBEq, Nat.reduceEqDiff, Nat.reduceLT, Nat.reduceLeDiff, Nat.zero_add, Int.cast_ofNat_Int, Int.reduceAdd, Int.reduceNeg, Int.reduceToNat, Int.reduceLE, Int.zero_add, Int.toNat_zero, Int.add_zero, Int.add_neg_cancel_right, Fin.isValue, Int32.reduceOfInt, ↓reduceIte, Bool.false_eq_true, Bool.or_false, Bool.false_or, Bool.or_true, Bool.true_or, if_true, if_false, true_and, and_true, true_or, or_true, false_or, or_false, eq_self, and_self, z_up_i, Nat.add_left_cancel_iff, Nat.left_eq_add, Nat.add_eq_left, reduceCtorEq, Nat.add_one_ne_zero, z_tt, implies_true, zn_0, zn_1, zo_0, zo_1, dX1_faultPlace_0, dX1_faultPlace_1, dX1_faultPlace_2, dX1_faultPlace_3, dX1_faultPlace_4, dX1_faultPlace_5, dX1_faultPlace_6, dX1_faultPlace_7, dX1_faultPlace_8, dX1_faultPlace_11, dX1_faultPlace_14, dX1_faultPlace_17, dX1_faultPlace_18, dX1_faultPlace_21, dX1_faultPlace_22, dX1_faultPlace_25, dX1_faultPlace_27, dX1_faultPlace_29, dX1_faultPlace_30, dX1_faultPlace_31, dX1_faultPlace_34, dX1_faultPlace_37, dX1_faultPlace_38, dX1_faultPlace_39, dX1_faultPlace_41, dX1_faultPlace_43, dX1_faultPlace_46, dX1_faultPlace_47, dX1_faultPlace_50, dX1_faultPlace_51, dX1_faultPlace_52, dX1_faultPlace_54, dX1_faultPlace_56, dX1_faultPlace_59, dX1_faultPlace_62, dX1_faultPlace_65, dX1_faultPlace_66, dX1_faultPlace_69, dX1_faultPlace_72, dX1_faultPlace_75, dX1_faultPlace_78, dX1_faultPlace_79, dX1_faultPlace_82, dX1_faultPlace_83, dX1_faultPlace_86, dX1_faultPlace_87, dX1_faultPlace_90, dX1_faultPlace_93, dX1_faultPlace_96, dX1_faultPlace_98, zb_40, zb_41, zb_m6, zf_1_9, zi_0, zi_1, zi_m1]
        refine ⟨fun c => absurd c (by decide), fun _ => ?_⟩
        rw [show (41 : Int32) = nI 41 from rfl, show (40 : Int32) = nI 40 from rfl, nI_eq (by omega) (by omega), nI_eq (by omega) (by omega), nI_1, nI_1]
        have e1 : (1 : Int32) = nI (if (true : Bool) = true then 1 else 0) := rfl
        have e0 : (0 : Int32) = nI (if (false : Bool) = true then 1 else 0) := rfl
        refine ⟨fun c1 => ⟨fun c2 => ?_, fun c2 => ?_⟩, fun c1 => ⟨fun c2 => ?_, fun c2 => ?_⟩⟩
        · omega
        · subst c1
          refine ⟨fun c => absurd c (by decide), fun _ => ?_⟩
          have ho1 : 0 < o := by
            cases due
            · simpa [m_ok] using hok
            · simp [m_ok] at hok
          rw [show nI o + -1 = nI (o - 1) from by rw [show o = (o - 1) + 1 by omega]; exact pk_m1 _]
          exact ih (i + 1) (o - 1) true (by omega) (by omega) hm _
        · subst c2
          exact ih (i + 1) (o + 1) false (by omega) (by omega) hm _
        · refine ⟨fun _ => ?_, fun c => absurd trivial c⟩
          have e5 : (c == 41) = false := by simp [c1]
          rw [e5, show m_opn c o = o from by simp [m_opn, c1, c2]] at hm
          exact ih (i + 1) o false (by omega) (by omega) hm _
      · rw [if_neg hok] at hm
        refine z_run C [6] 20 ?_
        simp only [z_x, z_n, z_stop, z_mem, z_ldi, z_lda, z_sto, z_s1, z_s2, z_sa, z_sv, z_br, z_bn, z_ob, z_ar, z_aq, z_al, z_rt, z_ra, z_at, z_st, z_K0i, z_K0v, zk_0, zk_1, zk_2, zk_3, z_lv, List.map_cons, List.map_nil, List.length_cons, List.length_nil, List.replicate, List.cons_append, List.nil_append, Nat.reduceAdd, Nat.reduceSub, Nat.reduceBEq, Nat.reduceEqDiff, Nat.reduceLT, Nat.reduceLeDiff, Nat.zero_add, Int.cast_ofNat_Int, Int.reduceAdd, Int.reduceNeg, Int.reduceToNat, Int.reduceLE, Int.zero_add, Int.toNat_zero, Int.add_zero, Int.add_neg_cancel_right, Fin.isValue, Int32.reduceOfInt, ↓reduceIte, Bool.false_eq_true, Bool.or_false, Bool.false_or, Bool.or_true, Bool.true_or, if_true, if_false, true_and, and_true, true_or, or_true, false_or, or_false, eq_self, and_self, z_up_i, Nat.add_left_cancel_iff, Nat.left_eq_add, Nat.add_eq_left, reduceCtorEq, Nat.add_one_ne_zero, z_tt, implies_true, zn_0, zn_1, zo_0, zo_1, dX1_faultPlace_0, dX1_faultPlace_1, dX1_faultPlace_2, dX1_faultPlace_3, dX1_faultPlace_4, dX1_faultPlace_5, dX1_faultPlace_6, dX1_faultPlace_7, dX1_faultPlace_8, dX1_faultPlace_11, dX1_faultPlace_14, dX1_faultPlace_17, dX1_faultPlace_18, dX1_faultPlace_21, dX1_faultPlace_22, dX1_faultPlace_25, dX1_faultPlace_27, dX1_faultPlace_29, dX1_faultPlace_30, dX1_faultPlace_31, dX1_faultPlace_34, dX1_faultPlace_37, dX1_faultPlace_38, dX1_faultPlace_39, dX1_faultPlace_41, dX1_faultPlace_43, dX1_faultPlace_46, dX1_faultPlace_47, dX1_faultPlace_50, dX1_faultPlace_51, dX1_faultPlace_52, dX1_faultPlace_54, dX1_faultPlace_56, dX1_faultPlace_59, dX1_faultPlace_62, dX1_faultPlace_65, dX1_faultPlace_66, dX1_faultPlace_69, dX1_faultPlace_72, dX1_faultPlace_75, dX1_faultPlace_78, dX1_faultPlace_79, dX1_faultPlace_82, dX1_faultPlace_83, dX1_faultPlace_86, dX1_faultPlace_87, dX1_faultPlace_90, dX1_faultPlace_93, dX1_faultPlace_96, dX1_faultPlace_98, zb_40, zb_41, zb_m6, zf_1_9, zi_0, zi_1, zi_m1]
        exact ⟨fun _ => ⟨hm.symm, rfl⟩, fun c => absurd trivial c⟩
  refine z_run C [6] 7 ?_
  simp only [z_x, z_n, z_stop, z_mem, z_ldi, z_lda, z_sto, z_s1, z_s2, z_sa, z_sv, z_br, z_bn, z_ob, z_ar, z_aq, z_al, z_rt, z_ra, z_at, z_st, z_K0i, z_K0v, zk_0, zk_1, zk_2, zk_3, z_lv, List.map_cons, List.map_nil, List.length_cons, List.length_nil, List.replicate, List.cons_append, List.nil_append, Nat.reduceAdd, Nat.reduceSub, Nat.reduceBEq, Nat.reduceEqDiff, Nat.reduceLT, Nat.reduceLeDiff, Nat.zero_add, Int.cast_ofNat_Int, Int.reduceAdd, Int.reduceNeg, Int.reduceToNat, Int.reduceLE, Int.zero_add, Int.toNat_zero, Int.add_zero, Int.add_neg_cancel_right, Fin.isValue, Int32.reduceOfInt, ↓reduceIte, Bool.false_eq_true, Bool.or_false, Bool.false_or, Bool.or_true, Bool.true_or, if_true, if_false, true_and, and_true, true_or, or_true, false_or, or_false, eq_self, and_self, z_up_i, Nat.add_left_cancel_iff, Nat.left_eq_add, Nat.add_eq_left, reduceCtorEq, Nat.add_one_ne_zero, z_tt, implies_true, zn_0, zn_1, zo_0, zo_1, dX1_faultPlace_0, dX1_faultPlace_1, dX1_faultPlace_2, dX1_faultPlace_3, dX1_faultPlace_4, dX1_faultPlace_5, dX1_faultPlace_6, dX1_faultPlace_7, dX1_faultPlace_8, dX1_faultPlace_11, dX1_faultPlace_14, dX1_faultPlace_17, dX1_faultPlace_18, dX1_faultPlace_21, dX1_faultPlace_22, dX1_faultPlace_25, dX1_faultPlace_27, dX1_faultPlace_29, dX1_faultPlace_30, dX1_faultPlace_31, dX1_faultPlace_34, dX1_faultPlace_37, dX1_faultPlace_38, dX1_faultPlace_39, dX1_faultPlace_41, dX1_faultPlace_43, dX1_faultPlace_46, dX1_faultPlace_47, dX1_faultPlace_50, dX1_faultPlace_51, dX1_faultPlace_52, dX1_faultPlace_54, dX1_faultPlace_56, dX1_faultPlace_59, dX1_faultPlace_62, dX1_faultPlace_65, dX1_faultPlace_66, dX1_faultPlace_69, dX1_faultPlace_72, dX1_faultPlace_75, dX1_faultPlace_78, dX1_faultPlace_79, dX1_faultPlace_82, dX1_faultPlace_83, dX1_faultPlace_86, dX1_faultPlace_87, dX1_faultPlace_90, dX1_faultPlace_93, dX1_faultPlace_96, dX1_faultPlace_98, zb_40, zb_41, zb_m6, zf_1_9, zi_0, zi_1, zi_m1]
  exact loop pad.length 0 0 false (by omega) (by omega) rfl _

def z_rp (M M' : zH) (b : Nat) (pad w0 : List Nat) (s : Nat) (f : List Nat) (ok : Prop) : Prop := z_fp M M' (z_rA b) ∧ ((w0.length + (m_app f s).length ≤ 60 ∧ z_rst M' b pad (w0 ++ m_app f s) (m_spt f s) 0 ∧ ok) ∨ (60 < w0.length + (m_app f s).length ∧ ∃ w1 s1, z_rst M' b pad w1 s1 1))
set_option maxRecDepth 100000 in
set_option maxHeartbeats 4000000 in
theorem c_readSign {l : Launch} {E : zE} {d : Nat} {M : zH} {b : Nat} {pad w0 : List Nat} {s : Nat} (c : Nat) (hc : m_isS c ∨ m_isK c) (h : z_rst M b pad w0 s 0) : nX1_readSign l E (d + 4) [.ref (b + 46), .int (nI c)] M (z_v fun M' => z_rp M M' b pad w0 s [c] True) := by
  refine z_cn 1 fun P z C => ?_
  obtain ⟨h1, h2, h3⟩ := h
  have hlt : c < 128 := by unfold m_isS m_isK at hc; omega
  have hcap := h3.le
  simp only [List.length_map] at hcap
  have hi2 : ∀ c, c < 128 → ((nI c).toUInt32 % 65536).toInt32 = nI c := by decide
  refine z_run C [] 1 ?_
  simp only [z_x, z_n, z_stop, z_mem, z_ldi, z_lda, z_sto, z_s1, z_s2, z_sa, z_sv, z_br, z_bn, z_ob, z_ar, z_aq, z_al, z_rt, z_ra, z_at, z_st, z_K0i, z_K0v, zk_0, zk_1, zk_2, zk_3, z_lv, List.map_cons, List.map_nil, List.length_cons, List.length_nil, List.replicate, List.cons_append, List.nil_append, Nat.reduceAdd, Nat.reduceSub, Nat.reduceBEq, Nat.reduceEqDiff, Nat.reduceLT, Nat.reduceLeDiff, Nat.zero_add, Int.cast_ofNat_Int, Int.reduceAdd, Int.reduceNeg, Int.reduceToNat, Int.reduceLE, Int.zero_add, Int.toNat_zero, Int.add_zero, Int.add_neg_cancel_right, Fin.isValue, Int32.reduceOfInt, ↓reduceIte, Bool.false_eq_true, Bool.or_false, Bool.false_or, Bool.or_true, Bool.true_or, if_true, if_false, true_and, and_true, true_or, or_true, false_or, or_false, eq_self, and_self, z_up_i, Nat.add_left_cancel_iff, Nat.left_eq_add, Nat.add_eq_left, reduceCtorEq, Nat.add_one_ne_zero, z_tt, implies_true, zn_0, zn_1, zo_0, zo_1, dX1_readSign_0, dX1_readSign_1, dX1_readSign_4, dX1_readSign_7, dX1_readSign_8, dX1_readSign_9, dX1_readSign_11, dX1_readSign_12, dX1_readSign_15, dX1_readSign_18, dX1_readSign_19, dX1_readSign_20, dX1_readSign_23, dX1_readSign_25, dX1_readSign_26, dX1_readSign_27, dX1_readSign_30, dX1_readSign_31, dX1_readSign_34, dX1_readSign_37, dX1_readSign_40, dX1_readSign_43, dX1_readSign_44, dX1_readSign_47, dX1_readSign_48, dX1_readSign_51, zb_48, zf_1_15, zf_1_18, zf_1_22, zi_0, zi_1, zt_1_2, zt_1_3]
  refine z_si C dX1_readSign_1 lk_1_40 (c_isSpot c (by omega)) rfl (fun v M2 hv => ?_)
  obtain ⟨hv, rfl⟩ := hv
  rcases hv with ⟨rfl, hS⟩ | ⟨rfl, hS⟩
  · refine z_run C [] 10 ?_
    simp only [z_x, z_n, z_stop, z_mem, z_ldi, z_lda, z_sto, z_s1, z_s2, z_sa, z_sv, z_br, z_bn, z_ob, z_ar, z_aq, z_al, z_rt, z_ra, z_at, z_st, z_K0i, z_K0v, zk_0, zk_1, zk_2, zk_3, z_lv, List.map_cons, List.map_nil, List.length_cons, List.length_nil, List.replicate, List.cons_append, List.nil_append, Nat.reduceAdd, Nat.reduceSub, Nat.reduceBEq, Nat.reduceEqDiff, Nat.reduceLT, Nat.reduceLeDiff, Nat.zero_add, Int.cast_ofNat_Int, Int.reduceAdd, Int.reduceNeg, Int.reduceToNat, Int.reduceLE, Int.zero_add, Int.toNat_zero, Int.add_zero, Int.add_neg_cancel_right, Fin.isValue, Int32.reduceOfInt, ↓reduceIte, Bool.false_eq_true, Bool.or_false, Bool.false_or, Bool.or_true, Bool.true_or, if_true, if_false, true_and, and_true, true_or, or_true, false_or, or_false, eq_self, and_self, z_up_i, Nat.add_left_cancel_iff, Nat.left_eq_add, Nat.add_eq_left, reduceCtorEq, Nat.add_one_ne_zero, z_tt, implies_true, zn_0, zn_1, zo_0, zo_1, dX1_readSign_0, dX1_readSign_1, dX1_readSign_4, dX1_readSign_7, dX1_readSign_8, dX1_readSign_9, dX1_readSign_11, dX1_readSign_12, dX1_readSign_15, dX1_readSign_18, dX1_readSign_19, dX1_readSign_20, dX1_readSign_23, dX1_readSign_25, dX1_readSign_26, dX1_readSign_27, dX1_readSign_30, dX1_readSign_31, dX1_readSign_34, dX1_readSign_37, dX1_readSign_40, dX1_readSign_43, dX1_readSign_44, dX1_readSign_47, dX1_readSign_48, dX1_readSign_51, zb_48, zf_1_15, zf_1_18, zf_1_22, zi_0, zi_1, zt_1_2, zt_1_3, h1]
    refine ⟨fun c => absurd c (by decide), fun _ => ?_⟩
    have hS2 : 48 ≤ c ∧ c < 51 := hS
    have hfp : z_fp M2 (z_up M2 (b + 46) (Sum.inr (1, [Value.ref (b + 1), Value.ref (b + 3), Value.int (nI c - 48), Value.int (nI 0)]))) (z_rA b) := fun q hq => z_up_n (fun e => hq (Or.inr (Or.inr e)))
    refine ⟨hfp, Or.inl ⟨by simp [m_app, hS2]; omega, ⟨?_, h2.fp hfp (by unfold z_rA; omega) (by unfold z_rA; omega), ?_⟩, trivial⟩⟩
    · rw [z_up_s, show (48 : Int32) = nI 48 from rfl, pk_sub hS2.1]
      simp [m_spt, hS2]
    · simp [m_app, hS2]
      obtain ⟨f, g1, g2, g3⟩ := h3
      exact ⟨f, by rw [z_up_n (by omega)]; exact g1, by rw [z_up_n (by omega)]; exact g2, g3⟩
  · refine z_run C [] 4 ?_
    simp only [z_x, z_n, z_stop, z_mem, z_ldi, z_lda, z_sto, z_s1, z_s2, z_sa, z_sv, z_br, z_bn, z_ob, z_ar, z_aq, z_al, z_rt, z_ra, z_at, z_st, z_K0i, z_K0v, zk_0, zk_1, zk_2, zk_3, z_lv, List.map_cons, List.map_nil, List.length_cons, List.length_nil, List.replicate, List.cons_append, List.nil_append, Nat.reduceAdd, Nat.reduceSub, Nat.reduceBEq, Nat.reduceEqDiff, Nat.reduceLT, Nat.reduceLeDiff, Nat.zero_add, Int.cast_ofNat_Int, Int.reduceAdd, Int.reduceNeg, Int.reduceToNat, Int.reduceLE, Int.zero_add, Int.toNat_zero, Int.add_zero, Int.add_neg_cancel_right, Fin.isValue, Int32.reduceOfInt, ↓reduceIte, Bool.false_eq_true, Bool.or_false, Bool.false_or, Bool.or_true, Bool.true_or, if_true, if_false, true_and, and_true, true_or, or_true, false_or, or_false, eq_self, and_self, z_up_i, Nat.add_left_cancel_iff, Nat.left_eq_add, Nat.add_eq_left, reduceCtorEq, Nat.add_one_ne_zero, z_tt, implies_true, zn_0, zn_1, zo_0, zo_1, dX1_readSign_0, dX1_readSign_1, dX1_readSign_4, dX1_readSign_7, dX1_readSign_8, dX1_readSign_9, dX1_readSign_11, dX1_readSign_12, dX1_readSign_15, dX1_readSign_18, dX1_readSign_19, dX1_readSign_20, dX1_readSign_23, dX1_readSign_25, dX1_readSign_26, dX1_readSign_27, dX1_readSign_30, dX1_readSign_31, dX1_readSign_34, dX1_readSign_37, dX1_readSign_40, dX1_readSign_43, dX1_readSign_44, dX1_readSign_47, dX1_readSign_48, dX1_readSign_51, zb_48, zf_1_15, zf_1_18, zf_1_22, zi_0, zi_1, zt_1_2, zt_1_3, h1]
    refine ⟨fun _ => ?_, fun c => absurd trivial c⟩
    have hK : m_isK c := hc.resolve_left hS
    have hS2 : ¬ (48 ≤ c ∧ c < 51) := hS
    obtain ⟨k1, k2⟩ := m_kI_k hK
    refine z_ldcR C dX1_readSign_23 ?_
    refine z_run C [] 2 ?_
    simp only [z_x, z_n, z_stop, z_mem, z_ldi, z_lda, z_sto, z_s1, z_s2, z_sa, z_sv, z_br, z_bn, z_ob, z_ar, z_aq, z_al, z_rt, z_ra, z_at, z_st, z_K0i, z_K0v, zk_0, zk_1, zk_2, zk_3, z_lv, List.map_cons, List.map_nil, List.length_cons, List.length_nil, List.replicate, List.cons_append, List.nil_append, Nat.reduceAdd, Nat.reduceSub, Nat.reduceBEq, Nat.reduceEqDiff, Nat.reduceLT, Nat.reduceLeDiff, Nat.zero_add, Int.cast_ofNat_Int, Int.reduceAdd, Int.reduceNeg, Int.reduceToNat, Int.reduceLE, Int.zero_add, Int.toNat_zero, Int.add_zero, Int.add_neg_cancel_right, Fin.isValue, Int32.reduceOfInt, ↓reduceIte, Bool.false_eq_true, Bool.or_false, Bool.false_or, Bool.or_true, Bool.true_or, if_true, if_false, true_and, and_true, true_or, or_true, false_or, or_false, eq_self, and_self, z_up_i, Nat.add_left_cancel_iff, Nat.left_eq_add, Nat.add_eq_left, reduceCtorEq, Nat.add_one_ne_zero, z_tt, implies_true, zn_0, zn_1, zo_0, zo_1, dX1_readSign_0, dX1_readSign_1, dX1_readSign_4, dX1_readSign_7, dX1_readSign_8, dX1_readSign_9, dX1_readSign_11, dX1_readSign_12, dX1_readSign_15, dX1_readSign_18, dX1_readSign_19, dX1_readSign_20, dX1_readSign_23, dX1_readSign_25, dX1_readSign_26, dX1_readSign_27, dX1_readSign_30, dX1_readSign_31, dX1_readSign_34, dX1_readSign_37, dX1_readSign_40, dX1_readSign_43, dX1_readSign_44, dX1_readSign_47, dX1_readSign_48, dX1_readSign_51, zb_48, zf_1_15, zf_1_18, zf_1_22, zi_0, zi_1, zt_1_2, zt_1_3]
    rw [hi2 c hlt]
    refine z_ti (i := 0) C (by omega) dX1_readSign_27 lk_1_46 (c_indexOf (by omega) hlt) rfl (fun v M2 hv => ?_)
    obtain ⟨rfl, rfl⟩ := hv
    rw [k1]
    refine z_run C [] 2 ?_
    simp only [z_x, z_n, z_stop, z_mem, z_ldi, z_lda, z_sto, z_s1, z_s2, z_sa, z_sv, z_br, z_bn, z_ob, z_ar, z_aq, z_al, z_rt, z_ra, z_at, z_st, z_K0i, z_K0v, zk_0, zk_1, zk_2, zk_3, z_lv, List.map_cons, List.map_nil, List.length_cons, List.length_nil, List.replicate, List.cons_append, List.nil_append, Nat.reduceAdd, Nat.reduceSub, Nat.reduceBEq, Nat.reduceEqDiff, Nat.reduceLT, Nat.reduceLeDiff, Nat.zero_add, Int.cast_ofNat_Int, Int.reduceAdd, Int.reduceNeg, Int.reduceToNat, Int.reduceLE, Int.zero_add, Int.toNat_zero, Int.add_zero, Int.add_neg_cancel_right, Fin.isValue, Int32.reduceOfInt, ↓reduceIte, Bool.false_eq_true, Bool.or_false, Bool.false_or, Bool.or_true, Bool.true_or, if_true, if_false, true_and, and_true, true_or, or_true, false_or, or_false, eq_self, and_self, z_up_i, Nat.add_left_cancel_iff, Nat.left_eq_add, Nat.add_eq_left, reduceCtorEq, Nat.add_one_ne_zero, z_tt, implies_true, zn_0, zn_1, zo_0, zo_1, dX1_readSign_0, dX1_readSign_1, dX1_readSign_4, dX1_readSign_7, dX1_readSign_8, dX1_readSign_9, dX1_readSign_11, dX1_readSign_12, dX1_readSign_15, dX1_readSign_18, dX1_readSign_19, dX1_readSign_20, dX1_readSign_23, dX1_readSign_25, dX1_readSign_26, dX1_readSign_27, dX1_readSign_30, dX1_readSign_31, dX1_readSign_34, dX1_readSign_37, dX1_readSign_40, dX1_readSign_43, dX1_readSign_44, dX1_readSign_47, dX1_readSign_48, dX1_readSign_51, zb_48, zf_1_15, zf_1_18, zf_1_22, zi_0, zi_1, zt_1_2, zt_1_3, h1]
    refine z_ni C dX1_readSign_34 lk_1_70 (c_stepOf _ _) rfl (fun v M2 hv => ?_)
    obtain ⟨rfl, rfl⟩ := hv
    refine z_vi C dX1_readSign_37 lk_1_73 (c_add _ h3) rfl h3.ob (fun v M3 hv => ?_)
    obtain ⟨hf, hv1, hv2⟩ := hv
    have hap : m_app [c] s = [3 * m_kd c + s] := by simp [m_app, hS2]
    have hsp : m_spt [c] s = s := by simp [m_spt, hS2]
    have hf3 : z_fp M2 M3 (z_rA b) := hf.p (Or.inl rfl) (Or.inr (Or.inl rfl))
    have h13 : M3 (b + 46) = some (.inr (1, [.ref (b + 1), .ref (b + 3), .int (nI s), .int (nI 0)])) := (hf _ (by simp)).trans h1
    have h23 := h2.fr hf (by simp) (by simp)
    simp only [List.length_map] at hv1 hv2
    refine z_run C [] 10 ?_
    simp only [z_x, z_n, z_stop, z_mem, z_ldi, z_lda, z_sto, z_s1, z_s2, z_sa, z_sv, z_br, z_bn, z_ob, z_ar, z_aq, z_al, z_rt, z_ra, z_at, z_st, z_K0i, z_K0v, zk_0, zk_1, zk_2, zk_3, z_lv, List.map_cons, List.map_nil, List.length_cons, List.length_nil, List.replicate, List.cons_append, List.nil_append, Nat.reduceAdd, Nat.reduceSub, Nat.reduceBEq, Nat.reduceEqDiff, Nat.reduceLT, Nat.reduceLeDiff, Nat.zero_add, Int.cast_ofNat_Int, Int.reduceAdd, Int.reduceNeg, Int.reduceToNat, Int.reduceLE, Int.zero_add, Int.toNat_zero, Int.add_zero, Int.add_neg_cancel_right, Fin.isValue, Int32.reduceOfInt, ↓reduceIte, Bool.false_eq_true, Bool.or_false, Bool.false_or, Bool.or_true, Bool.true_or, if_true, if_false, true_and, and_true, true_or, or_true, false_or, or_false, eq_self, and_self, z_up_i, Nat.add_left_cancel_iff, Nat.left_eq_add, Nat.add_eq_left, reduceCtorEq, Nat.add_one_ne_zero, z_tt, implies_true, zn_0, zn_1, zo_0, zo_1, dX1_readSign_0, dX1_readSign_1, dX1_readSign_4, dX1_readSign_7, dX1_readSign_8, dX1_readSign_9, dX1_readSign_11, dX1_readSign_12, dX1_readSign_15, dX1_readSign_18, dX1_readSign_19, dX1_readSign_20, dX1_readSign_23, dX1_readSign_25, dX1_readSign_26, dX1_readSign_27, dX1_readSign_30, dX1_readSign_31, dX1_readSign_34, dX1_readSign_37, dX1_readSign_40, dX1_readSign_43, dX1_readSign_44, dX1_readSign_47, dX1_readSign_48, dX1_readSign_51, zb_48, zf_1_15, zf_1_18, zf_1_22, zi_0, zi_1, zt_1_2, zt_1_3, h13]
    by_cases hlen : w0.length < 60
    · obtain ⟨rfl, hr⟩ := hv1 hlen
      refine ⟨fun c => absurd c (by decide), fun _ => ?_⟩
      have hfp : z_fp M3 (z_up M3 (b + 46) (Sum.inr (1, [Value.ref (b + 1), Value.ref (b + 3), Value.int (nI s), Value.int 0]))) (z_rA b) := fun q hq => z_up_n (fun e => hq (Or.inr (Or.inr e)))
      refine ⟨hf3.tr hfp, Or.inl ⟨by rw [hap]; simp; omega, ⟨?_, h23.fp hfp (by unfold z_rA; omega) (by unfold z_rA; omega), ?_⟩, trivial⟩⟩
      · rw [z_up_s, hsp]; rfl
      · rw [hap]
        simp only [List.map_append, List.map_cons, List.map_nil]
        obtain ⟨f, g1, g2, g3⟩ := hr
        exact ⟨f, by rw [z_up_n (by omega)]; exact g1, by rw [z_up_n (by omega)]; exact g2, g3⟩
    · obtain ⟨rfl, rfl⟩ := hv2 hlen
      refine ⟨fun _ => ?_, fun c => absurd rfl c⟩
      have hfp : z_fp M3 (z_up M3 (b + 46) (Sum.inr (1, [Value.ref (b + 1), Value.ref (b + 3), Value.int (nI s), Value.int 1]))) (z_rA b) := fun q hq => z_up_n (fun e => hq (Or.inr (Or.inr e)))
      refine ⟨hf3.tr hfp, Or.inr ⟨by rw [hap]; simp; omega, w0, s, ?_, h23.fp hfp (by unfold z_rA; omega) (by unfold z_rA; omega), ?_⟩⟩
      · rw [z_up_s]; rfl
      · obtain ⟨f, g1, g2, g3⟩ := h3
        exact ⟨f, by rw [z_up_n (by omega)]; exact g1, by rw [z_up_n (by omega)]; exact g2, g3⟩
end
section
/-! THE READER: texts and parts -/
def z_RT (l : Launch) (E : zE) (D dd b : Nat) (pad : List Nat) : Prop := ∀ (M : zH) (i s : Nat) (w0 : List Nat), i ≤ pad.length → s < 3 → z_rst M b pad w0 s 0 → m_wf (pad.drop i) dd false → nX1_readText l E D [.ref (b + 46), .int (nI i), .int (nI dd)] M (z_i fun v M' => z_rp M M' b pad w0 s (m_dn (pad.drop i)).1 (∃ j, j ≤ pad.length ∧ v = nI j ∧ pad.drop j = (m_dn (pad.drop i)).2))
theorem m_app_rep_mono (f : List Nat) (s : Nat) {k t : Nat} (h : k ≤ t) : (m_app (m_rep k f) s).length ≤ (m_app (m_rep t f) s).length := by
  induction t with
  | zero => rw [show k = 0 by omega]; exact Nat.le_refl _
  | succ t ih =>
    by_cases hk : k ≤ t
    · refine Nat.le_trans (ih hk) ?_
      rw [m_rep_s', m_app_app, List.length_append]; omega
    · rw [show k = t + 1 by omega]; exact Nat.le_refl _
set_option maxRecDepth 100000 in
set_option maxHeartbeats 4000000 in
theorem c_readPart {l : Launch} {E : zE} {D dd b : Nat} {pad : List Nat} (hRT : z_RT l E (D + 1) (dd + 1) b pad) (hdd : dd < 3) {M : zH} {i s t : Nat} {w0 f1 r : List Nat} (hi : i < pad.length) (hs : s < 3) (h : z_rst M b pad w0 s 0) (hw : m_wf (pad.drop (i + 1)) (dd + 1) false) (hdn : m_dn (pad.drop (i + 1)) = (f1, 41 :: t :: r)) (ht : 49 ≤ t ∧ t ≤ 57) (hfo : m_flatok f1) : nX1_readPart l E (D + 2) [.ref (b + 46), .int (nI i), .int (nI dd)] M (z_i fun v M' => z_rp M M' b pad w0 s (m_rep (t - 48) f1) (∃ j, j ≤ pad.length ∧ v = nI j ∧ pad.drop j = r)) := by
  refine z_cn 1 fun P z C => ?_
  have hlen := h.len
  obtain ⟨h1, h2, h3⟩ := id h
  have hT1 : ∃ T, t - 48 = T + 1 := ⟨t - 49, by omega⟩
  -- all that is left when there are too many
  have fin1 : 60 < w0.length + (m_app (m_rep (t - 48) f1) s).length → ∀ (M1 : zH) (w1 : List Nat) (s1 : Nat), z_fp M M1 (z_rA b) → z_rst M1 b pad w1 s1 1 → ∀ v4 v5 v6 : Int32, P (M1, z, 0, 0) 52 [some (.ref (b + 46)), some (.int (nI i)), some (.int (nI dd)), some (.int (nI w0.length)), some (.int v4), some (.int v5), some (.int v6)] [] := by
    intro hbig M1 w1 s1 hf hst v4 v5 v6
    obtain ⟨g1, g2, g3⟩ := id hst
    have fin : P (M1, z, 0, 0) 94 [some (.ref (b + 46)), some (.int (nI i)), some (.int (nI dd)), some (.int (nI w0.length)), some (.int v4), some (.int v5), some (.int v6)] [] := by
      refine z_run C [] 5 ?_
      simp only [z_x, z_n, z_stop, z_mem, z_ldi, z_lda, z_sto, z_s1, z_s2, z_sa, z_sv, z_br, z_bn, z_ob, z_ar, z_aq, z_al, z_rt, z_ra, z_at, z_st, z_K0i, z_K0v, zk_0, zk_1, zk_2, zk_3, z_lv, List.map_cons, List.map_nil, List.length_cons, List.length_nil, List.replicate, List.cons_append, List.nil_append, Nat.reduceAdd, Nat.reduceSub, Nat.reduceBEq, Nat.reduceEqDiff, Nat.reduceLT, Nat.reduceLeDiff, Nat.zero_add, Int.cast_ofNat_Int, Int.reduceAdd, Int.reduceNeg, Int.reduceToNat, Int.reduceLE, Int.zero_add, Int.toNat_zero, Int.add_zero, Int.add_neg_cancel_right, Fin.isValue, Int32.reduceOfInt, ↓reduceIte, Bool.false_eq_true, Bool.or_false, Bool.false_or, Bool.or_true, Bool.true_or, if_true, if_false, true_and, and_true, true_or, or_true, false_or, or_false, eq_self, and_self, z_up_i, Nat.add_left_cancel_iff, Nat.left_eq_add, Nat.add_eq_left, reduceCtorEq, Nat.add_one_ne_zero, z_tt, implies_true, zn_0, zn_1, zo_0, zo_1, dX1_readPart_0, dX1_readPart_1, dX1_readPart_2, dX1_readPart_5, dX1_readPart_6, dX1_readPart_9, dX1_readPart_12, dX1_readPart_13, dX1_readPart_14, dX1_readPart_17, dX1_readPart_20, dX1_readPart_21, dX1_readPart_22, dX1_readPart_23, dX1_readPart_24, dX1_readPart_25, dX1_readPart_26, dX1_readPart_27, dX1_readPart_28, dX1_readPart_31, dX1_readPart_33, dX1_readPart_34, dX1_readPart_37, dX1_readPart_39, dX1_readPart_40, dX1_readPart_41, dX1_readPart_44, dX1_readPart_46, dX1_readPart_47, dX1_readPart_49, dX1_readPart_50, dX1_readPart_52, dX1_readPart_54, dX1_readPart_56, dX1_readPart_59, dX1_readPart_60, dX1_readPart_63, dX1_readPart_66, dX1_readPart_67, dX1_readPart_70, dX1_readPart_71, dX1_readPart_74, dX1_readPart_77, dX1_readPart_78, dX1_readPart_79, dX1_readPart_80, dX1_readPart_81, dX1_readPart_82, dX1_readPart_83, dX1_readPart_84, dX1_readPart_87, dX1_readPart_88, dX1_readPart_91, dX1_readPart_94, dX1_readPart_96, dX1_readPart_97, dX1_readPart_98, zb_48, zf_1_15, zf_1_22, zf_1_9, zi_1, zi_2, zi_3]
      exact ⟨hf, Or.inr ⟨hbig, w1, s1, hst⟩⟩
    refine z_run C [94] 5 ?_
    simp only [z_x, z_n, z_stop, z_mem, z_ldi, z_lda, z_sto, z_s1, z_s2, z_sa, z_sv, z_br, z_bn, z_ob, z_ar, z_aq, z_al, z_rt, z_ra, z_at, z_st, z_K0i, z_K0v, zk_0, zk_1, zk_2, zk_3, z_lv, List.map_cons, List.map_nil, List.length_cons, List.length_nil, List.replicate, List.cons_append, List.nil_append, Nat.reduceAdd, Nat.reduceSub, Nat.reduceBEq, Nat.reduceEqDiff, Nat.reduceLT, Nat.reduceLeDiff, Nat.zero_add, Int.cast_ofNat_Int, Int.reduceAdd, Int.reduceNeg, Int.reduceToNat, Int.reduceLE, Int.zero_add, Int.toNat_zero, Int.add_zero, Int.add_neg_cancel_right, Fin.isValue, Int32.reduceOfInt, ↓reduceIte, Bool.false_eq_true, Bool.or_false, Bool.false_or, Bool.or_true, Bool.true_or, if_true, if_false, true_and, and_true, true_or, or_true, false_or, or_false, eq_self, and_self, z_up_i, Nat.add_left_cancel_iff, Nat.left_eq_add, Nat.add_eq_left, reduceCtorEq, Nat.add_one_ne_zero, z_tt, implies_true, zn_0, zn_1, zo_0, zo_1, dX1_readPart_0, dX1_readPart_1, dX1_readPart_2, dX1_readPart_5, dX1_readPart_6, dX1_readPart_9, dX1_readPart_12, dX1_readPart_13, dX1_readPart_14, dX1_readPart_17, dX1_readPart_20, dX1_readPart_21, dX1_readPart_22, dX1_readPart_23, dX1_readPart_24, dX1_readPart_25, dX1_readPart_26, dX1_readPart_27, dX1_readPart_28, dX1_readPart_31, dX1_readPart_33, dX1_readPart_34, dX1_readPart_37, dX1_readPart_39, dX1_readPart_40, dX1_readPart_41, dX1_readPart_44, dX1_readPart_46, dX1_readPart_47, dX1_readPart_49, dX1_readPart_50, dX1_readPart_52, dX1_readPart_54, dX1_readPart_56, dX1_readPart_59, dX1_readPart_60, dX1_readPart_63, dX1_readPart_66, dX1_readPart_67, dX1_readPart_70, dX1_readPart_71, dX1_readPart_74, dX1_readPart_77, dX1_readPart_78, dX1_readPart_79, dX1_readPart_80, dX1_readPart_81, dX1_readPart_82, dX1_readPart_83, dX1_readPart_84, dX1_readPart_87, dX1_readPart_88, dX1_readPart_91, dX1_readPart_94, dX1_readPart_96, dX1_readPart_97, dX1_readPart_98, zb_48, zf_1_15, zf_1_22, zf_1_9, zi_1, zi_2, zi_3, g1]
    refine ⟨fun _ => fin, fun _ => ?_⟩
    refine z_vi C dX1_readPart_63 lk_1_26 (c_size g3) rfl g3.ob (fun v M2 hv => ?_)
    obtain ⟨rfl, rfl⟩ := hv
    refine z_run C [94] 5 ?_
    simp only [z_x, z_n, z_stop, z_mem, z_ldi, z_lda, z_sto, z_s1, z_s2, z_sa, z_sv, z_br, z_bn, z_ob, z_ar, z_aq, z_al, z_rt, z_ra, z_at, z_st, z_K0i, z_K0v, zk_0, zk_1, zk_2, zk_3, z_lv, List.map_cons, List.map_nil, List.length_cons, List.length_nil, List.replicate, List.cons_append, List.nil_append, Nat.reduceAdd, Nat.reduceSub, Nat.reduceBEq, Nat.reduceEqDiff, Nat.reduceLT, Nat.reduceLeDiff, Nat.zero_add, Int.cast_ofNat_Int, Int.reduceAdd, Int.reduceNeg, Int.reduceToNat, Int.reduceLE, Int.zero_add, Int.toNat_zero, Int.add_zero, Int.add_neg_cancel_right, Fin.isValue, Int32.reduceOfInt, ↓reduceIte, Bool.false_eq_true, Bool.or_false, Bool.false_or, Bool.or_true, Bool.true_or, if_true, if_false, true_and, and_true, true_or, or_true, false_or, or_false, eq_self, and_self, z_up_i, Nat.add_left_cancel_iff, Nat.left_eq_add, Nat.add_eq_left, reduceCtorEq, Nat.add_one_ne_zero, z_tt, implies_true, zn_0, zn_1, zo_0, zo_1, dX1_readPart_0, dX1_readPart_1, dX1_readPart_2, dX1_readPart_5, dX1_readPart_6, dX1_readPart_9, dX1_readPart_12, dX1_readPart_13, dX1_readPart_14, dX1_readPart_17, dX1_readPart_20, dX1_readPart_21, dX1_readPart_22, dX1_readPart_23, dX1_readPart_24, dX1_readPart_25, dX1_readPart_26, dX1_readPart_27, dX1_readPart_28, dX1_readPart_31, dX1_readPart_33, dX1_readPart_34, dX1_readPart_37, dX1_readPart_39, dX1_readPart_40, dX1_readPart_41, dX1_readPart_44, dX1_readPart_46, dX1_readPart_47, dX1_readPart_49, dX1_readPart_50, dX1_readPart_52, dX1_readPart_54, dX1_readPart_56, dX1_readPart_59, dX1_readPart_60, dX1_readPart_63, dX1_readPart_66, dX1_readPart_67, dX1_readPart_70, dX1_readPart_71, dX1_readPart_74, dX1_readPart_77, dX1_readPart_78, dX1_readPart_79, dX1_readPart_80, dX1_readPart_81, dX1_readPart_82, dX1_readPart_83, dX1_readPart_84, dX1_readPart_87, dX1_readPart_88, dX1_readPart_91, dX1_readPart_94, dX1_readPart_96, dX1_readPart_97, dX1_readPart_98, zb_48, zf_1_15, zf_1_22, zf_1_9, zi_1, zi_2, zi_3, g1]
    refine ⟨fun _ => fin, fun _ => ⟨fun c => absurd c (by decide), fun _ => fin⟩⟩
  have loop : ∀ (n k : Nat) (M1 : zH) (j : Nat), k + n = t - 48 → 1 ≤ k → z_fp M M1 (z_rA b) → w0.length + (m_app (m_rep k f1) s).length ≤ 60 → z_rst M1 b pad (w0 ++ m_app (m_rep k f1) s) (m_spt f1 s) 0 → j + 2 ≤ pad.length → pad.drop (j + 2) = r → P (M1, z, 0, 0) 52 [some (.ref (b + 46)), some (.int (nI i)), some (.int (nI dd)), some (.int (nI w0.length)), some (.int (nI j)), some (.int (nI (t - 48))), some (.int (nI k))] [] := by
    intro n
    induction n with
    | zero =>
      intro k M1 j hk hk1 hf hfit hst hj hjr
      have ek : k = t - 48 := by omega
      subst ek
      refine z_run C [] 10 ?_
      simp only [z_x, z_n, z_stop, z_mem, z_ldi, z_lda, z_sto, z_s1, z_s2, z_sa, z_sv, z_br, z_bn, z_ob, z_ar, z_aq, z_al, z_rt, z_ra, z_at, z_st, z_K0i, z_K0v, zk_0, zk_1, zk_2, zk_3, z_lv, List.map_cons, List.map_nil, List.length_cons, List.length_nil, List.replicate, List.cons_append, List.nil_append, Nat.reduceAdd, Nat.reduceSub, Nat.reduceBEq, Nat.reduceEqDiff, Nat.reduceLT, Nat.reduceLeDiff, Nat.zero_add, Int.cast_ofNat_Int, Int.reduceAdd, Int.reduceNeg, Int.reduceToNat, Int.reduceLE, Int.zero_add, Int.toNat_zero, Int.add_zero, Int.add_neg_cancel_right, Fin.isValue, Int32.reduceOfInt, ↓reduceIte, Bool.false_eq_true, Bool.or_false, Bool.false_or, Bool.or_true, Bool.true_or, if_true, if_false, true_and, and_true, true_or, or_true, false_or, or_false, eq_self, and_self, z_up_i, Nat.add_left_cancel_iff, Nat.left_eq_add, Nat.add_eq_left, reduceCtorEq, Nat.add_one_ne_zero, z_tt, implies_true, zn_0, zn_1, zo_0, zo_1, dX1_readPart_0, dX1_readPart_1, dX1_readPart_2, dX1_readPart_5, dX1_readPart_6, dX1_readPart_9, dX1_readPart_12, dX1_readPart_13, dX1_readPart_14, dX1_readPart_17, dX1_readPart_20, dX1_readPart_21, dX1_readPart_22, dX1_readPart_23, dX1_readPart_24, dX1_readPart_25, dX1_readPart_26, dX1_readPart_27, dX1_readPart_28, dX1_readPart_31, dX1_readPart_33, dX1_readPart_34, dX1_readPart_37, dX1_readPart_39, dX1_readPart_40, dX1_readPart_41, dX1_readPart_44, dX1_readPart_46, dX1_readPart_47, dX1_readPart_49, dX1_readPart_50, dX1_readPart_52, dX1_readPart_54, dX1_readPart_56, dX1_readPart_59, dX1_readPart_60, dX1_readPart_63, dX1_readPart_66, dX1_readPart_67, dX1_readPart_70, dX1_readPart_71, dX1_readPart_74, dX1_readPart_77, dX1_readPart_78, dX1_readPart_79, dX1_readPart_80, dX1_readPart_81, dX1_readPart_82, dX1_readPart_83, dX1_readPart_84, dX1_readPart_87, dX1_readPart_88, dX1_readPart_91, dX1_readPart_94, dX1_readPart_96, dX1_readPart_97, dX1_readPart_98, zb_48, zf_1_15, zf_1_22, zf_1_9, zi_1, zi_2, zi_3]
      rw [show nI j + 2 = nI (j + 2) from nI_add j 2]
      refine ⟨fun _ => ⟨hf, Or.inl ⟨hfit, ?_, j + 2, hj, rfl, hjr⟩⟩, fun c1 => absurd (nI_le (by omega) (by omega)) c1⟩
      obtain ⟨T, hT⟩ := hT1
      rw [hT, m_spt_rep]
      rw [hT] at hst
      exact hst
    | succ n ih =>
      intro k M1 j hk hk1 hf hfit hst hj hjr
      obtain ⟨g1, g2, g3⟩ := id hst
      have hl3 : ((w0 ++ m_app (m_rep k f1) s).map nI).length = w0.length + (m_app (m_rep k f1) s).length := by simp
      refine z_run C [] 5 ?_
      simp only [z_x, z_n, z_stop, z_mem, z_ldi, z_lda, z_sto, z_s1, z_s2, z_sa, z_sv, z_br, z_bn, z_ob, z_ar, z_aq, z_al, z_rt, z_ra, z_at, z_st, z_K0i, z_K0v, zk_0, zk_1, zk_2, zk_3, z_lv, List.map_cons, List.map_nil, List.length_cons, List.length_nil, List.replicate, List.cons_append, List.nil_append, Nat.reduceAdd, Nat.reduceSub, Nat.reduceBEq, Nat.reduceEqDiff, Nat.reduceLT, Nat.reduceLeDiff, Nat.zero_add, Int.cast_ofNat_Int, Int.reduceAdd, Int.reduceNeg, Int.reduceToNat, Int.reduceLE, Int.zero_add, Int.toNat_zero, Int.add_zero, Int.add_neg_cancel_right, Fin.isValue, Int32.reduceOfInt, ↓reduceIte, Bool.false_eq_true, Bool.or_false, Bool.false_or, Bool.or_true, Bool.true_or, if_true, if_false, true_and, and_true, true_or, or_true, false_or, or_false, eq_self, and_self, z_up_i, Nat.add_left_cancel_iff, Nat.left_eq_add, Nat.add_eq_left, reduceCtorEq, Nat.add_one_ne_zero, z_tt, implies_true, zn_0, zn_1, zo_0, zo_1, dX1_readPart_0, dX1_readPart_1, dX1_readPart_2, dX1_readPart_5, dX1_readPart_6, dX1_readPart_9, dX1_readPart_12, dX1_readPart_13, dX1_readPart_14, dX1_readPart_17, dX1_readPart_20, dX1_readPart_21, dX1_readPart_22, dX1_readPart_23, dX1_readPart_24, dX1_readPart_25, dX1_readPart_26, dX1_readPart_27, dX1_readPart_28, dX1_readPart_31, dX1_readPart_33, dX1_readPart_34, dX1_readPart_37, dX1_readPart_39, dX1_readPart_40, dX1_readPart_41, dX1_readPart_44, dX1_readPart_46, dX1_readPart_47, dX1_readPart_49, dX1_readPart_50, dX1_readPart_52, dX1_readPart_54, dX1_readPart_56, dX1_readPart_59, dX1_readPart_60, dX1_readPart_63, dX1_readPart_66, dX1_readPart_67, dX1_readPart_70, dX1_readPart_71, dX1_readPart_74, dX1_readPart_77, dX1_readPart_78, dX1_readPart_79, dX1_readPart_80, dX1_readPart_81, dX1_readPart_82, dX1_readPart_83, dX1_readPart_84, dX1_readPart_87, dX1_readPart_88, dX1_readPart_91, dX1_readPart_94, dX1_readPart_96, dX1_readPart_97, dX1_readPart_98, zb_48, zf_1_15, zf_1_22, zf_1_9, zi_1, zi_2, zi_3, g1]
      refine ⟨fun c1 => absurd ((nI_leI (by omega) (by omega)).mp c1) (by omega), fun _ => ?_⟩
      refine z_vi C dX1_readPart_63 lk_1_26 (c_size g3) rfl g3.ob (fun v M2 hv => ?_)
      obtain ⟨rfl, rfl⟩ := hv
      rw [hl3]
      refine z_run C [] 20 ?_
      simp only [z_x, z_n, z_stop, z_mem, z_ldi, z_lda, z_sto, z_s1, z_s2, z_sa, z_sv, z_br, z_bn, z_ob, z_ar, z_aq, z_al, z_rt, z_ra, z_at, z_st, z_K0i, z_K0v, zk_0, zk_1, zk_2, zk_3, z_lv, List.map_cons, List.map_nil, List.length_cons, List.length_nil, List.replicate, List.cons_append, List.nil_append, Nat.reduceAdd, Nat.reduceSub, Nat.reduceBEq, Nat.reduceEqDiff, Nat.reduceLT, Nat.reduceLeDiff, Nat.zero_add, Int.cast_ofNat_Int, Int.reduceAdd, Int.reduceNeg, Int.reduceToNat, Int.reduceLE, Int.zero_add, Int.toNat_zero, Int.add_zero, Int.add_neg_cancel_right, Fin.isValue, Int32.reduceOfInt, ↓reduceIte, Bool.false_eq_true, Bool.or_false, Bool.false_or, Bool.or_true, Bool.true_or, if_true, if_false, true_and, and_true, true_or, or_true, false_or, or_false, eq_self, and_self, z_up_i, Nat.add_left_cancel_iff, Nat.left_eq_add, Nat.add_eq_left, reduceCtorEq, Nat.add_one_ne_zero, z_tt, implies_true, zn_0, zn_1, zo_0, zo_1, dX1_readPart_0, dX1_readPart_1, dX1_readPart_2, dX1_readPart_5, dX1_readPart_6, dX1_readPart_9, dX1_readPart_12, dX1_readPart_13, dX1_readPart_14, dX1_readPart_17, dX1_readPart_20, dX1_readPart_21, dX1_readPart_22, dX1_readPart_23, dX1_readPart_24, dX1_readPart_25, dX1_readPart_26, dX1_readPart_27, dX1_readPart_28, dX1_readPart_31, dX1_readPart_33, dX1_readPart_34, dX1_readPart_37, dX1_readPart_39, dX1_readPart_40, dX1_readPart_41, dX1_readPart_44, dX1_readPart_46, dX1_readPart_47, dX1_readPart_49, dX1_readPart_50, dX1_readPart_52, dX1_readPart_54, dX1_readPart_56, dX1_readPart_59, dX1_readPart_60, dX1_readPart_63, dX1_readPart_66, dX1_readPart_67, dX1_readPart_70, dX1_readPart_71, dX1_readPart_74, dX1_readPart_77, dX1_readPart_78, dX1_readPart_79, dX1_readPart_80, dX1_readPart_81, dX1_readPart_82, dX1_readPart_83, dX1_readPart_84, dX1_readPart_87, dX1_readPart_88, dX1_readPart_91, dX1_readPart_94, dX1_readPart_96, dX1_readPart_97, dX1_readPart_98, zb_48, zf_1_15, zf_1_22, zf_1_9, zi_1, zi_2, zi_3, g1]
      rw [nI_leI (by omega) (by omega), show nI j + 2 = nI (j + 2) from nI_add j 2, nI_1, nI_1]
      refine ⟨fun c1 => ?_, fun c1 => ⟨fun _ => ?_, fun c => absurd rfl c⟩⟩
      · have h0 : (m_app (m_rep k f1) s).length = 0 := by omega
        have hf1 : ∀ q, (m_app f1 q).length = 0 := by
          intro q
          have := m_app_rep_mono f1 s hk1
          rw [show m_rep 1 f1 = f1 from by simp [m_rep]] at this
          rw [m_app_len f1 q s]; omega
        have e1 := m_app_rep0 f1 hf1 (t - 48) s
        refine ⟨hf, Or.inl ⟨by rw [e1]; simp; omega, ?_, j + 2, hj, rfl, hjr⟩⟩
        obtain ⟨T, hT⟩ := hT1
        rw [e1, hT, m_spt_rep]
        rw [List.eq_nil_of_length_eq_zero h0] at hst
        exact hst
      · refine z_vi C dX1_readPart_84 lk_1_54 (hRT M2 (i + 1) (m_spt f1 s) _ (by omega) (m_app_lt f1 s hs hfo).2 hst hw) rfl g1 (fun v M3 hv => ?_)
        obtain ⟨hf3, hv⟩ := hv
        rw [hdn] at hv
        refine z_run C [52] 20 ?_
        simp only [z_x, z_n, z_stop, z_mem, z_ldi, z_lda, z_sto, z_s1, z_s2, z_sa, z_sv, z_br, z_bn, z_ob, z_ar, z_aq, z_al, z_rt, z_ra, z_at, z_st, z_K0i, z_K0v, zk_0, zk_1, zk_2, zk_3, z_lv, List.map_cons, List.map_nil, List.length_cons, List.length_nil, List.replicate, List.cons_append, List.nil_append, Nat.reduceAdd, Nat.reduceSub, Nat.reduceBEq, Nat.reduceEqDiff, Nat.reduceLT, Nat.reduceLeDiff, Nat.zero_add, Int.cast_ofNat_Int, Int.reduceAdd, Int.reduceNeg, Int.reduceToNat, Int.reduceLE, Int.zero_add, Int.toNat_zero, Int.add_zero, Int.add_neg_cancel_right, Fin.isValue, Int32.reduceOfInt, ↓reduceIte, Bool.false_eq_true, Bool.or_false, Bool.false_or, Bool.or_true, Bool.true_or, if_true, if_false, true_and, and_true, true_or, or_true, false_or, or_false, eq_self, and_self, z_up_i, Nat.add_left_cancel_iff, Nat.left_eq_add, Nat.add_eq_left, reduceCtorEq, Nat.add_one_ne_zero, z_tt, implies_true, zn_0, zn_1, zo_0, zo_1, dX1_readPart_0, dX1_readPart_1, dX1_readPart_2, dX1_readPart_5, dX1_readPart_6, dX1_readPart_9, dX1_readPart_12, dX1_readPart_13, dX1_readPart_14, dX1_readPart_17, dX1_readPart_20, dX1_readPart_21, dX1_readPart_22, dX1_readPart_23, dX1_readPart_24, dX1_readPart_25, dX1_readPart_26, dX1_readPart_27, dX1_readPart_28, dX1_readPart_31, dX1_readPart_33, dX1_readPart_34, dX1_readPart_37, dX1_readPart_39, dX1_readPart_40, dX1_readPart_41, dX1_readPart_44, dX1_readPart_46, dX1_readPart_47, dX1_readPart_49, dX1_readPart_50, dX1_readPart_52, dX1_readPart_54, dX1_readPart_56, dX1_readPart_59, dX1_readPart_60, dX1_readPart_63, dX1_readPart_66, dX1_readPart_67, dX1_readPart_70, dX1_readPart_71, dX1_readPart_74, dX1_readPart_77, dX1_readPart_78, dX1_readPart_79, dX1_readPart_80, dX1_readPart_81, dX1_readPart_82, dX1_readPart_83, dX1_readPart_84, dX1_readPart_87, dX1_readPart_88, dX1_readPart_91, dX1_readPart_94, dX1_readPart_96, dX1_readPart_97, dX1_readPart_98, zb_48, zf_1_15, zf_1_22, zf_1_9, zi_1, zi_2, zi_3]
        rw [nI_1]
        have e2 : m_rep (k + 1) f1 = m_rep k f1 ++ f1 := m_rep_s' k f1
        obtain ⟨K, hK⟩ : ∃ K, k = K + 1 := ⟨k - 1, by omega⟩
        have e3 : m_app (m_rep (k + 1) f1) s = m_app (m_rep k f1) s ++ m_app f1 (m_spt f1 s) := by
          rw [e2, m_app_app, hK, m_spt_rep]
        rcases hv with ⟨hv1, hv2, -⟩ | ⟨hv1, w2, s2, hv2⟩
        · refine ih (k + 1) M3 j (by omega) (by omega) (hf.tr hf3) ?_ ?_ hj hjr
          · rw [e3]; simp only [List.length_append] at hv1 ⊢; omega
          · rw [m_spt_idem] at hv2
            rw [e3, ← List.append_assoc]; exact hv2
        · refine fin1 ?_ M3 w2 s2 (hf.tr hf3) hv2 _ _ _
          have := m_app_rep_mono f1 s (show k + 1 ≤ t - 48 by omega)
          rw [e3] at this
          simp only [List.length_append] at hv1 this
          omega
  refine z_run C [] 5 ?_
  simp only [z_x, z_n, z_stop, z_mem, z_ldi, z_lda, z_sto, z_s1, z_s2, z_sa, z_sv, z_br, z_bn, z_ob, z_ar, z_aq, z_al, z_rt, z_ra, z_at, z_st, z_K0i, z_K0v, zk_0, zk_1, zk_2, zk_3, z_lv, List.map_cons, List.map_nil, List.length_cons, List.length_nil, List.replicate, List.cons_append, List.nil_append, Nat.reduceAdd, Nat.reduceSub, Nat.reduceBEq, Nat.reduceEqDiff, Nat.reduceLT, Nat.reduceLeDiff, Nat.zero_add, Int.cast_ofNat_Int, Int.reduceAdd, Int.reduceNeg, Int.reduceToNat, Int.reduceLE, Int.zero_add, Int.toNat_zero, Int.add_zero, Int.add_neg_cancel_right, Fin.isValue, Int32.reduceOfInt, ↓reduceIte, Bool.false_eq_true, Bool.or_false, Bool.false_or, Bool.or_true, Bool.true_or, if_true, if_false, true_and, and_true, true_or, or_true, false_or, or_false, eq_self, and_self, z_up_i, Nat.add_left_cancel_iff, Nat.left_eq_add, Nat.add_eq_left, reduceCtorEq, Nat.add_one_ne_zero, z_tt, implies_true, zn_0, zn_1, zo_0, zo_1, dX1_readPart_0, dX1_readPart_1, dX1_readPart_2, dX1_readPart_5, dX1_readPart_6, dX1_readPart_9, dX1_readPart_12, dX1_readPart_13, dX1_readPart_14, dX1_readPart_17, dX1_readPart_20, dX1_readPart_21, dX1_readPart_22, dX1_readPart_23, dX1_readPart_24, dX1_readPart_25, dX1_readPart_26, dX1_readPart_27, dX1_readPart_28, dX1_readPart_31, dX1_readPart_33, dX1_readPart_34, dX1_readPart_37, dX1_readPart_39, dX1_readPart_40, dX1_readPart_41, dX1_readPart_44, dX1_readPart_46, dX1_readPart_47, dX1_readPart_49, dX1_readPart_50, dX1_readPart_52, dX1_readPart_54, dX1_readPart_56, dX1_readPart_59, dX1_readPart_60, dX1_readPart_63, dX1_readPart_66, dX1_readPart_67, dX1_readPart_70, dX1_readPart_71, dX1_readPart_74, dX1_readPart_77, dX1_readPart_78, dX1_readPart_79, dX1_readPart_80, dX1_readPart_81, dX1_readPart_82, dX1_readPart_83, dX1_readPart_84, dX1_readPart_87, dX1_readPart_88, dX1_readPart_91, dX1_readPart_94, dX1_readPart_96, dX1_readPart_97, dX1_readPart_98, zb_48, zf_1_15, zf_1_22, zf_1_9, zi_1, zi_2, zi_3, h1]
  refine ⟨fun _ => ?_, fun c => absurd (nI_lt (b := 3) (by omega) (by omega)) c⟩
  refine z_vi C dX1_readPart_17 lk_1_26 (c_size h3) rfl h3.ob (fun v M2 hv => ?_)
  obtain ⟨rfl, rfl⟩ := hv
  simp only [List.length_map]
  refine z_run C [] 8 ?_
  simp only [z_x, z_n, z_stop, z_mem, z_ldi, z_lda, z_sto, z_s1, z_s2, z_sa, z_sv, z_br, z_bn, z_ob, z_ar, z_aq, z_al, z_rt, z_ra, z_at, z_st, z_K0i, z_K0v, zk_0, zk_1, zk_2, zk_3, z_lv, List.map_cons, List.map_nil, List.length_cons, List.length_nil, List.replicate, List.cons_append, List.nil_append, Nat.reduceAdd, Nat.reduceSub, Nat.reduceBEq, Nat.reduceEqDiff, Nat.reduceLT, Nat.reduceLeDiff, Nat.zero_add, Int.cast_ofNat_Int, Int.reduceAdd, Int.reduceNeg, Int.reduceToNat, Int.reduceLE, Int.zero_add, Int.toNat_zero, Int.add_zero, Int.add_neg_cancel_right, Fin.isValue, Int32.reduceOfInt, ↓reduceIte, Bool.false_eq_true, Bool.or_false, Bool.false_or, Bool.or_true, Bool.true_or, if_true, if_false, true_and, and_true, true_or, or_true, false_or, or_false, eq_self, and_self, z_up_i, Nat.add_left_cancel_iff, Nat.left_eq_add, Nat.add_eq_left, reduceCtorEq, Nat.add_one_ne_zero, z_tt, implies_true, zn_0, zn_1, zo_0, zo_1, dX1_readPart_0, dX1_readPart_1, dX1_readPart_2, dX1_readPart_5, dX1_readPart_6, dX1_readPart_9, dX1_readPart_12, dX1_readPart_13, dX1_readPart_14, dX1_readPart_17, dX1_readPart_20, dX1_readPart_21, dX1_readPart_22, dX1_readPart_23, dX1_readPart_24, dX1_readPart_25, dX1_readPart_26, dX1_readPart_27, dX1_readPart_28, dX1_readPart_31, dX1_readPart_33, dX1_readPart_34, dX1_readPart_37, dX1_readPart_39, dX1_readPart_40, dX1_readPart_41, dX1_readPart_44, dX1_readPart_46, dX1_readPart_47, dX1_readPart_49, dX1_readPart_50, dX1_readPart_52, dX1_readPart_54, dX1_readPart_56, dX1_readPart_59, dX1_readPart_60, dX1_readPart_63, dX1_readPart_66, dX1_readPart_67, dX1_readPart_70, dX1_readPart_71, dX1_readPart_74, dX1_readPart_77, dX1_readPart_78, dX1_readPart_79, dX1_readPart_80, dX1_readPart_81, dX1_readPart_82, dX1_readPart_83, dX1_readPart_84, dX1_readPart_87, dX1_readPart_88, dX1_readPart_91, dX1_readPart_94, dX1_readPart_96, dX1_readPart_97, dX1_readPart_98, zb_48, zf_1_15, zf_1_22, zf_1_9, zi_1, zi_2, zi_3]
  rw [nI_1, nI_1]
  refine z_vi C dX1_readPart_28 lk_1_54 (hRT M2 (i + 1) s w0 (by omega) hs h hw) rfl h1 (fun v M3 hv => ?_)
  obtain ⟨hf3, hv⟩ := hv
  rw [hdn] at hv
  rcases hv with ⟨hv1, hv2, j, hj1, rfl, hj2⟩ | ⟨hv1, w2, s2, hv2⟩
  · obtain ⟨g1, g2, g3⟩ := id hv2
    refine z_run C [] 10 ?_
    simp only [z_x, z_n, z_stop, z_mem, z_ldi, z_lda, z_sto, z_s1, z_s2, z_sa, z_sv, z_br, z_bn, z_ob, z_ar, z_aq, z_al, z_rt, z_ra, z_at, z_st, z_K0i, z_K0v, zk_0, zk_1, zk_2, zk_3, z_lv, List.map_cons, List.map_nil, List.length_cons, List.length_nil, List.replicate, List.cons_append, List.nil_append, Nat.reduceAdd, Nat.reduceSub, Nat.reduceBEq, Nat.reduceEqDiff, Nat.reduceLT, Nat.reduceLeDiff, Nat.zero_add, Int.cast_ofNat_Int, Int.reduceAdd, Int.reduceNeg, Int.reduceToNat, Int.reduceLE, Int.zero_add, Int.toNat_zero, Int.add_zero, Int.add_neg_cancel_right, Fin.isValue, Int32.reduceOfInt, ↓reduceIte, Bool.false_eq_true, Bool.or_false, Bool.false_or, Bool.or_true, Bool.true_or, if_true, if_false, true_and, and_true, true_or, or_true, false_or, or_false, eq_self, and_self, z_up_i, Nat.add_left_cancel_iff, Nat.left_eq_add, Nat.add_eq_left, reduceCtorEq, Nat.add_one_ne_zero, z_tt, implies_true, zn_0, zn_1, zo_0, zo_1, dX1_readPart_0, dX1_readPart_1, dX1_readPart_2, dX1_readPart_5, dX1_readPart_6, dX1_readPart_9, dX1_readPart_12, dX1_readPart_13, dX1_readPart_14, dX1_readPart_17, dX1_readPart_20, dX1_readPart_21, dX1_readPart_22, dX1_readPart_23, dX1_readPart_24, dX1_readPart_25, dX1_readPart_26, dX1_readPart_27, dX1_readPart_28, dX1_readPart_31, dX1_readPart_33, dX1_readPart_34, dX1_readPart_37, dX1_readPart_39, dX1_readPart_40, dX1_readPart_41, dX1_readPart_44, dX1_readPart_46, dX1_readPart_47, dX1_readPart_49, dX1_readPart_50, dX1_readPart_52, dX1_readPart_54, dX1_readPart_56, dX1_readPart_59, dX1_readPart_60, dX1_readPart_63, dX1_readPart_66, dX1_readPart_67, dX1_readPart_70, dX1_readPart_71, dX1_readPart_74, dX1_readPart_77, dX1_readPart_78, dX1_readPart_79, dX1_readPart_80, dX1_readPart_81, dX1_readPart_82, dX1_readPart_83, dX1_readPart_84, dX1_readPart_87, dX1_readPart_88, dX1_readPart_91, dX1_readPart_94, dX1_readPart_96, dX1_readPart_97, dX1_readPart_98, zb_48, zf_1_15, zf_1_22, zf_1_9, zi_1, zi_2, zi_3, g1]
    rw [nI_1]
    have hlj : 2 ≤ pad.length - j := by
      have := congrArg List.length hj2
      simp only [List.length_drop, List.length_cons] at this
      omega
    refine z_vi C dX1_readPart_41 lk_1_32 (c_get (nI (j + 1)) g2) rfl g2.ob (fun v M4 hv => ?_)
    obtain ⟨rfl, rfl⟩ := hv
    have hgt : pad.getD (j + 1) 0 = t := by
      have := congrArg (fun q => q.getD 1 0) hj2
      simpa [List.getD_eq_getElem?_getD, List.getElem?_drop] using this
    rw [z_getN (by omega) (by omega), hgt]
    refine z_run C [52] 10 ?_
    simp only [z_x, z_n, z_stop, z_mem, z_ldi, z_lda, z_sto, z_s1, z_s2, z_sa, z_sv, z_br, z_bn, z_ob, z_ar, z_aq, z_al, z_rt, z_ra, z_at, z_st, z_K0i, z_K0v, zk_0, zk_1, zk_2, zk_3, z_lv, List.map_cons, List.map_nil, List.length_cons, List.length_nil, List.replicate, List.cons_append, List.nil_append, Nat.reduceAdd, Nat.reduceSub, Nat.reduceBEq, Nat.reduceEqDiff, Nat.reduceLT, Nat.reduceLeDiff, Nat.zero_add, Int.cast_ofNat_Int, Int.reduceAdd, Int.reduceNeg, Int.reduceToNat, Int.reduceLE, Int.zero_add, Int.toNat_zero, Int.add_zero, Int.add_neg_cancel_right, Fin.isValue, Int32.reduceOfInt, ↓reduceIte, Bool.false_eq_true, Bool.or_false, Bool.false_or, Bool.or_true, Bool.true_or, if_true, if_false, true_and, and_true, true_or, or_true, false_or, or_false, eq_self, and_self, z_up_i, Nat.add_left_cancel_iff, Nat.left_eq_add, Nat.add_eq_left, reduceCtorEq, Nat.add_one_ne_zero, z_tt, implies_true, zn_0, zn_1, zo_0, zo_1, dX1_readPart_0, dX1_readPart_1, dX1_readPart_2, dX1_readPart_5, dX1_readPart_6, dX1_readPart_9, dX1_readPart_12, dX1_readPart_13, dX1_readPart_14, dX1_readPart_17, dX1_readPart_20, dX1_readPart_21, dX1_readPart_22, dX1_readPart_23, dX1_readPart_24, dX1_readPart_25, dX1_readPart_26, dX1_readPart_27, dX1_readPart_28, dX1_readPart_31, dX1_readPart_33, dX1_readPart_34, dX1_readPart_37, dX1_readPart_39, dX1_readPart_40, dX1_readPart_41, dX1_readPart_44, dX1_readPart_46, dX1_readPart_47, dX1_readPart_49, dX1_readPart_50, dX1_readPart_52, dX1_readPart_54, dX1_readPart_56, dX1_readPart_59, dX1_readPart_60, dX1_readPart_63, dX1_readPart_66, dX1_readPart_67, dX1_readPart_70, dX1_readPart_71, dX1_readPart_74, dX1_readPart_77, dX1_readPart_78, dX1_readPart_79, dX1_readPart_80, dX1_readPart_81, dX1_readPart_82, dX1_readPart_83, dX1_readPart_84, dX1_readPart_87, dX1_readPart_88, dX1_readPart_91, dX1_readPart_94, dX1_readPart_96, dX1_readPart_97, dX1_readPart_98, zb_48, zf_1_15, zf_1_22, zf_1_9, zi_1, zi_2, zi_3]
    rw [show nI t - 48 = nI (t - 48) from pk_sub (b := 48) (by omega)]
    have e1 : m_rep 1 f1 = f1 := by simp [m_rep]
    refine loop (t - 49) 1 M4 j (by omega) (by omega) hf3 (by rw [e1]; exact hv1) (by rw [e1]; exact hv2) (by omega) ?_
    have := congrArg (fun q => q.drop 2) hj2
    simpa [List.drop_drop] using this
  · obtain ⟨g1, g2, g3⟩ := id hv2
    refine z_run C [] 10 ?_
    simp only [z_x, z_n, z_stop, z_mem, z_ldi, z_lda, z_sto, z_s1, z_s2, z_sa, z_sv, z_br, z_bn, z_ob, z_ar, z_aq, z_al, z_rt, z_ra, z_at, z_st, z_K0i, z_K0v, zk_0, zk_1, zk_2, zk_3, z_lv, List.map_cons, List.map_nil, List.length_cons, List.length_nil, List.replicate, List.cons_append, List.nil_append, Nat.reduceAdd, Nat.reduceSub, Nat.reduceBEq, Nat.reduceEqDiff, Nat.reduceLT, Nat.reduceLeDiff, Nat.zero_add, Int.cast_ofNat_Int, Int.reduceAdd, Int.reduceNeg, Int.reduceToNat, Int.reduceLE, Int.zero_add, Int.toNat_zero, Int.add_zero, Int.add_neg_cancel_right, Fin.isValue, Int32.reduceOfInt, ↓reduceIte, Bool.false_eq_true, Bool.or_false, Bool.false_or, Bool.or_true, Bool.true_or, if_true, if_false, true_and, and_true, true_or, or_true, false_or, or_false, eq_self, and_self, z_up_i, Nat.add_left_cancel_iff, Nat.left_eq_add, Nat.add_eq_left, reduceCtorEq, Nat.add_one_ne_zero, z_tt, implies_true, zn_0, zn_1, zo_0, zo_1, dX1_readPart_0, dX1_readPart_1, dX1_readPart_2, dX1_readPart_5, dX1_readPart_6, dX1_readPart_9, dX1_readPart_12, dX1_readPart_13, dX1_readPart_14, dX1_readPart_17, dX1_readPart_20, dX1_readPart_21, dX1_readPart_22, dX1_readPart_23, dX1_readPart_24, dX1_readPart_25, dX1_readPart_26, dX1_readPart_27, dX1_readPart_28, dX1_readPart_31, dX1_readPart_33, dX1_readPart_34, dX1_readPart_37, dX1_readPart_39, dX1_readPart_40, dX1_readPart_41, dX1_readPart_44, dX1_readPart_46, dX1_readPart_47, dX1_readPart_49, dX1_readPart_50, dX1_readPart_52, dX1_readPart_54, dX1_readPart_56, dX1_readPart_59, dX1_readPart_60, dX1_readPart_63, dX1_readPart_66, dX1_readPart_67, dX1_readPart_70, dX1_readPart_71, dX1_readPart_74, dX1_readPart_77, dX1_readPart_78, dX1_readPart_79, dX1_readPart_80, dX1_readPart_81, dX1_readPart_82, dX1_readPart_83, dX1_readPart_84, dX1_readPart_87, dX1_readPart_88, dX1_readPart_91, dX1_readPart_94, dX1_readPart_96, dX1_readPart_97, dX1_readPart_98, zb_48, zf_1_15, zf_1_22, zf_1_9, zi_1, zi_2, zi_3, g1]
    refine z_vi C dX1_readPart_41 lk_1_32 (c_get (v + 1) g2) rfl g2.ob (fun v2 M4 hv => ?_)
    obtain ⟨rfl, rfl⟩ := hv
    refine z_run C [52] 10 ?_
    simp only [z_x, z_n, z_stop, z_mem, z_ldi, z_lda, z_sto, z_s1, z_s2, z_sa, z_sv, z_br, z_bn, z_ob, z_ar, z_aq, z_al, z_rt, z_ra, z_at, z_st, z_K0i, z_K0v, zk_0, zk_1, zk_2, zk_3, z_lv, List.map_cons, List.map_nil, List.length_cons, List.length_nil, List.replicate, List.cons_append, List.nil_append, Nat.reduceAdd, Nat.reduceSub, Nat.reduceBEq, Nat.reduceEqDiff, Nat.reduceLT, Nat.reduceLeDiff, Nat.zero_add, Int.cast_ofNat_Int, Int.reduceAdd, Int.reduceNeg, Int.reduceToNat, Int.reduceLE, Int.zero_add, Int.toNat_zero, Int.add_zero, Int.add_neg_cancel_right, Fin.isValue, Int32.reduceOfInt, ↓reduceIte, Bool.false_eq_true, Bool.or_false, Bool.false_or, Bool.or_true, Bool.true_or, if_true, if_false, true_and, and_true, true_or, or_true, false_or, or_false, eq_self, and_self, z_up_i, Nat.add_left_cancel_iff, Nat.left_eq_add, Nat.add_eq_left, reduceCtorEq, Nat.add_one_ne_zero, z_tt, implies_true, zn_0, zn_1, zo_0, zo_1, dX1_readPart_0, dX1_readPart_1, dX1_readPart_2, dX1_readPart_5, dX1_readPart_6, dX1_readPart_9, dX1_readPart_12, dX1_readPart_13, dX1_readPart_14, dX1_readPart_17, dX1_readPart_20, dX1_readPart_21, dX1_readPart_22, dX1_readPart_23, dX1_readPart_24, dX1_readPart_25, dX1_readPart_26, dX1_readPart_27, dX1_readPart_28, dX1_readPart_31, dX1_readPart_33, dX1_readPart_34, dX1_readPart_37, dX1_readPart_39, dX1_readPart_40, dX1_readPart_41, dX1_readPart_44, dX1_readPart_46, dX1_readPart_47, dX1_readPart_49, dX1_readPart_50, dX1_readPart_52, dX1_readPart_54, dX1_readPart_56, dX1_readPart_59, dX1_readPart_60, dX1_readPart_63, dX1_readPart_66, dX1_readPart_67, dX1_readPart_70, dX1_readPart_71, dX1_readPart_74, dX1_readPart_77, dX1_readPart_78, dX1_readPart_79, dX1_readPart_80, dX1_readPart_81, dX1_readPart_82, dX1_readPart_83, dX1_readPart_84, dX1_readPart_87, dX1_readPart_88, dX1_readPart_91, dX1_readPart_94, dX1_readPart_96, dX1_readPart_97, dX1_readPart_98, zb_48, zf_1_15, zf_1_22, zf_1_9, zi_1, zi_2, zi_3]
    refine fin1 ?_ M4 w2 s2 hf3 hv2 _ _ _
    have := m_app_rep_mono f1 s (show 1 ≤ t - 48 by omega)
    rw [show m_rep 1 f1 = f1 from by simp [m_rep]] at this
    dsimp only at hv1
    omega
end
section
set_option maxRecDepth 100000 in
set_option maxHeartbeats 4000000 in
theorem c_readTextS {l : Launch} {E : zE} {D dd b : Nat} {pad : List Nat} (hRP : dd < 3 → ∀ {M : zH} {i s t : Nat} {w0 f1 r : List Nat}, i < pad.length → s < 3 → z_rst M b pad w0 s 0 → m_wf (pad.drop (i + 1)) (dd + 1) false → m_dn (pad.drop (i + 1)) = (f1, 41 :: t :: r) → (49 ≤ t ∧ t ≤ 57) → m_flatok f1 → nX1_readPart l E (D + 4) [.ref (b + 46), .int (nI i), .int (nI dd)] M (z_i fun v M' => z_rp M M' b pad w0 s (m_rep (t - 48) f1) (∃ j, j ≤ pad.length ∧ v = nI j ∧ pad.drop j = r))) (hdd : dd ≤ 3) : z_RT l E (D + 5) dd b pad := by
  intro M i0 s w0 hi0 hs h hw0
  refine z_cn 1 fun P z C => ?_
  have hlen := h.len
  have fin1 : 60 < w0.length + (m_app (m_dn (pad.drop i0)).1 s).length → ∀ (M1 : zH) (w1 : List Nat) (s1 : Nat), z_fp M M1 (z_rA b) → z_rst M1 b pad w1 s1 1 → ∀ v3 : Int32, P (M1, z, 0, 0) 2 [some (.ref (b + 46)), some (.int (nI i0)), some (.int (nI dd)), some (.int v3)] [] := by
    intro hbig M1 w1 s1 hf hst v3
    obtain ⟨g1, g2, g3⟩ := id hst
    refine z_run C [] 3 ?_
    simp only [z_x, z_n, z_stop, z_mem, z_ldi, z_lda, z_sto, z_s1, z_s2, z_sa, z_sv, z_br, z_bn, z_ob, z_ar, z_aq, z_al, z_rt, z_ra, z_at, z_st, z_K0i, z_K0v, zk_0, zk_1, zk_2, zk_3, z_lv, List.map_cons, List.map_nil, List.length_cons, List.length_nil, List.replicate, List.cons_append, List.nil_append, Nat.reduceAdd, Nat.reduceSub, Nat.reduceBEq, Nat.reduceEqDiff, Nat.reduceLT, Nat.reduceLeDiff, Nat.zero_add, Int.cast_ofNat_Int, Int.reduceAdd, Int.reduceNeg, Int.reduceToNat, Int.reduceLE, Int.zero_add, Int.toNat_zero, Int.add_zero, Int.add_neg_cancel_right, Fin.isValue, Int32.reduceOfInt, ↓reduceIte, Bool.false_eq_true, Bool.or_false, Bool.false_or, Bool.or_true, Bool.true_or, if_true, if_false, true_and, and_true, true_or, or_true, false_or, or_false, eq_self, and_self, z_up_i, Nat.add_left_cancel_iff, Nat.left_eq_add, Nat.add_eq_left, reduceCtorEq, Nat.add_one_ne_zero, z_tt, implies_true, zn_0, zn_1, zo_0, zo_1, dX1_readText_0, dX1_readText_1, dX1_readText_2, dX1_readText_3, dX1_readText_4, dX1_readText_7, dX1_readText_10, dX1_readText_13, dX1_readText_14, dX1_readText_17, dX1_readText_20, dX1_readText_21, dX1_readText_24, dX1_readText_25, dX1_readText_28, dX1_readText_30, dX1_readText_33, dX1_readText_34, dX1_readText_37, dX1_readText_38, dX1_readText_41, dX1_readText_43, dX1_readText_46, dX1_readText_47, dX1_readText_48, dX1_readText_49, dX1_readText_50, dX1_readText_51, dX1_readText_52, dX1_readText_55, dX1_readText_58, dX1_readText_59, dX1_readText_62, dX1_readText_63, dX1_readText_64, dX1_readText_67, dX1_readText_68, dX1_readText_71, dX1_readText_74, dX1_readText_77, dX1_readText_80, dX1_readText_81, zb_40, zb_41, zf_1_22, zf_1_9, zi_1, g1]
    refine z_vi C dX1_readText_7 lk_1_26 (c_size g2) rfl g2.ob (fun v M2 hv => ?_)
    obtain ⟨rfl, rfl⟩ := hv
    refine z_run C [] 5 ?_
    simp only [z_x, z_n, z_stop, z_mem, z_ldi, z_lda, z_sto, z_s1, z_s2, z_sa, z_sv, z_br, z_bn, z_ob, z_ar, z_aq, z_al, z_rt, z_ra, z_at, z_st, z_K0i, z_K0v, zk_0, zk_1, zk_2, zk_3, z_lv, List.map_cons, List.map_nil, List.length_cons, List.length_nil, List.replicate, List.cons_append, List.nil_append, Nat.reduceAdd, Nat.reduceSub, Nat.reduceBEq, Nat.reduceEqDiff, Nat.reduceLT, Nat.reduceLeDiff, Nat.zero_add, Int.cast_ofNat_Int, Int.reduceAdd, Int.reduceNeg, Int.reduceToNat, Int.reduceLE, Int.zero_add, Int.toNat_zero, Int.add_zero, Int.add_neg_cancel_right, Fin.isValue, Int32.reduceOfInt, ↓reduceIte, Bool.false_eq_true, Bool.or_false, Bool.false_or, Bool.or_true, Bool.true_or, if_true, if_false, true_and, and_true, true_or, or_true, false_or, or_false, eq_self, and_self, z_up_i, Nat.add_left_cancel_iff, Nat.left_eq_add, Nat.add_eq_left, reduceCtorEq, Nat.add_one_ne_zero, z_tt, implies_true, zn_0, zn_1, zo_0, zo_1, dX1_readText_0, dX1_readText_1, dX1_readText_2, dX1_readText_3, dX1_readText_4, dX1_readText_7, dX1_readText_10, dX1_readText_13, dX1_readText_14, dX1_readText_17, dX1_readText_20, dX1_readText_21, dX1_readText_24, dX1_readText_25, dX1_readText_28, dX1_readText_30, dX1_readText_33, dX1_readText_34, dX1_readText_37, dX1_readText_38, dX1_readText_41, dX1_readText_43, dX1_readText_46, dX1_readText_47, dX1_readText_48, dX1_readText_49, dX1_readText_50, dX1_readText_51, dX1_readText_52, dX1_readText_55, dX1_readText_58, dX1_readText_59, dX1_readText_62, dX1_readText_63, dX1_readText_64, dX1_readText_67, dX1_readText_68, dX1_readText_71, dX1_readText_74, dX1_readText_77, dX1_readText_80, dX1_readText_81, zb_40, zb_41, zf_1_22, zf_1_9, zi_1, g1]
    refine ⟨fun _ => ⟨hf, Or.inr ⟨hbig, w1, s1, hst⟩⟩, fun _ => ⟨fun c => absurd c (by decide), fun _ => ?_⟩⟩
    refine z_run C [] 3 ?_
    simp only [z_x, z_n, z_stop, z_mem, z_ldi, z_lda, z_sto, z_s1, z_s2, z_sa, z_sv, z_br, z_bn, z_ob, z_ar, z_aq, z_al, z_rt, z_ra, z_at, z_st, z_K0i, z_K0v, zk_0, zk_1, zk_2, zk_3, z_lv, List.map_cons, List.map_nil, List.length_cons, List.length_nil, List.replicate, List.cons_append, List.nil_append, Nat.reduceAdd, Nat.reduceSub, Nat.reduceBEq, Nat.reduceEqDiff, Nat.reduceLT, Nat.reduceLeDiff, Nat.zero_add, Int.cast_ofNat_Int, Int.reduceAdd, Int.reduceNeg, Int.reduceToNat, Int.reduceLE, Int.zero_add, Int.toNat_zero, Int.add_zero, Int.add_neg_cancel_right, Fin.isValue, Int32.reduceOfInt, ↓reduceIte, Bool.false_eq_true, Bool.or_false, Bool.false_or, Bool.or_true, Bool.true_or, if_true, if_false, true_and, and_true, true_or, or_true, false_or, or_false, eq_self, and_self, z_up_i, Nat.add_left_cancel_iff, Nat.left_eq_add, Nat.add_eq_left, reduceCtorEq, Nat.add_one_ne_zero, z_tt, implies_true, zn_0, zn_1, zo_0, zo_1, dX1_readText_0, dX1_readText_1, dX1_readText_2, dX1_readText_3, dX1_readText_4, dX1_readText_7, dX1_readText_10, dX1_readText_13, dX1_readText_14, dX1_readText_17, dX1_readText_20, dX1_readText_21, dX1_readText_24, dX1_readText_25, dX1_readText_28, dX1_readText_30, dX1_readText_33, dX1_readText_34, dX1_readText_37, dX1_readText_38, dX1_readText_41, dX1_readText_43, dX1_readText_46, dX1_readText_47, dX1_readText_48, dX1_readText_49, dX1_readText_50, dX1_readText_51, dX1_readText_52, dX1_readText_55, dX1_readText_58, dX1_readText_59, dX1_readText_62, dX1_readText_63, dX1_readText_64, dX1_readText_67, dX1_readText_68, dX1_readText_71, dX1_readText_74, dX1_readText_77, dX1_readText_80, dX1_readText_81, zb_40, zb_41, zf_1_22, zf_1_9, zi_1]
    exact ⟨hf, Or.inr ⟨hbig, w1, s1, hst⟩⟩
  have loop : ∀ (n i : Nat) (M1 : zH) (g : List Nat), pad.length - i ≤ n → i ≤ pad.length → m_flatok g → (m_dn (pad.drop i0)).1 = g ++ (m_dn (pad.drop i)).1 → (m_dn (pad.drop i0)).2 = (m_dn (pad.drop i)).2 → z_fp M M1 (z_rA b) → w0.length + (m_app g s).length ≤ 60 → z_rst M1 b pad (w0 ++ m_app g s) (m_spt g s) 0 → m_wf (pad.drop i) dd false → P (M1, z, 0, 0) 2 [some (.ref (b + 46)), some (.int (nI i0)), some (.int (nI dd)), some (.int (nI i))] [] := by
    intro n
    induction n with
    | zero =>
      intro i M1 g hn hi hgo hd1 hd2 hf hfit hst hw
      obtain ⟨g1, g2, g3⟩ := id hst
      have ei : pad.drop i = [] := List.drop_of_length_le (by omega)
      rw [ei, m_dn_nil] at hd1 hd2
      simp only [List.append_nil] at hd1
      refine z_run C [] 3 ?_
      simp only [z_x, z_n, z_stop, z_mem, z_ldi, z_lda, z_sto, z_s1, z_s2, z_sa, z_sv, z_br, z_bn, z_ob, z_ar, z_aq, z_al, z_rt, z_ra, z_at, z_st, z_K0i, z_K0v, zk_0, zk_1, zk_2, zk_3, z_lv, List.map_cons, List.map_nil, List.length_cons, List.length_nil, List.replicate, List.cons_append, List.nil_append, Nat.reduceAdd, Nat.reduceSub, Nat.reduceBEq, Nat.reduceEqDiff, Nat.reduceLT, Nat.reduceLeDiff, Nat.zero_add, Int.cast_ofNat_Int, Int.reduceAdd, Int.reduceNeg, Int.reduceToNat, Int.reduceLE, Int.zero_add, Int.toNat_zero, Int.add_zero, Int.add_neg_cancel_right, Fin.isValue, Int32.reduceOfInt, ↓reduceIte, Bool.false_eq_true, Bool.or_false, Bool.false_or, Bool.or_true, Bool.true_or, if_true, if_false, true_and, and_true, true_or, or_true, false_or, or_false, eq_self, and_self, z_up_i, Nat.add_left_cancel_iff, Nat.left_eq_add, Nat.add_eq_left, reduceCtorEq, Nat.add_one_ne_zero, z_tt, implies_true, zn_0, zn_1, zo_0, zo_1, dX1_readText_0, dX1_readText_1, dX1_readText_2, dX1_readText_3, dX1_readText_4, dX1_readText_7, dX1_readText_10, dX1_readText_13, dX1_readText_14, dX1_readText_17, dX1_readText_20, dX1_readText_21, dX1_readText_24, dX1_readText_25, dX1_readText_28, dX1_readText_30, dX1_readText_33, dX1_readText_34, dX1_readText_37, dX1_readText_38, dX1_readText_41, dX1_readText_43, dX1_readText_46, dX1_readText_47, dX1_readText_48, dX1_readText_49, dX1_readText_50, dX1_readText_51, dX1_readText_52, dX1_readText_55, dX1_readText_58, dX1_readText_59, dX1_readText_62, dX1_readText_63, dX1_readText_64, dX1_readText_67, dX1_readText_68, dX1_readText_71, dX1_readText_74, dX1_readText_77, dX1_readText_80, dX1_readText_81, zb_40, zb_41, zf_1_22, zf_1_9, zi_1, g1]
      refine z_vi C dX1_readText_7 lk_1_26 (c_size g2) rfl g2.ob (fun v M2 hv => ?_)
      obtain ⟨rfl, rfl⟩ := hv
      simp only [List.length_map]
      refine z_run C [] 5 ?_
      simp only [z_x, z_n, z_stop, z_mem, z_ldi, z_lda, z_sto, z_s1, z_s2, z_sa, z_sv, z_br, z_bn, z_ob, z_ar, z_aq, z_al, z_rt, z_ra, z_at, z_st, z_K0i, z_K0v, zk_0, zk_1, zk_2, zk_3, z_lv, List.map_cons, List.map_nil, List.length_cons, List.length_nil, List.replicate, List.cons_append, List.nil_append, Nat.reduceAdd, Nat.reduceSub, Nat.reduceBEq, Nat.reduceEqDiff, Nat.reduceLT, Nat.reduceLeDiff, Nat.zero_add, Int.cast_ofNat_Int, Int.reduceAdd, Int.reduceNeg, Int.reduceToNat, Int.reduceLE, Int.zero_add, Int.toNat_zero, Int.add_zero, Int.add_neg_cancel_right, Fin.isValue, Int32.reduceOfInt, ↓reduceIte, Bool.false_eq_true, Bool.or_false, Bool.false_or, Bool.or_true, Bool.true_or, if_true, if_false, true_and, and_true, true_or, or_true, false_or, or_false, eq_self, and_self, z_up_i, Nat.add_left_cancel_iff, Nat.left_eq_add, Nat.add_eq_left, reduceCtorEq, Nat.add_one_ne_zero, z_tt, implies_true, zn_0, zn_1, zo_0, zo_1, dX1_readText_0, dX1_readText_1, dX1_readText_2, dX1_readText_3, dX1_readText_4, dX1_readText_7, dX1_readText_10, dX1_readText_13, dX1_readText_14, dX1_readText_17, dX1_readText_20, dX1_readText_21, dX1_readText_24, dX1_readText_25, dX1_readText_28, dX1_readText_30, dX1_readText_33, dX1_readText_34, dX1_readText_37, dX1_readText_38, dX1_readText_41, dX1_readText_43, dX1_readText_46, dX1_readText_47, dX1_readText_48, dX1_readText_49, dX1_readText_50, dX1_readText_51, dX1_readText_52, dX1_readText_55, dX1_readText_58, dX1_readText_59, dX1_readText_62, dX1_readText_63, dX1_readText_64, dX1_readText_67, dX1_readText_68, dX1_readText_71, dX1_readText_74, dX1_readText_77, dX1_readText_80, dX1_readText_81, zb_40, zb_41, zf_1_22, zf_1_9, zi_1, g1]
      refine ⟨fun _ => ⟨hf, Or.inl ⟨by rw [hd1]; exact hfit, by rw [hd1]; exact hst, i, hi, rfl, by rw [hd2, ei]⟩⟩, fun c1 => absurd (nI_le (by omega) (by omega)) c1⟩
    | succ n ih =>
      intro i M1 g hn hi hgo hd1 hd2 hf hfit hst hw
      by_cases hend : i = pad.length
      · exact ih i M1 g (by omega) hi hgo hd1 hd2 hf hfit hst hw
      obtain ⟨g1, g2, g3⟩ := id hst
      have hdr : pad.drop i = pad.getD i 0 :: pad.drop (i + 1) := by
        rw [List.drop_eq_getElem_cons (by omega)]; simp [show i < pad.length by omega]
      have hgI : z_get (pad.map nI) (nI i) = nI (pad.getD i 0) := z_getN (by omega) (by omega)
      generalize pad.getD i 0 = c at hdr hgI
      rw [hdr] at hw
      obtain ⟨hok, hw1⟩ := hw
      have hc128 : c < 128 := by
        simp only [m_ok] at hok
        simp at hok
        split at hok
        · omega
        · split at hok
          · omega
          · unfold m_isS m_isK at hok; omega
      refine z_run C [] 3 ?_
      simp only [z_x, z_n, z_stop, z_mem, z_ldi, z_lda, z_sto, z_s1, z_s2, z_sa, z_sv, z_br, z_bn, z_ob, z_ar, z_aq, z_al, z_rt, z_ra, z_at, z_st, z_K0i, z_K0v, zk_0, zk_1, zk_2, zk_3, z_lv, List.map_cons, List.map_nil, List.length_cons, List.length_nil, List.replicate, List.cons_append, List.nil_append, Nat.reduceAdd, Nat.reduceSub, Nat.reduceBEq, Nat.reduceEqDiff, Nat.reduceLT, Nat.reduceLeDiff, Nat.zero_add, Int.cast_ofNat_Int, Int.reduceAdd, Int.reduceNeg, Int.reduceToNat, Int.reduceLE, Int.zero_add, Int.toNat_zero, Int.add_zero, Int.add_neg_cancel_right, Fin.isValue, Int32.reduceOfInt, ↓reduceIte, Bool.false_eq_true, Bool.or_false, Bool.false_or, Bool.or_true, Bool.true_or, if_true, if_false, true_and, and_true, true_or, or_true, false_or, or_false, eq_self, and_self, z_up_i, Nat.add_left_cancel_iff, Nat.left_eq_add, Nat.add_eq_left, reduceCtorEq, Nat.add_one_ne_zero, z_tt, implies_true, zn_0, zn_1, zo_0, zo_1, dX1_readText_0, dX1_readText_1, dX1_readText_2, dX1_readText_3, dX1_readText_4, dX1_readText_7, dX1_readText_10, dX1_readText_13, dX1_readText_14, dX1_readText_17, dX1_readText_20, dX1_readText_21, dX1_readText_24, dX1_readText_25, dX1_readText_28, dX1_readText_30, dX1_readText_33, dX1_readText_34, dX1_readText_37, dX1_readText_38, dX1_readText_41, dX1_readText_43, dX1_readText_46, dX1_readText_47, dX1_readText_48, dX1_readText_49, dX1_readText_50, dX1_readText_51, dX1_readText_52, dX1_readText_55, dX1_readText_58, dX1_readText_59, dX1_readText_62, dX1_readText_63, dX1_readText_64, dX1_readText_67, dX1_readText_68, dX1_readText_71, dX1_readText_74, dX1_readText_77, dX1_readText_80, dX1_readText_81, zb_40, zb_41, zf_1_22, zf_1_9, zi_1, g1]
      refine z_vi C dX1_readText_7 lk_1_26 (c_size g2) rfl g2.ob (fun v M2 hv => ?_)
      obtain ⟨rfl, rfl⟩ := hv
      simp only [List.length_map]
      refine z_run C [] 6 ?_
      simp only [z_x, z_n, z_stop, z_mem, z_ldi, z_lda, z_sto, z_s1, z_s2, z_sa, z_sv, z_br, z_bn, z_ob, z_ar, z_aq, z_al, z_rt, z_ra, z_at, z_st, z_K0i, z_K0v, zk_0, zk_1, zk_2, zk_3, z_lv, List.map_cons, List.map_nil, List.length_cons, List.length_nil, List.replicate, List.cons_append, List.nil_append, Nat.reduceAdd, Nat.reduceSub, Nat.reduceBEq, Nat.reduceEqDiff, Nat.reduceLT, Nat.reduceLeDiff, Nat.zero_add, Int.cast_ofNat_Int, Int.reduceAdd, Int.reduceNeg, Int.reduceToNat, Int.reduceLE, Int.zero_add, Int.toNat_zero, Int.add_zero, Int.add_neg_cancel_right, Fin.isValue, Int32.reduceOfInt, ↓reduceIte, Bool.false_eq_true, Bool.or_false, Bool.false_or, Bool.or_true, Bool.true_or, if_true, if_false, true_and, and_true, true_or, or_true, false_or, or_false, eq_self, and_self, z_up_i, Nat.add_left_cancel_iff, Nat.left_eq_add, Nat.add_eq_left, reduceCtorEq, Nat.add_one_ne_zero, z_tt, implies_true, zn_0, zn_1, zo_0, zo_1, dX1_readText_0, dX1_readText_1, dX1_readText_2, dX1_readText_3, dX1_readText_4, dX1_readText_7, dX1_readText_10, dX1_readText_13, dX1_readText_14, dX1_readText_17, dX1_readText_20, dX1_readText_21, dX1_readText_24, dX1_readText_25, dX1_readText_28, dX1_readText_30, dX1_readText_33, dX1_readText_34, dX1_readText_37, dX1_readText_38, dX1_readText_41, dX1_readText_43, dX1_readText_46, dX1_readText_47, dX1_readText_48, dX1_readText_49, dX1_readText_50, dX1_readText_51, dX1_readText_52, dX1_readText_55, dX1_readText_58, dX1_readText_59, dX1_readText_62, dX1_readText_63, dX1_readText_64, dX1_readText_67, dX1_readText_68, dX1_readText_71, dX1_readText_74, dX1_readText_77, dX1_readText_80, dX1_readText_81, zb_40, zb_41, zf_1_22, zf_1_9, zi_1, g1]
      refine ⟨fun c1 => absurd ((nI_leI (by omega) (by omega)).mp c1) (by omega), fun _ => ⟨fun _ => ?_, fun c => absurd rfl c⟩⟩
      refine z_run C [] 3 ?_
      simp only [z_x, z_n, z_stop, z_mem, z_ldi, z_lda, z_sto, z_s1, z_s2, z_sa, z_sv, z_br, z_bn, z_ob, z_ar, z_aq, z_al, z_rt, z_ra, z_at, z_st, z_K0i, z_K0v, zk_0, zk_1, zk_2, zk_3, z_lv, List.map_cons, List.map_nil, List.length_cons, List.length_nil, List.replicate, List.cons_append, List.nil_append, Nat.reduceAdd, Nat.reduceSub, Nat.reduceBEq, Nat.reduceEqDiff, Nat.reduceLT, Nat.reduceLeDiff, Nat.zero_add, Int.cast_ofNat_Int, Int.reduceAdd, Int.reduceNeg, Int.reduceToNat, Int.reduceLE, Int.zero_add, Int.toNat_zero, Int.add_zero, Int.add_neg_cancel_right, Fin.isValue, Int32.reduceOfInt, ↓reduceIte, Bool.false_eq_true, Bool.or_false, Bool.false_or, Bool.or_true, Bool.true_or, if_true, if_false, true_and, and_true, true_or, or_true, false_or, or_false, eq_self, and_self, z_up_i, Nat.add_left_cancel_iff, Nat.left_eq_add, Nat.add_eq_left, reduceCtorEq, Nat.add_one_ne_zero, z_tt, implies_true, zn_0, zn_1, zo_0, zo_1, dX1_readText_0, dX1_readText_1, dX1_readText_2, dX1_readText_3, dX1_readText_4, dX1_readText_7, dX1_readText_10, dX1_readText_13, dX1_readText_14, dX1_readText_17, dX1_readText_20, dX1_readText_21, dX1_readText_24, dX1_readText_25, dX1_readText_28, dX1_readText_30, dX1_readText_33, dX1_readText_34, dX1_readText_37, dX1_readText_38, dX1_readText_41, dX1_readText_43, dX1_readText_46, dX1_readText_47, dX1_readText_48, dX1_readText_49, dX1_readText_50, dX1_readText_51, dX1_readText_52, dX1_readText_55, dX1_readText_58, dX1_readText_59, dX1_readText_62, dX1_readText_63, dX1_readText_64, dX1_readText_67, dX1_readText_68, dX1_readText_71, dX1_readText_74, dX1_readText_77, dX1_readText_80, dX1_readText_81, zb_40, zb_41, zf_1_22, zf_1_9, zi_1, g1]
      refine z_vi C dX1_readText_25 lk_1_32 (c_get (nI i) g2) rfl g2.ob (fun v M2 hv => ?_)
      obtain ⟨rfl, rfl⟩ := hv
      rw [hgI]
      refine z_run C [] 6 ?_
      simp only [z_x, z_n, z_stop, z_mem, z_ldi, z_lda, z_sto, z_s1, z_s2, z_sa, z_sv, z_br, z_bn, z_ob, z_ar, z_aq, z_al, z_rt, z_ra, z_at, z_st, z_K0i, z_K0v, zk_0, zk_1, zk_2, zk_3, z_lv, List.map_cons, List.map_nil, List.length_cons, List.length_nil, List.replicate, List.cons_append, List.nil_append, Nat.reduceAdd, Nat.reduceSub, Nat.reduceBEq, Nat.reduceEqDiff, Nat.reduceLT, Nat.reduceLeDiff, Nat.zero_add, Int.cast_ofNat_Int, Int.reduceAdd, Int.reduceNeg, Int.reduceToNat, Int.reduceLE, Int.zero_add, Int.toNat_zero, Int.add_zero, Int.add_neg_cancel_right, Fin.isValue, Int32.reduceOfInt, ↓reduceIte, Bool.false_eq_true, Bool.or_false, Bool.false_or, Bool.or_true, Bool.true_or, if_true, if_false, true_and, and_true, true_or, or_true, false_or, or_false, eq_self, and_self, z_up_i, Nat.add_left_cancel_iff, Nat.left_eq_add, Nat.add_eq_left, reduceCtorEq, Nat.add_one_ne_zero, z_tt, implies_true, zn_0, zn_1, zo_0, zo_1, dX1_readText_0, dX1_readText_1, dX1_readText_2, dX1_readText_3, dX1_readText_4, dX1_readText_7, dX1_readText_10, dX1_readText_13, dX1_readText_14, dX1_readText_17, dX1_readText_20, dX1_readText_21, dX1_readText_24, dX1_readText_25, dX1_readText_28, dX1_readText_30, dX1_readText_33, dX1_readText_34, dX1_readText_37, dX1_readText_38, dX1_readText_41, dX1_readText_43, dX1_readText_46, dX1_readText_47, dX1_readText_48, dX1_readText_49, dX1_readText_50, dX1_readText_51, dX1_readText_52, dX1_readText_55, dX1_readText_58, dX1_readText_59, dX1_readText_62, dX1_readText_63, dX1_readText_64, dX1_readText_67, dX1_readText_68, dX1_readText_71, dX1_readText_74, dX1_readText_77, dX1_readText_80, dX1_readText_81, zb_40, zb_41, zf_1_22, zf_1_9, zi_1, g1]
      rw [show (nI c = 41) = (c = 41) from propext (z_eqn 41 (by omega) (by omega))]
      refine ⟨fun c1 => ?_, fun c1 => ?_⟩
      · subst c1
        rw [hdr, m_dn_close] at hd1 hd2
        simp only [List.append_nil] at hd1
        exact ⟨hf, Or.inl ⟨by rw [hd1]; exact hfit, by rw [hd1]; exact hst, i, hi, rfl, by rw [hd2, hdr]⟩⟩
      · refine z_vi C dX1_readText_38 lk_1_32 (c_get (nI i) g2) rfl g2.ob (fun v M2 hv => ?_)
        obtain ⟨rfl, rfl⟩ := hv
        rw [hgI]
        refine z_run C [] 8 ?_
        simp only [z_x, z_n, z_stop, z_mem, z_ldi, z_lda, z_sto, z_s1, z_s2, z_sa, z_sv, z_br, z_bn, z_ob, z_ar, z_aq, z_al, z_rt, z_ra, z_at, z_st, z_K0i, z_K0v, zk_0, zk_1, zk_2, zk_3, z_lv, List.map_cons, List.map_nil, List.length_cons, List.length_nil, List.replicate, List.cons_append, List.nil_append, Nat.reduceAdd, Nat.reduceSub, Nat.reduceBEq, Nat.reduceEqDiff, Nat.reduceLT, Nat.reduceLeDiff, Nat.zero_add, Int.cast_ofNat_Int, Int.reduceAdd, Int.reduceNeg, Int.reduceToNat, Int.reduceLE, Int.zero_add, Int.toNat_zero, Int.add_zero, Int.add_neg_cancel_right, Fin.isValue, Int32.reduceOfInt, ↓reduceIte, Bool.false_eq_true, Bool.or_false, Bool.false_or, Bool.or_true, Bool.true_or, if_true, if_false, true_and, and_true, true_or, or_true, false_or, or_false, eq_self, and_self, z_up_i, Nat.add_left_cancel_iff, Nat.left_eq_add, Nat.add_eq_left, reduceCtorEq, Nat.add_one_ne_zero, z_tt, implies_true, zn_0, zn_1, zo_0, zo_1, dX1_readText_0, dX1_readText_1, dX1_readText_2, dX1_readText_3, dX1_readText_4, dX1_readText_7, dX1_readText_10, dX1_readText_13, dX1_readText_14, dX1_readText_17, dX1_readText_20, dX1_readText_21, dX1_readText_24, dX1_readText_25, dX1_readText_28, dX1_readText_30, dX1_readText_33, dX1_readText_34, dX1_readText_37, dX1_readText_38, dX1_readText_41, dX1_readText_43, dX1_readText_46, dX1_readText_47, dX1_readText_48, dX1_readText_49, dX1_readText_50, dX1_readText_51, dX1_readText_52, dX1_readText_55, dX1_readText_58, dX1_readText_59, dX1_readText_62, dX1_readText_63, dX1_readText_64, dX1_readText_67, dX1_readText_68, dX1_readText_71, dX1_readText_74, dX1_readText_77, dX1_readText_80, dX1_readText_81, zb_40, zb_41, zf_1_22, zf_1_9, zi_1, g1]
        rw [show (nI c = 40) = (c = 40) from propext (z_eqn 40 (by omega) (by omega))]
        refine ⟨fun c2 => ?_, fun c2 => ?_⟩
        · subst c2
          simp [m_ok, m_opn] at hok hw1
          obtain ⟨i1, i2⟩ := m_dn_wf pad.length (pad.drop (i + 1)) (dd + 1) (by rw [List.length_drop]; omega) hw1
          rcases i2 with ⟨i2, -⟩ | ⟨-, t, r, e1, e2, e3, e4, p2, e5⟩
          · omega
          have e6 : m_dn (pad.drop (i + 1)) = ((m_dn (pad.drop (i + 1))).1, 41 :: t :: r) := by rw [← e1]
          simp only [Nat.add_sub_cancel] at e4
          refine z_vi C dX1_readText_52 lk_1_58 (hRP hok (by omega) (m_app_lt g s hs hgo).2 hst hw1 e6 ⟨e2, e3⟩ i1) rfl g1 (fun v M3 hv => ?_)
          obtain ⟨hf3, hv⟩ := hv
          refine z_mx C dX1_readText_55 lk_1_61 ?_
          refine z_run C [2] 3 ?_
          simp only [z_x, z_n, z_stop, z_mem, z_ldi, z_lda, z_sto, z_s1, z_s2, z_sa, z_sv, z_br, z_bn, z_ob, z_ar, z_aq, z_al, z_rt, z_ra, z_at, z_st, z_K0i, z_K0v, zk_0, zk_1, zk_2, zk_3, z_lv, List.map_cons, List.map_nil, List.length_cons, List.length_nil, List.replicate, List.cons_append, List.nil_append, Nat.reduceAdd, Nat.reduceSub, Nat.reduceBEq, Nat.reduceEqDiff, Nat.reduceLT, Nat.reduceLeDiff, Nat.zero_add, Int.cast_ofNat_Int, Int.reduceAdd, Int.reduceNeg, Int.reduceToNat, Int.reduceLE, Int.zero_add, Int.toNat_zero, Int.add_zero, Int.add_neg_cancel_right, Fin.isValue, Int32.reduceOfInt, ↓reduceIte, Bool.false_eq_true, Bool.or_false, Bool.false_or, Bool.or_true, Bool.true_or, if_true, if_false, true_and, and_true, true_or, or_true, false_or, or_false, eq_self, and_self, z_up_i, Nat.add_left_cancel_iff, Nat.left_eq_add, Nat.add_eq_left, reduceCtorEq, Nat.add_one_ne_zero, z_tt, implies_true, zn_0, zn_1, zo_0, zo_1, dX1_readText_0, dX1_readText_1, dX1_readText_2, dX1_readText_3, dX1_readText_4, dX1_readText_7, dX1_readText_10, dX1_readText_13, dX1_readText_14, dX1_readText_17, dX1_readText_20, dX1_readText_21, dX1_readText_24, dX1_readText_25, dX1_readText_28, dX1_readText_30, dX1_readText_33, dX1_readText_34, dX1_readText_37, dX1_readText_38, dX1_readText_41, dX1_readText_43, dX1_readText_46, dX1_readText_47, dX1_readText_48, dX1_readText_49, dX1_readText_50, dX1_readText_51, dX1_readText_52, dX1_readText_55, dX1_readText_58, dX1_readText_59, dX1_readText_62, dX1_readText_63, dX1_readText_64, dX1_readText_67, dX1_readText_68, dX1_readText_71, dX1_readText_74, dX1_readText_77, dX1_readText_80, dX1_readText_81, zb_40, zb_41, zf_1_22, zf_1_9, zi_1]
          rw [hdr, m_dn_open _ e6] at hd1 hd2
          dsimp only at hd1 hd2
          rcases hv with ⟨hv1, hv2, j, hj1, rfl, hj2⟩ | ⟨hv1, w2, s2, hv2⟩
          · have hij : i + 1 < j := by
              have l1 := congrArg List.length hj2
              have l2 := congrArg List.length e5
              simp only [List.length_drop, List.length_append, List.length_cons] at l1 l2
              omega
            rw [nI_1, show (if nI (i + 1) < nI j then nI j else nI (i + 1)) = nI j from by rw [if_pos (nI_lt hij (by omega))]]
            refine ih j M3 (g ++ m_rep (t - 48) (m_dn (pad.drop (i + 1))).1) (by omega) hj1 ?_ ?_ ?_ (hf.tr hf3) ?_ ?_ (by rw [hj2]; exact e4)
            · intro a ha
              rcases List.mem_append.mp ha with ha | ha
              · exact hgo a ha
              · exact m_flatok_rep i1 _ a ha
            · rw [hd1, hj2, List.append_assoc]
            · rw [hd2, hj2]
            · rw [m_app_app]; simp only [List.length_append] at hv1 ⊢; omega
            · rw [m_app_app, m_spt_app, ← List.append_assoc]; exact hv2
          · refine fin1 ?_ M3 w2 s2 (hf.tr hf3) hv2 _
            rw [hd1, ← List.append_assoc, m_app_app, m_app_app]
            simp only [List.length_append] at hv1 ⊢
            omega
        · refine z_vi C dX1_readText_68 lk_1_32 (c_get (nI i) g2) rfl g2.ob (fun v M2 hv => ?_)
          obtain ⟨rfl, rfl⟩ := hv
          rw [hgI]
          simp [m_ok, m_opn, c1, c2] at hok hw1
          rw [show (c == 41) = false from by simp [c1]] at hw1
          refine z_vv C dX1_readText_71 lk_1_66 (c_readSign c hok hst) rfl g1 (fun M3 hv => ?_)
          obtain ⟨hf3, hv⟩ := hv
          refine z_run C [2] 3 ?_
          simp only [z_x, z_n, z_stop, z_mem, z_ldi, z_lda, z_sto, z_s1, z_s2, z_sa, z_sv, z_br, z_bn, z_ob, z_ar, z_aq, z_al, z_rt, z_ra, z_at, z_st, z_K0i, z_K0v, zk_0, zk_1, zk_2, zk_3, z_lv, List.map_cons, List.map_nil, List.length_cons, List.length_nil, List.replicate, List.cons_append, List.nil_append, Nat.reduceAdd, Nat.reduceSub, Nat.reduceBEq, Nat.reduceEqDiff, Nat.reduceLT, Nat.reduceLeDiff, Nat.zero_add, Int.cast_ofNat_Int, Int.reduceAdd, Int.reduceNeg, Int.reduceToNat, Int.reduceLE, Int.zero_add, Int.toNat_zero, Int.add_zero, Int.add_neg_cancel_right, Fin.isValue, Int32.reduceOfInt, ↓reduceIte, Bool.false_eq_true, Bool.or_false, Bool.false_or, Bool.or_true, Bool.true_or, if_true, if_false, true_and, and_true, true_or, or_true, false_or, or_false, eq_self, and_self, z_up_i, Nat.add_left_cancel_iff, Nat.left_eq_add, Nat.add_eq_left, reduceCtorEq, Nat.add_one_ne_zero, z_tt, implies_true, zn_0, zn_1, zo_0, zo_1, dX1_readText_0, dX1_readText_1, dX1_readText_2, dX1_readText_3, dX1_readText_4, dX1_readText_7, dX1_readText_10, dX1_readText_13, dX1_readText_14, dX1_readText_17, dX1_readText_20, dX1_readText_21, dX1_readText_24, dX1_readText_25, dX1_readText_28, dX1_readText_30, dX1_readText_33, dX1_readText_34, dX1_readText_37, dX1_readText_38, dX1_readText_41, dX1_readText_43, dX1_readText_46, dX1_readText_47, dX1_readText_48, dX1_readText_49, dX1_readText_50, dX1_readText_51, dX1_readText_52, dX1_readText_55, dX1_readText_58, dX1_readText_59, dX1_readText_62, dX1_readText_63, dX1_readText_64, dX1_readText_67, dX1_readText_68, dX1_readText_71, dX1_readText_74, dX1_readText_77, dX1_readText_80, dX1_readText_81, zb_40, zb_41, zf_1_22, zf_1_9, zi_1]
          rw [nI_1]
          rw [hdr, m_dn_basic _ c1 c2] at hd1 hd2
          dsimp only at hd1 hd2
          have e7 : g ++ c :: (m_dn (pad.drop (i + 1))).1 = (g ++ [c]) ++ (m_dn (pad.drop (i + 1))).1 := by simp
          rcases hv with ⟨hv1, hv2, -⟩ | ⟨hv1, w2, s2, hv2⟩
          · refine ih (i + 1) M3 (g ++ [c]) (by omega) (by omega) ?_ (by rw [hd1, e7]) hd2 (hf.tr hf3) ?_ ?_ hw1
            · intro a ha
              rcases List.mem_append.mp ha with ha | ha
              · exact hgo a ha
              · rw [List.mem_singleton.mp ha]; exact hok
            · rw [m_app_app]; simp only [List.length_append] at hv1 ⊢; omega
            · rw [m_app_app, m_spt_app, ← List.append_assoc]; exact hv2
          · refine fin1 ?_ M3 w2 s2 (hf.tr hf3) hv2 _
            rw [hd1, e7, m_app_app, m_app_app]
            simp only [List.length_append] at hv1 ⊢
            omega
  refine z_run C [2] 3 ?_
  simp only [z_x, z_n, z_stop, z_mem, z_ldi, z_lda, z_sto, z_s1, z_s2, z_sa, z_sv, z_br, z_bn, z_ob, z_ar, z_aq, z_al, z_rt, z_ra, z_at, z_st, z_K0i, z_K0v, zk_0, zk_1, zk_2, zk_3, z_lv, List.map_cons, List.map_nil, List.length_cons, List.length_nil, List.replicate, List.cons_append, List.nil_append, Nat.reduceAdd, Nat.reduceSub, Nat.reduceBEq, Nat.reduceEqDiff, Nat.reduceLT, Nat.reduceLeDiff, Nat.zero_add, Int.cast_ofNat_Int, Int.reduceAdd, Int.reduceNeg, Int.reduceToNat, Int.reduceLE, Int.zero_add, Int.toNat_zero, Int.add_zero, Int.add_neg_cancel_right, Fin.isValue, Int32.reduceOfInt, ↓reduceIte, Bool.false_eq_true, Bool.or_false, Bool.false_or, Bool.or_true, Bool.true_or, if_true, if_false, true_and, and_true, true_or, or_true, false_or, or_false, eq_self, and_self, z_up_i, Nat.add_left_cancel_iff, Nat.left_eq_add, Nat.add_eq_left, reduceCtorEq, Nat.add_one_ne_zero, z_tt, implies_true, zn_0, zn_1, zo_0, zo_1, dX1_readText_0, dX1_readText_1, dX1_readText_2, dX1_readText_3, dX1_readText_4, dX1_readText_7, dX1_readText_10, dX1_readText_13, dX1_readText_14, dX1_readText_17, dX1_readText_20, dX1_readText_21, dX1_readText_24, dX1_readText_25, dX1_readText_28, dX1_readText_30, dX1_readText_33, dX1_readText_34, dX1_readText_37, dX1_readText_38, dX1_readText_41, dX1_readText_43, dX1_readText_46, dX1_readText_47, dX1_readText_48, dX1_readText_49, dX1_readText_50, dX1_readText_51, dX1_readText_52, dX1_readText_55, dX1_readText_58, dX1_readText_59, dX1_readText_62, dX1_readText_63, dX1_readText_64, dX1_readText_67, dX1_readText_68, dX1_readText_71, dX1_readText_74, dX1_readText_77, dX1_readText_80, dX1_readText_81, zb_40, zb_41, zf_1_22, zf_1_9, zi_1]
  refine loop pad.length i0 M [] (by omega) hi0 (fun a ha => by simp at ha) (by simp) rfl z_fp.rf ?_ ?_ hw0
  · simp [m_app]; omega
  · simpa [m_app, m_spt] using h
theorem c_readText {l : Launch} {E : zE} {d b : Nat} {pad : List Nat} : ∀ k dd, dd + k = 3 → z_RT l E (d + 5 + 2 * k) dd b pad
  | 0, dd, h => c_readTextS (D := d) (fun h2 => absurd h2 (by omega)) (by omega)
  | k + 1, dd, h => by
    have ih := c_readText (l := l) (E := E) (d := d) (b := b) (pad := pad) k (dd + 1) (by omega)
    rw [show d + 5 + 2 * (k + 1) = (d + 2 + 2 * k) + 5 by omega]
    rw [show d + 5 + 2 * k = (d + 4 + 2 * k) + 1 by omega] at ih
    refine c_readTextS (D := d + 2 + 2 * k) (fun hdd M i s t w0 f1 r h1 h2 h3 h4 h5 h6 h7 => ?_) (by omega)
    rw [show d + 2 + 2 * k + 4 = (d + 4 + 2 * k) + 2 by omega]
    exact c_readPart ih hdd h1 h2 h3 h4 h5 h6 h7
set_option maxRecDepth 100000 in
set_option maxHeartbeats 4000000 in
/-- all steps of a pad without fault: whether there is room for them -/
theorem c_readSteps {l : Launch} {E : zE} {d b : Nat} {M : zH} {pad w0 : List Nat} {s tm : Nat} (h : z_rst M b pad w0 s tm) (hw : m_wf pad 0 false) : nX1_readSteps l E (d + 12) [.ref (b + 46)] M (z_i fun v M' => z_fp M M' (z_rA b) ∧ (((m_app (m_dn pad).1 0).length ≤ 60 ∧ v = 1 ∧ ∃ s1, z_rst M' b pad (m_app (m_dn pad).1 0) s1 0) ∨ (60 < (m_app (m_dn pad).1 0).length ∧ v = 0 ∧ ∃ w1 s1, z_rst M' b pad w1 s1 1))) := by
  refine z_cn 1 fun P z C => ?_
  obtain ⟨h1, h2, h3⟩ := id h
  refine z_run C [] 3 ?_
  simp only [z_x, z_n, z_stop, z_mem, z_ldi, z_lda, z_sto, z_s1, z_s2, z_sa, z_sv, z_br, z_bn, z_ob, z_ar, z_aq, z_al, z_rt, z_ra, z_at, z_st, z_K0i, z_K0v, zk_0, zk_1, zk_2, zk_3, z_lv, List.map_cons, List.map_nil, List.length_cons, List.length_nil, List.replicate, List.cons_append, List.nil_append, Nat.reduceAdd, Nat.reduceSub, Nat.reduceBEq, Nat.reduceEqDiff, Nat.reduceLT, Nat.reduceLeDiff, Nat.zero_add, Int.cast_ofNat_Int, Int.reduceAdd, Int.reduceNeg, Int.reduceToNat, Int.reduceLE, Int.zero_add, Int.toNat_zero, Int.add_zero, Int.add_neg_cancel_right, Fin.isValue, Int32.reduceOfInt, ↓reduceIte, Bool.false_eq_true, Bool.or_false, Bool.false_or, Bool.or_true, Bool.true_or, if_true, if_false, true_and, and_true, true_or, or_true, false_or, or_false, eq_self, and_self, z_up_i, Nat.add_left_cancel_iff, Nat.left_eq_add, Nat.add_eq_left, reduceCtorEq, Nat.add_one_ne_zero, z_tt, implies_true, zn_0, zn_1, zo_0, zo_1, dX1_readSteps_0, dX1_readSteps_1, dX1_readSteps_4, dX1_readSteps_7, dX1_readSteps_8, dX1_readSteps_9, dX1_readSteps_12, dX1_readSteps_13, dX1_readSteps_14, dX1_readSteps_17, dX1_readSteps_18, dX1_readSteps_19, dX1_readSteps_20, dX1_readSteps_23, dX1_readSteps_24, dX1_readSteps_25, dX1_readSteps_28, dX1_readSteps_31, dX1_readSteps_32, dX1_readSteps_35, dX1_readSteps_36, zf_1_15, zf_1_18, zf_1_22, zi_0, zi_1, zt_1_2, zt_1_3, h1]
  refine z_vv C dX1_readSteps_4 lk_1_51 (c_clear h3) rfl h3.ob (fun M2 hv => ?_)
  obtain ⟨hf, hr⟩ := hv
  have hf2 : z_fp M M2 (z_rA b) := hf.p (Or.inl rfl) (Or.inr (Or.inl rfl))
  have g1 : M2 (b + 46) = some (.inr (1, [.ref (b + 1), .ref (b + 3), .int (nI s), .int (nI tm)])) := (hf _ (by simp)).trans h1
  have g2 := h2.fr hf (by simp) (by simp)
  refine z_run C [] 12 ?_
  simp only [z_x, z_n, z_stop, z_mem, z_ldi, z_lda, z_sto, z_s1, z_s2, z_sa, z_sv, z_br, z_bn, z_ob, z_ar, z_aq, z_al, z_rt, z_ra, z_at, z_st, z_K0i, z_K0v, zk_0, zk_1, zk_2, zk_3, z_lv, List.map_cons, List.map_nil, List.length_cons, List.length_nil, List.replicate, List.cons_append, List.nil_append, Nat.reduceAdd, Nat.reduceSub, Nat.reduceBEq, Nat.reduceEqDiff, Nat.reduceLT, Nat.reduceLeDiff, Nat.zero_add, Int.cast_ofNat_Int, Int.reduceAdd, Int.reduceNeg, Int.reduceToNat, Int.reduceLE, Int.zero_add, Int.toNat_zero, Int.add_zero, Int.add_neg_cancel_right, Fin.isValue, Int32.reduceOfInt, ↓reduceIte, Bool.false_eq_true, Bool.or_false, Bool.false_or, Bool.or_true, Bool.true_or, if_true, if_false, true_and, and_true, true_or, or_true, false_or, or_false, eq_self, and_self, z_up_i, Nat.add_left_cancel_iff, Nat.left_eq_add, Nat.add_eq_left, reduceCtorEq, Nat.add_one_ne_zero, z_tt, implies_true, zn_0, zn_1, zo_0, zo_1, dX1_readSteps_0, dX1_readSteps_1, dX1_readSteps_4, dX1_readSteps_7, dX1_readSteps_8, dX1_readSteps_9, dX1_readSteps_12, dX1_readSteps_13, dX1_readSteps_14, dX1_readSteps_17, dX1_readSteps_18, dX1_readSteps_19, dX1_readSteps_20, dX1_readSteps_23, dX1_readSteps_24, dX1_readSteps_25, dX1_readSteps_28, dX1_readSteps_31, dX1_readSteps_32, dX1_readSteps_35, dX1_readSteps_36, zf_1_15, zf_1_18, zf_1_22, zi_0, zi_1, zt_1_2, zt_1_3, g1]
  generalize hM3 : z_up (z_up M2 (b + 46) _) (b + 46) _ = M3
  have hf3 : z_fp M M3 (z_rA b) := hf2.tr (fun q hq => by
    have hq2 : q ≠ b + 46 := fun e => hq (Or.inr (Or.inr e))
    rw [← hM3, z_up_n hq2, z_up_n hq2])
  have g13 : M3 (b + 46) = some (.inr (1, [.ref (b + 1), .ref (b + 3), .int (nI 0), .int (nI 0)])) := by rw [← hM3, z_up_s]; rfl
  have hst : z_rst M3 b pad [] 0 0 := by
    refine ⟨g13, ?_, ?_⟩
    · obtain ⟨f, a1, a2, a3⟩ := g2
      exact ⟨f, by rw [← hM3, z_up_n (by omega), z_up_n (by omega)]; exact a1, by rw [← hM3, z_up_n (by omega), z_up_n (by omega)]; exact a2, a3⟩
    · obtain ⟨f, a1, a2, a3⟩ := hr
      exact ⟨f, by rw [← hM3, z_up_n (by omega), z_up_n (by omega)]; exact a1, by rw [← hM3, z_up_n (by omega), z_up_n (by omega)]; exact a2, a3⟩
  refine z_vi C dX1_readSteps_20 lk_1_54 (c_readText (d := d) 3 0 rfl M3 0 0 [] (by omega) (by omega) hst hw) rfl g13 (fun v M4 hv => ?_)
  obtain ⟨hf4, hv⟩ := hv
  simp only [List.drop_zero, List.length_nil, Nat.zero_add, List.nil_append] at hv
  rcases hv with ⟨hv1, hv2, -⟩ | ⟨hv1, w2, s2, hv2⟩
  · have k1 := hv2.1
    refine z_run C [] 8 ?_
    simp only [z_x, z_n, z_stop, z_mem, z_ldi, z_lda, z_sto, z_s1, z_s2, z_sa, z_sv, z_br, z_bn, z_ob, z_ar, z_aq, z_al, z_rt, z_ra, z_at, z_st, z_K0i, z_K0v, zk_0, zk_1, zk_2, zk_3, z_lv, List.map_cons, List.map_nil, List.length_cons, List.length_nil, List.replicate, List.cons_append, List.nil_append, Nat.reduceAdd, Nat.reduceSub, Nat.reduceBEq, Nat.reduceEqDiff, Nat.reduceLT, Nat.reduceLeDiff, Nat.zero_add, Int.cast_ofNat_Int, Int.reduceAdd, Int.reduceNeg, Int.reduceToNat, Int.reduceLE, Int.zero_add, Int.toNat_zero, Int.add_zero, Int.add_neg_cancel_right, Fin.isValue, Int32.reduceOfInt, ↓reduceIte, Bool.false_eq_true, Bool.or_false, Bool.false_or, Bool.or_true, Bool.true_or, if_true, if_false, true_and, and_true, true_or, or_true, false_or, or_false, eq_self, and_self, z_up_i, Nat.add_left_cancel_iff, Nat.left_eq_add, Nat.add_eq_left, reduceCtorEq, Nat.add_one_ne_zero, z_tt, implies_true, zn_0, zn_1, zo_0, zo_1, dX1_readSteps_0, dX1_readSteps_1, dX1_readSteps_4, dX1_readSteps_7, dX1_readSteps_8, dX1_readSteps_9, dX1_readSteps_12, dX1_readSteps_13, dX1_readSteps_14, dX1_readSteps_17, dX1_readSteps_18, dX1_readSteps_19, dX1_readSteps_20, dX1_readSteps_23, dX1_readSteps_24, dX1_readSteps_25, dX1_readSteps_28, dX1_readSteps_31, dX1_readSteps_32, dX1_readSteps_35, dX1_readSteps_36, zf_1_15, zf_1_18, zf_1_22, zi_0, zi_1, zt_1_2, zt_1_3, k1]
    refine ⟨fun _ => ⟨hf3.tr hf4, Or.inl ⟨hv1, rfl, _, hv2⟩⟩, fun c => absurd rfl c⟩
  · have k1 := hv2.1
    refine z_run C [] 8 ?_
    simp only [z_x, z_n, z_stop, z_mem, z_ldi, z_lda, z_sto, z_s1, z_s2, z_sa, z_sv, z_br, z_bn, z_ob, z_ar, z_aq, z_al, z_rt, z_ra, z_at, z_st, z_K0i, z_K0v, zk_0, zk_1, zk_2, zk_3, z_lv, List.map_cons, List.map_nil, List.length_cons, List.length_nil, List.replicate, List.cons_append, List.nil_append, Nat.reduceAdd, Nat.reduceSub, Nat.reduceBEq, Nat.reduceEqDiff, Nat.reduceLT, Nat.reduceLeDiff, Nat.zero_add, Int.cast_ofNat_Int, Int.reduceAdd, Int.reduceNeg, Int.reduceToNat, Int.reduceLE, Int.zero_add, Int.toNat_zero, Int.add_zero, Int.add_neg_cancel_right, Fin.isValue, Int32.reduceOfInt, ↓reduceIte, Bool.false_eq_true, Bool.or_false, Bool.false_or, Bool.or_true, Bool.true_or, if_true, if_false, true_and, and_true, true_or, or_true, false_or, or_false, eq_self, and_self, z_up_i, Nat.add_left_cancel_iff, Nat.left_eq_add, Nat.add_eq_left, reduceCtorEq, Nat.add_one_ne_zero, z_tt, implies_true, zn_0, zn_1, zo_0, zo_1, dX1_readSteps_0, dX1_readSteps_1, dX1_readSteps_4, dX1_readSteps_7, dX1_readSteps_8, dX1_readSteps_9, dX1_readSteps_12, dX1_readSteps_13, dX1_readSteps_14, dX1_readSteps_17, dX1_readSteps_18, dX1_readSteps_19, dX1_readSteps_20, dX1_readSteps_23, dX1_readSteps_24, dX1_readSteps_25, dX1_readSteps_28, dX1_readSteps_31, dX1_readSteps_32, dX1_readSteps_35, dX1_readSteps_36, zf_1_15, zf_1_18, zf_1_22, zi_0, zi_1, zt_1_2, zt_1_3, k1]
    refine ⟨fun c => absurd c (by decide), fun _ => ⟨hf3.tr hf4, Or.inr ⟨hv1, rfl, w2, s2, hv2⟩⟩⟩
end
section
/-! THE SHORT FORM, by the places of letters in their row: J are those that stay -/
def m_pq (ls : List Nat) (j : Nat) : Nat := ls.getD j 0 / 10 + 1
def m_ap (ls : List Nat) (i j : Nat) : Prop := m_pq ls i + 1 < m_pq ls j ∨ m_pq ls j + 1 < m_pq ls i
def m_hit (ls J : List Nat) (i o : Nat) : Prop := o ∈ J ∧ m_pq ls o = m_pq ls i ∧ ls.getD o 0 ≠ ls.getD i 0 ∧ ∀ j ∈ J, o < j → m_ap ls j i
noncomputable def m_mk (ls J : List Nat) (i : Nat) : List Nat := @dite _ (∃ o, m_hit ls J i o) (Classical.propDecidable _) (fun h => J.filter (fun j => j != h.choose)) (fun _ => J ++ [i])
theorem m_hit_uniq {ls J : List Nat} {i o o' : Nat} (h : m_hit ls J i o) (h' : m_hit ls J i o') : o = o' := by
  obtain ⟨a1, a2, a3, a4⟩ := h
  obtain ⟨b1, b2, b3, b4⟩ := h'
  rcases Nat.lt_trichotomy o o' with h | h | h
  · have := a4 o' b1 h; unfold m_ap at this; omega
  · exact h
  · have := b4 o a1 h; unfold m_ap at this; omega
theorem m_mk_hit {ls J : List Nat} {i o : Nat} (h : m_hit ls J i o) : m_mk ls J i = J.filter (fun j => j != o) := by
  have hex : ∃ o, m_hit ls J i o := ⟨o, h⟩
  unfold m_mk
  rw [dif_pos hex, m_hit_uniq hex.choose_spec h]
theorem m_mk_no {ls J : List Nat} {i : Nat} (h : ∀ o, ¬ m_hit ls J i o) : m_mk ls J i = J ++ [i] := by
  unfold m_mk
  rw [dif_neg (fun ⟨o, ho⟩ => h o ho)]
noncomputable def m_mks (ls : List Nat) (n : Nat) : List Nat := (List.range n).foldl (m_mk ls) []
theorem m_mks_s (ls : List Nat) (n : Nat) : m_mks ls (n + 1) = m_mk ls (m_mks ls n) n := by
  unfold m_mks
  rw [List.range_succ, List.foldl_append]; rfl
theorem m_mk_ok (ls : List Nat) {J : List Nat} {i : Nat} (h : J.Pairwise (· < ·)) (hb : ∀ j ∈ J, j < i) : (m_mk ls J i).Pairwise (· < ·) ∧ ∀ j ∈ m_mk ls J i, j < i + 1 := by
  by_cases hex : ∃ o, m_hit ls J i o
  · obtain ⟨o, ho⟩ := hex
    rw [m_mk_hit ho]
    exact ⟨h.filter _, fun j hj => by have := hb j (List.mem_filter.mp hj).1; omega⟩
  · rw [m_mk_no (fun o ho => hex ⟨o, ho⟩)]
    refine ⟨List.pairwise_append.mpr ⟨h, List.pairwise_singleton _ _, fun a ha c hc => ?_⟩, fun j hj => ?_⟩
    · rw [List.mem_singleton.mp hc]; exact hb a ha
    · rcases List.mem_append.mp hj with hj | hj
      · have := hb j hj; omega
      · rw [List.mem_singleton.mp hj]; omega
theorem m_mks_ok (ls : List Nat) : ∀ n, (m_mks ls n).Pairwise (· < ·) ∧ ∀ j ∈ m_mks ls n, j < n
  | 0 => ⟨List.Pairwise.nil, fun j hj => by simp [m_mks] at hj⟩
  | n + 1 => by
    obtain ⟨h1, h2⟩ := m_mks_ok ls n
    rw [m_mks_s]
    exact m_mk_ok ls h1 h2
def m_cnd (ls J : List Nat) (j : Nat) : Prop := j ∈ J ∧ ∀ e ∈ J, e < j → m_ap ls e j
def m_frt (ls J : List Nat) (j : Nat) : Prop := m_cnd ls J j ∧ ∀ j', m_cnd ls J j' → m_pq ls j ≤ m_pq ls j'
theorem m_cnd_pq {ls J : List Nat} {j j' : Nat} (h : m_cnd ls J j) (h' : m_cnd ls J j') (e : m_pq ls j = m_pq ls j') : j = j' := by
  rcases Nat.lt_trichotomy j j' with q | q | q
  · have := h'.2 j h.1 q; unfold m_ap at this; omega
  · exact q
  · have := h.2 j' h'.1 q; unfold m_ap at this; omega
theorem m_frt_uniq {ls J : List Nat} {j j' : Nat} (h : m_frt ls J j) (h' : m_frt ls J j') : j = j' := m_cnd_pq h.1 h'.1 (Nat.le_antisymm (h.2 _ h'.1) (h'.2 _ h.1))
noncomputable def m_out (ls : List Nat) : Nat → List Nat → List Nat
  | 0, _ => []
  | n + 1, J => @dite _ (∃ j, m_frt ls J j) (Classical.propDecidable _) (fun h => ls.getD h.choose 0 :: m_out ls n (J.filter (fun k => k != h.choose))) (fun _ => [])
theorem m_out_s {ls J : List Nat} {j : Nat} (n : Nat) (h : m_frt ls J j) : m_out ls (n + 1) J = ls.getD j 0 :: m_out ls n (J.filter (fun k => k != j)) := by
  have hex : ∃ j, m_frt ls J j := ⟨j, h⟩
  rw [m_out, dif_pos hex, m_frt_uniq hex.choose_spec h]
theorem m_out_e {ls : List Nat} (n : Nat) : m_out ls n [] = [] := by
  cases n with
  | zero => rfl
  | succ n =>
    rw [m_out, dif_neg]
    rintro ⟨j, h, -⟩
    exact absurd h.1 (by simp)
noncomputable def m_sh (ls : List Nat) : List Nat := m_out ls ls.length (m_mks ls ls.length)
theorem m_fl_len {J : List Nat} {j : Nat} (hp : J.Pairwise (· < ·)) (hj : j ∈ J) : (J.filter (fun k => k != j)).length + 1 = J.length := by
  induction J with
  | nil => simp at hj
  | cons a J ih =>
    have hp' := List.pairwise_cons.mp hp
    rcases List.mem_cons.mp hj with rfl | hj'
    · have : J.filter (fun k => k != j) = J := List.filter_eq_self.mpr (fun k hk => by have := hp'.1 k hk; simp; omega)
      simp [this]
    · have hne : a ≠ j := by have := hp'.1 j hj'; omega
      simp only [List.filter_cons, bne_iff_ne, ne_eq, hne, not_false_eq_true, if_true, List.length_cons]
      have := ih hp'.2 hj'
      omega
/-- v tells the last of J of place p, below B -/
def m_isL (ls J : List Nat) (B p : Nat) (v : Int32) : Prop := (v = -1 ∧ ∀ j ∈ J, j < B → m_pq ls j ≠ p) ∨ ∃ j, j ∈ J ∧ j < B ∧ v = nI j ∧ m_pq ls j = p ∧ ∀ k ∈ J, k < B → m_pq ls k = p → k ≤ j
/-- what the class's rows hold behind i letters -/
def m_inv (ls J : List Nat) (i : Nat) (bef st lst : Nat → Int32) : Prop := J.Pairwise (· < ·) ∧ (∀ j ∈ J, j < i) ∧ (∀ p, p ≤ 8 → m_isL ls J i p (lst p)) ∧ (∀ j ∈ J, m_isL ls J j (m_pq ls j) (bef j)) ∧ ∀ j, j < i → (j ∈ J → st j = 1) ∧ (j ∉ J → st j = 0)
theorem m_inv_add {ls J : List Nat} {i : Nat} {bef st lst : Nat → Int32} (h : m_inv ls J i bef st lst) : m_inv ls (J ++ [i]) (i + 1) (upd bef i (lst (m_pq ls i))) (upd st i 1) (upd lst (m_pq ls i) (nI i)) ∨ ¬ m_pq ls i ≤ 8 := by
  by_cases hp8 : m_pq ls i ≤ 8
  · left
    obtain ⟨h1, h2, h3, h4, h5⟩ := h
    have hni : i ∉ J := fun hh => by have := h2 i hh; omega
    refine ⟨List.pairwise_append.mpr ⟨h1, List.pairwise_singleton _ _, fun a ha c hc => by rw [List.mem_singleton.mp hc]; exact h2 a ha⟩, fun j hj => ?_, fun p hp => ?_, fun j hj => ?_, fun j hj => ?_⟩
    · rcases List.mem_append.mp hj with hj | hj
      · have := h2 j hj; omega
      · rw [List.mem_singleton.mp hj]; omega
    · by_cases e : p = m_pq ls i
      · subst e
        rw [pk_us]
        refine Or.inr ⟨i, by simp, by omega, rfl, rfl, fun k hk hki _ => by omega⟩
      · rw [pk_un e]
        rcases h3 p hp with ⟨a1, a2⟩ | ⟨j, a1, a2, a3, a4, a5⟩
        · refine Or.inl ⟨a1, fun j hj hji => ?_⟩
          rcases List.mem_append.mp hj with hj | hj
          · exact a2 j hj (h2 j hj)
          · rw [List.mem_singleton.mp hj]; exact fun q => e q.symm
        · refine Or.inr ⟨j, List.mem_append_left _ a1, by omega, a3, a4, fun k hk hki hkp => ?_⟩
          rcases List.mem_append.mp hk with hk | hk
          · exact a5 k hk (h2 k hk) hkp
          · rw [List.mem_singleton.mp hk] at hkp; exact absurd hkp.symm e
    · rcases List.mem_append.mp hj with hj | hj
      · have hji := h2 j hj
        rw [pk_un (by omega)]
        rcases h4 j hj with ⟨a1, a2⟩ | ⟨k, a1, a2, a3, a4, a5⟩
        · refine Or.inl ⟨a1, fun k hk hkj => ?_⟩
          rcases List.mem_append.mp hk with hk | hk
          · exact a2 k hk hkj
          · rw [List.mem_singleton.mp hk] at hkj; omega
        · refine Or.inr ⟨k, List.mem_append_left _ a1, a2, a3, a4, fun q hq hqj hqp => ?_⟩
          rcases List.mem_append.mp hq with hq | hq
          · exact a5 q hq hqj hqp
          · rw [List.mem_singleton.mp hq] at hqj; omega
      · rw [List.mem_singleton.mp hj, pk_us]
        rcases h3 _ hp8 with ⟨a1, a2⟩ | ⟨k, a1, a2, a3, a4, a5⟩
        · refine Or.inl ⟨a1, fun k hk hkj => ?_⟩
          rcases List.mem_append.mp hk with hk | hk
          · exact a2 k hk hkj
          · rw [List.mem_singleton.mp hk] at hkj; omega
        · refine Or.inr ⟨k, List.mem_append_left _ a1, a2, a3, a4, fun q hq hqj hqp => ?_⟩
          rcases List.mem_append.mp hq with hq | hq
          · exact a5 q hq hqj hqp
          · rw [List.mem_singleton.mp hq] at hqj; omega
    · by_cases e : j = i
      · subst e
        rw [pk_us]
        exact ⟨fun _ => rfl, fun hh => absurd (by simp) hh⟩
      · rw [pk_un e]
        obtain ⟨a1, a2⟩ := h5 j (by omega)
        refine ⟨fun hj => ?_, fun hj => ?_⟩
        · rcases List.mem_append.mp hj with hj | hj
          · exact a1 hj
          · exact absurd (List.mem_singleton.mp hj) e
        · exact a2 (fun hh => hj (List.mem_append_left _ hh))
  · exact Or.inr hp8
theorem m_inv_del {ls J : List Nat} {i o : Nat} {bef st lst : Nat → Int32} (h : m_inv ls J i bef st lst) (hh : m_hit ls J i o) : m_inv ls (J.filter (fun j => j != o)) (i + 1) bef (upd (upd st i 0) o 0) (upd lst (m_pq ls i) (bef o)) := by
  obtain ⟨h1, h2, h3, h4, h5⟩ := h
  obtain ⟨b1, b2, b3, b4⟩ := hh
  have hmem : ∀ j, j ∈ J.filter (fun j => j != o) ↔ j ∈ J ∧ j ≠ o := fun j => by simp [List.mem_filter]
  have hmax : ∀ k ∈ J, m_pq ls k = m_pq ls i → k ≤ o := fun k hk hkp => by
    rcases Nat.lt_or_ge o k with q | q
    · have := b4 k hk q; unfold m_ap at this; omega
    · exact q
  have hoi := h2 o b1
  refine ⟨h1.filter _, fun j hj => by have := h2 j ((hmem j).mp hj).1; omega, fun p hp => ?_, fun j hj => ?_, fun j hj => ?_⟩
  · by_cases e : p = m_pq ls i
    · subst e
      rw [pk_us]
      have h6 := h4 o b1
      rw [b2] at h6
      rcases h6 with ⟨a1, a2⟩ | ⟨k, a1, a2, a3, a4, a5⟩
      · refine Or.inl ⟨a1, fun k hk _ hkp => ?_⟩
        obtain ⟨k1, k2⟩ := (hmem k).mp hk
        exact a2 k k1 (by have := hmax k k1 hkp; omega) hkp
      · refine Or.inr ⟨k, (hmem k).mpr ⟨a1, by omega⟩, by omega, a3, a4, fun q hq _ hqp => ?_⟩
        obtain ⟨k1, k2⟩ := (hmem q).mp hq
        exact a5 q k1 (by have := hmax q k1 hqp; omega) hqp
    · rw [pk_un e]
      rcases h3 p hp with ⟨a1, a2⟩ | ⟨j, a1, a2, a3, a4, a5⟩
      · refine Or.inl ⟨a1, fun j hj _ => ?_⟩
        obtain ⟨k1, k2⟩ := (hmem j).mp hj
        exact a2 j k1 (h2 j k1)
      · refine Or.inr ⟨j, (hmem j).mpr ⟨a1, fun q => by subst q; exact e (a4.symm.trans b2)⟩, by omega, a3, a4, fun q hq _ hqp => ?_⟩
        obtain ⟨k1, k2⟩ := (hmem q).mp hq
        exact a5 q k1 (h2 q k1) hqp
  · obtain ⟨k1, k2⟩ := (hmem j).mp hj
    rcases h4 j k1 with ⟨a1, a2⟩ | ⟨k, a1, a2, a3, a4, a5⟩
    · exact Or.inl ⟨a1, fun q hq hqj => a2 q ((hmem q).mp hq).1 hqj⟩
    · refine Or.inr ⟨k, (hmem k).mpr ⟨a1, fun q => ?_⟩, a2, a3, a4, fun q hq hqj hqp => a5 q ((hmem q).mp hq).1 hqj hqp⟩
      subst q
      have := hmax j k1 (by rw [← a4, b2])
      omega
  · by_cases e : j = o
    · subst e
      rw [pk_us]
      exact ⟨fun hh => absurd rfl ((hmem j).mp hh).2, fun _ => rfl⟩
    · rw [pk_un e]
      by_cases e2 : j = i
      · subst e2
        rw [pk_us]
        exact ⟨fun hh => by have := h2 j ((hmem j).mp hh).1; omega, fun _ => rfl⟩
      · rw [pk_un e2]
        obtain ⟨a1, a2⟩ := h5 j (by omega)
        exact ⟨fun hh => a1 ((hmem j).mp hh).1, fun hh => a2 (fun q => hh ((hmem j).mpr ⟨q, e⟩))⟩
/-- the class's own look: a hit, or none -/
theorem m_isL_lt {ls J : List Nat} {i p q o : Nat} {u : Int32} (hi : i < 2 ^ 31) (hu : m_isL ls J i q u) (ho : o < i) : ¬ nI o ≤ u ↔ ∀ k ∈ J, k < i → m_pq ls k = q → k < o := by
  rcases hu with ⟨a1, a2⟩ | ⟨j, a1, a2, a3, a4, a5⟩
  · subst a1
    refine ⟨fun _ k hk hki hkp => absurd hkp (a2 k hk hki), fun _ hle => ?_⟩
    have h1 := Int32.le_iff_toInt_le.mp hle
    rw [nI_toInt (by omega), show (-1 : Int32).toInt = -1 from by decide] at h1
    omega
  · subst a3
    rw [nI_leI (by omega) (by omega)]
    refine ⟨fun h k hk hki hkp => ?_, fun h => ?_⟩
    · have := a5 k hk hki hkp; omega
    · have := h j a1 a2 a4; omega
theorem m_hit_iff {ls J : List Nat} {i o : Nat} (hb : ∀ j ∈ J, j < i) (ho : o ∈ J) (hop : m_pq ls o = m_pq ls i) (hmax : ∀ k ∈ J, k < i → m_pq ls k = m_pq ls i → k ≤ o) (hd : ls.getD o 0 ≠ ls.getD i 0) (h1 : ∀ k ∈ J, k < i → m_pq ls k = m_pq ls i - 1 → k < o) (h2 : ∀ k ∈ J, k < i → m_pq ls k = m_pq ls i + 1 → k < o) : m_hit ls J i o := by
  refine ⟨ho, hop, hd, fun j hj hoj => ?_⟩
  have a0 := hb j hj
  have a1 := h1 j hj a0
  have a2 := h2 j hj a0
  have a3 := hmax j hj a0
  unfold m_ap
  omega
end
