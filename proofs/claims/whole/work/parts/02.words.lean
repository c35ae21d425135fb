def RX0 : String := "AwardLine$Census"
def TX0 : u_T := fun k => match k with
  | 0 => ("AwardLine$Census", "error", "[I", true)
  | 1 => ("AwardLine$Census", "least", "[[I", true)
  | 2 => ("AwardLine$Census", "greatest", "[[I", true)
  | 3 => ("AwardLine$Census", "people", "[[I", true)
  | 4 => ("AwardLine$Census", "land", "LAwardLine$Land;", true)
  | _ => ("AwardLine$Census", "notes", "LAwardLine$Notes;", true)
def tyX0 : Nat → FieldType := fun k => match k with
  | 0 => .array .int
  | 1 => .array (.array .int)
  | 2 => .array (.array .int)
  | 3 => .array (.array .int)
  | 4 => .object "AwardLine$Land"
  | _ => .object "AwardLine$Notes"
abbrev wsX00 : List Cond := u_ws RX0 TX0 6
theorem nmX0 : ∀ a, a < 6 → ∀ b, b < 6 → a ≠ b → (TX0 a).2.1 ≠ (TX0 b).2.1 := by decide +kernel
theorem tyX0_ok : ∀ k, k < 6 → parseFieldDescriptor (TX0 k).2.2.1 = some (tyX0 k) := by decide +kernel
abbrev cX0_init : ByteArray := prog_2_method_1_code
def yX0_init : MethodName := ⟨RX0, "<init>", "(LAwardLine$Land;LAwardLine$Notes;)V"⟩
abbrev cX0_take : ByteArray := prog_2_method_2_code
def yX0_take : MethodName := ⟨RX0, "take", "(I)V"⟩
abbrev cX0_narrow : ByteArray := prog_2_method_3_code
def yX0_narrow : MethodName := ⟨RX0, "narrow", "(IIII)V"⟩
abbrev cX0_close : ByteArray := prog_2_method_4_code
def yX0_close : MethodName := ⟨RX0, "close", "(II)V"⟩
def RX1 : String := "AwardLine$Drafts"
def TX1 : u_T := fun k => match k with
  | 0 => ("AwardLine$Drafts", "held", "I", false)
  | 1 => ("AwardLine$Drafts", "line", "[I", true)
  | _ => ("AwardLine$Drafts", "day", "[I", true)
def tyX1 : Nat → FieldType := fun k => match k with
  | 0 => .int
  | 1 => .array .int
  | _ => .array .int
abbrev wsX10 : List Cond := u_ws RX1 TX1 3
theorem nmX1 : ∀ a, a < 3 → ∀ b, b < 3 → a ≠ b → (TX1 a).2.1 ≠ (TX1 b).2.1 := by decide +kernel
theorem tyX1_ok : ∀ k, k < 3 → parseFieldDescriptor (TX1 k).2.2.1 = some (tyX1 k) := by decide +kernel
abbrev cX1_init : ByteArray := prog_3_method_1_code
def yX1_init : MethodName := ⟨RX1, "<init>", "()V"⟩
abbrev cX1_has : ByteArray := prog_3_method_2_code
def yX1_has : MethodName := ⟨RX1, "has", "(I)Z"⟩
abbrev cX1_add : ByteArray := prog_3_method_3_code
def yX1_add : MethodName := ⟨RX1, "add", "(II)I"⟩
def RX2 : String := "AwardLine$Exodus"
def TX2 : u_T := fun k => match k with
  | 0 => ("AwardLine$Exodus", "candidates", "I", false)
  | 1 => ("AwardLine$Exodus", "bestGuards", "I", false)
  | 2 => ("AwardLine$Exodus", "bestLost", "I", false)
  | 3 => ("AwardLine$Exodus", "land", "LAwardLine$Land;", true)
  | 4 => ("AwardLine$Exodus", "census", "LAwardLine$Census;", true)
  | 5 => ("AwardLine$Exodus", "candidate", "[I", true)
  | 6 => ("AwardLine$Exodus", "fear", "I", false)
  | 7 => ("AwardLine$Exodus", "lose", "I", false)
  | 8 => ("AwardLine$Exodus", "goal", "[[I", true)
  | 9 => ("AwardLine$Exodus", "astray", "[I", true)
  | 10 => ("AwardLine$Exodus", "settled", "[I", true)
  | _ => ("AwardLine$Exodus", "arriving", "[I", true)
def tyX2 : Nat → FieldType := fun k => match k with
  | 0 => .int
  | 1 => .int
  | 2 => .int
  | 3 => .object "AwardLine$Land"
  | 4 => .object "AwardLine$Census"
  | 5 => .array .int
  | 6 => .int
  | 7 => .int
  | 8 => .array (.array .int)
  | 9 => .array .int
  | 10 => .array .int
  | _ => .array .int
abbrev wsX20 : List Cond := u_ws RX2 TX2 12
theorem nmX2 : ∀ a, a < 12 → ∀ b, b < 12 → a ≠ b → (TX2 a).2.1 ≠ (TX2 b).2.1 := by decide +kernel
theorem tyX2_ok : ∀ k, k < 12 → parseFieldDescriptor (TX2 k).2.2.1 = some (tyX2 k) := by decide +kernel
abbrev cX2_init : ByteArray := prog_4_method_1_code
def yX2_init : MethodName := ⟨RX2, "<init>", "(LAwardLine$Land;LAwardLine$Census;)V"⟩
abbrev cX2_addCandidate : ByteArray := prog_4_method_2_code
def yX2_addCandidate : MethodName := ⟨RX2, "addCandidate", "(I)I"⟩
abbrev cX2_agree : ByteArray := prog_4_method_3_code
def yX2_agree : MethodName := ⟨RX2, "agree", "(LAwardLine$Terms;)V"⟩
abbrev cX2_tell : ByteArray := prog_4_method_4_code
def yX2_tell : MethodName := ⟨RX2, "tell", "(III)I"⟩
abbrev cX2_guarded : ByteArray := prog_4_method_5_code
def yX2_guarded : MethodName := ⟨RX2, "guarded", "(I)I"⟩
abbrev cX2_aim : ByteArray := prog_4_method_6_code
def yX2_aim : MethodName := ⟨RX2, "aim", "(I[I)V"⟩
abbrev cX2_towards : ByteArray := prog_4_method_7_code
def yX2_towards : MethodName := ⟨RX2, "towards", "(II)I"⟩
abbrev cX2_walk : ByteArray := prog_4_method_8_code
def yX2_walk : MethodName := ⟨RX2, "walk", "(I[IIII)I"⟩
abbrev cX2_walkOneDay : ByteArray := prog_4_method_9_code
def yX2_walkOneDay : MethodName := ⟨RX2, "walkOneDay", "(I[II)I"⟩
abbrev cX2_stillAstray : ByteArray := prog_4_method_10_code
def yX2_stillAstray : MethodName := ⟨RX2, "stillAstray", "()I"⟩
abbrev cX2_fullest : ByteArray := prog_4_method_11_code
def yX2_fullest : MethodName := ⟨RX2, "fullest", "()I"⟩
abbrev cX2_place : ByteArray := prog_4_method_12_code
def yX2_place : MethodName := ⟨RX2, "place", "(IILAwardLine$Drafts;I)V"⟩
abbrev cX2_tryGuards : ByteArray := prog_4_method_13_code
def yX2_tryGuards : MethodName := ⟨RX2, "tryGuards", "(IILAwardLine$Drafts;I)V"⟩
def RX3 : String := "AwardLine$Judge"
def TX3 : u_T := fun k => match k with
  | 0 => ("AwardLine$Judge", "land", "LAwardLine$Land;", true)
  | 1 => ("AwardLine$Judge", "census", "LAwardLine$Census;", true)
  | 2 => ("AwardLine$Judge", "stack", "[J", true)
  | _ => ("AwardLine$Judge", "error", "Z", false)
def tyX3 : Nat → FieldType := fun k => match k with
  | 0 => .object "AwardLine$Land"
  | 1 => .object "AwardLine$Census"
  | 2 => .array .long
  | _ => .boolean
abbrev wsX30 : List Cond := u_ws RX3 TX3 4
theorem nmX3 : ∀ a, a < 4 → ∀ b, b < 4 → a ≠ b → (TX3 a).2.1 ≠ (TX3 b).2.1 := by decide +kernel
theorem tyX3_ok : ∀ k, k < 4 → parseFieldDescriptor (TX3 k).2.2.1 = some (tyX3 k) := by decide +kernel
abbrev cX3_init : ByteArray := prog_5_method_1_code
def yX3_init : MethodName := ⟨RX3, "<init>", "(LAwardLine$Land;LAwardLine$Census;)V"⟩
abbrev cX3_award : ByteArray := prog_5_method_2_code
def yX3_award : MethodName := ⟨RX3, "award", "(LAwardLine$Terms;I)I"⟩
abbrev cX3_holds : ByteArray := prog_5_method_3_code
def yX3_holds : MethodName := ⟨RX3, "holds", "(LAwardLine$Terms;I)Z"⟩
abbrev cX3_isOperand : ByteArray := prog_5_method_4_code
def yX3_isOperand : MethodName := ⟨RX3, "isOperand", "(I)Z"⟩
abbrev cX3_truth : ByteArray := prog_5_method_5_code
def yX3_truth : MethodName := ⟨RX3, "truth", "(Z)J"⟩
abbrev cX3_peopleIn : ByteArray := prog_5_method_6_code
def yX3_peopleIn : MethodName := ⟨RX3, "peopleIn", "(II)J"⟩
abbrev cX3_named : ByteArray := prog_5_method_7_code
def yX3_named : MethodName := ⟨RX3, "named", "(II)J"⟩
abbrev cX3_worked : ByteArray := prog_5_method_8_code
def yX3_worked : MethodName := ⟨RX3, "worked", "(IJJ)J"⟩
abbrev cX3_bounded : ByteArray := prog_5_method_9_code
def yX3_bounded : MethodName := ⟨RX3, "bounded", "(J)J"⟩
abbrev cX3_product : ByteArray := prog_5_method_10_code
def yX3_product : MethodName := ⟨RX3, "product", "(JJ)J"⟩
abbrev cX3_quotient : ByteArray := prog_5_method_11_code
def yX3_quotient : MethodName := ⟨RX3, "quotient", "(JJ)J"⟩
def RX4 : String := "AwardLine$Land"
def TX4 : u_T := fun k => match k with
  | 0 => ("AwardLine$Land", "size", "I", false)
  | 1 => ("AwardLine$Land", "all", "I", false)
  | 2 => ("AwardLine$Land", "districts", "[I", true)
  | 3 => ("AwardLine$Land", "shrines", "[I", true)
  | 4 => ("AwardLine$Land", "rails", "I", false)
  | 5 => ("AwardLine$Land", "heads", "I", false)
  | 6 => ("AwardLine$Land", "canals", "I", false)
  | 7 => ("AwardLine$Land", "wide", "I", false)
  | 8 => ("AwardLine$Land", "firstColumn", "I", false)
  | 9 => ("AwardLine$Land", "lastColumn", "I", false)
  | 10 => ("AwardLine$Land", "headOf", "[I", true)
  | _ => ("AwardLine$Land", "drinkers", "[I", true)
def tyX4 : Nat → FieldType := fun k => match k with
  | 0 => .int
  | 1 => .int
  | 2 => .array .int
  | 3 => .array .int
  | 4 => .int
  | 5 => .int
  | 6 => .int
  | 7 => .int
  | 8 => .int
  | 9 => .int
  | 10 => .array .int
  | _ => .array .int
abbrev wsX40 : List Cond := u_ws RX4 TX4 12
theorem nmX4 : ∀ a, a < 12 → ∀ b, b < 12 → a ≠ b → (TX4 a).2.1 ≠ (TX4 b).2.1 := by decide +kernel
theorem tyX4_ok : ∀ k, k < 12 → parseFieldDescriptor (TX4 k).2.2.1 = some (tyX4 k) := by decide +kernel
abbrev cX4_init : ByteArray := prog_6_method_1_code
def yX4_init : MethodName := ⟨RX4, "<init>", "()V"⟩
abbrev cX4_lay : ByteArray := prog_6_method_2_code
def yX4_lay : MethodName := ⟨RX4, "lay", "(II)V"⟩
abbrev cX4_has : ByteArray := prog_6_method_3_code
def yX4_has : MethodName := ⟨RX4, "has", "(I)Z"⟩
abbrev cX4_isLine : ByteArray := prog_6_method_4_code
def yX4_isLine : MethodName := ⟨RX4, "isLine", "(I)Z"⟩
abbrev cX4_describe : ByteArray := prog_6_method_5_code
def yX4_describe : MethodName := ⟨RX4, "describe", "(IIIZ)V"⟩
abbrev cX4_dig : ByteArray := prog_6_method_6_code
def yX4_dig : MethodName := ⟨RX4, "dig", "(I)I"⟩
abbrev cX4_lead : ByteArray := prog_6_method_7_code
def yX4_lead : MethodName := ⟨RX4, "lead", "(II)I"⟩
abbrev cX4_beside : ByteArray := prog_6_method_8_code
def yX4_beside : MethodName := ⟨RX4, "beside", "(I)I"⟩
abbrev cX4_firstPiece : ByteArray := prog_6_method_9_code
def yX4_firstPiece : MethodName := ⟨RX4, "firstPiece", "(I)I"⟩
abbrev cX4_pieces : ByteArray := prog_6_method_10_code
def yX4_pieces : MethodName := ⟨RX4, "pieces", "(I)I"⟩
abbrev cX4_parted : ByteArray := prog_6_method_11_code
def yX4_parted : MethodName := ⟨RX4, "parted", "(II)Z"⟩
abbrev cX4_pipes : ByteArray := prog_6_method_12_code
def yX4_pipes : MethodName := ⟨RX4, "pipes", "(II)I"⟩
abbrev cX4_tracks : ByteArray := prog_6_method_13_code
def yX4_tracks : MethodName := ⟨RX4, "tracks", "(II)I"⟩
abbrev cX4_cut : ByteArray := prog_6_method_14_code
def yX4_cut : MethodName := ⟨RX4, "cut", "(I)I"⟩
abbrev cX4_severed : ByteArray := prog_6_method_15_code
def yX4_severed : MethodName := ⟨RX4, "severed", "(I)I"⟩
abbrev cX4_desecrated : ByteArray := prog_6_method_16_code
def yX4_desecrated : MethodName := ⟨RX4, "desecrated", "(I)I"⟩
def RX5 : String := "AwardLine$Notes"
def TX5 : u_T := fun k => match k with
  | 0 => ("AwardLine$Notes", "held", "I", false)
  | 1 => ("AwardLine$Notes", "kind", "[I", true)
  | 2 => ("AwardLine$Notes", "subject", "[I", true)
  | 3 => ("AwardLine$Notes", "object", "[I", true)
  | 4 => ("AwardLine$Notes", "third", "[I", true)
  | 5 => ("AwardLine$Notes", "fourth", "[I", true)
  | 6 => ("AwardLine$Notes", "told", "[I", true)
  | _ => ("AwardLine$Notes", "known", "[Z", true)
def tyX5 : Nat → FieldType := fun k => match k with
  | 0 => .int
  | 1 => .array .int
  | 2 => .array .int
  | 3 => .array .int
  | 4 => .array .int
  | 5 => .array .int
  | 6 => .array .int
  | _ => .array .boolean
abbrev wsX50 : List Cond := u_ws RX5 TX5 8
theorem nmX5 : ∀ a, a < 8 → ∀ b, b < 8 → a ≠ b → (TX5 a).2.1 ≠ (TX5 b).2.1 := by decide +kernel
theorem tyX5_ok : ∀ k, k < 8 → parseFieldDescriptor (TX5 k).2.2.1 = some (tyX5 k) := by decide +kernel
abbrev cX5_init : ByteArray := prog_7_method_1_code
def yX5_init : MethodName := ⟨RX5, "<init>", "()V"⟩
abbrev cX5_has : ByteArray := prog_7_method_2_code
def yX5_has : MethodName := ⟨RX5, "has", "(I)Z"⟩
abbrev cX5_add : ByteArray := prog_7_method_3_code
def yX5_add : MethodName := ⟨RX5, "add", "(IIIIII)I"⟩
abbrev cX5_sift : ByteArray := prog_7_method_4_code
def yX5_sift : MethodName := ⟨RX5, "sift", "(I)V"⟩
abbrev cX5_isKnown : ByteArray := prog_7_method_5_code
def yX5_isKnown : MethodName := ⟨RX5, "isKnown", "(II)Z"⟩
def RX6 : String := "AwardLine$Reader"
def TX6 : u_T := fun k => match k with
  | 0 => ("AwardLine$Reader", "held", "I", false)
  | 1 => ("AwardLine$Reader", "fault", "I", false)
  | 2 => ("AwardLine$Reader", "faultPlace", "I", false)
  | 3 => ("AwardLine$Reader", "tape", "[I", true)
  | 4 => ("AwardLine$Reader", "length", "I", false)
  | 5 => ("AwardLine$Reader", "at", "I", false)
  | 6 => ("AwardLine$Reader", "token", "I", false)
  | 7 => ("AwardLine$Reader", "place", "I", false)
  | 8 => ("AwardLine$Reader", "number", "I", false)
  | 9 => ("AwardLine$Reader", "amountRead", "I", false)
  | 10 => ("AwardLine$Reader", "knotsRead", "I", false)
  | 11 => ("AwardLine$Reader", "linesTold", "I", false)
  | _ => ("AwardLine$Reader", "into", "LAwardLine$Terms;", false)
def tyX6 : Nat → FieldType := fun k => match k with
  | 0 => .int
  | 1 => .int
  | 2 => .int
  | 3 => .array .int
  | 4 => .int
  | 5 => .int
  | 6 => .int
  | 7 => .int
  | 8 => .int
  | 9 => .int
  | 10 => .int
  | 11 => .int
  | _ => .object "AwardLine$Terms"
abbrev wsX60 : List Cond := u_ws RX6 TX6 13
theorem nmX6 : ∀ a, a < 13 → ∀ b, b < 13 → a ≠ b → (TX6 a).2.1 ≠ (TX6 b).2.1 := by decide +kernel
theorem tyX6_ok : ∀ k, k < 13 → parseFieldDescriptor (TX6 k).2.2.1 = some (tyX6 k) := by decide +kernel
abbrev cX6_init : ByteArray := prog_8_method_1_code
def yX6_init : MethodName := ⟨RX6, "<init>", "()V"⟩
abbrev cX6_hasRoom : ByteArray := prog_8_method_2_code
def yX6_hasRoom : MethodName := ⟨RX6, "hasRoom", "()Z"⟩
abbrev cX6_store : ByteArray := prog_8_method_3_code
def yX6_store : MethodName := ⟨RX6, "store", "(I)V"⟩
abbrev cX6_read : ByteArray := prog_8_method_4_code
def yX6_read : MethodName := ⟨RX6, "read", "(ILAwardLine$Terms;)I"⟩
abbrev cX6_refuse : ByteArray := prog_8_method_5_code
def yX6_refuse : MethodName := ⟨RX6, "refuse", "(I)Z"⟩
abbrev cX6_pass : ByteArray := prog_8_method_6_code
def yX6_pass : MethodName := ⟨RX6, "pass", "(I)Z"⟩
abbrev cX6_once : ByteArray := prog_8_method_7_code
def yX6_once : MethodName := ⟨RX6, "once", "()Z"⟩
abbrev cX6_lineOfTerms : ByteArray := prog_8_method_8_code
def yX6_lineOfTerms : MethodName := ⟨RX6, "lineOfTerms", "()Z"⟩
abbrev cX6_unitLine : ByteArray := prog_8_method_9_code
def yX6_unitLine : MethodName := ⟨RX6, "unitLine", "()Z"⟩
abbrev cX6_fearLine : ByteArray := prog_8_method_10_code
def yX6_fearLine : MethodName := ⟨RX6, "fearLine", "()Z"⟩
abbrev cX6_loseLine : ByteArray := prog_8_method_11_code
def yX6_loseLine : MethodName := ⟨RX6, "loseLine", "()Z"⟩
abbrev cX6_weighLine : ByteArray := prog_8_method_12_code
def yX6_weighLine : MethodName := ⟨RX6, "weighLine", "()Z"⟩
abbrev cX6_amount : ByteArray := prog_8_method_13_code
def yX6_amount : MethodName := ⟨RX6, "amount", "(I)Z"⟩
abbrev cX6_row : ByteArray := prog_8_method_14_code
def yX6_row : MethodName := ⟨RX6, "row", "(II)Z"⟩
abbrev cX6_negated : ByteArray := prog_8_method_15_code
def yX6_negated : MethodName := ⟨RX6, "negated", "(I)Z"⟩
abbrev cX6_part : ByteArray := prog_8_method_16_code
def yX6_part : MethodName := ⟨RX6, "part", "(I)Z"⟩
abbrev cX6_claimKnot : ByteArray := prog_8_method_17_code
def yX6_claimKnot : MethodName := ⟨RX6, "claimKnot", "()Z"⟩
abbrev cX6_emit : ByteArray := prog_8_method_18_code
def yX6_emit : MethodName := ⟨RX6, "emit", "(II)V"⟩
abbrev cX6_rankOf : ByteArray := prog_8_method_19_code
def yX6_rankOf : MethodName := ⟨RX6, "rankOf", "(I)I"⟩
abbrev cX6_advance : ByteArray := prog_8_method_20_code
def yX6_advance : MethodName := ⟨RX6, "advance", "()V"⟩
abbrev cX6_isLetter : ByteArray := prog_8_method_21_code
def yX6_isLetter : MethodName := ⟨RX6, "isLetter", "(I)Z"⟩
abbrev cX6_isDigit : ByteArray := prog_8_method_22_code
def yX6_isDigit : MethodName := ⟨RX6, "isDigit", "(I)Z"⟩
abbrev cX6_readWord : ByteArray := prog_8_method_23_code
def yX6_readWord : MethodName := ⟨RX6, "readWord", "()V"⟩
abbrev cX6_wordBetween : ByteArray := prog_8_method_24_code
def yX6_wordBetween : MethodName := ⟨RX6, "wordBetween", "(II)I"⟩
abbrev cX6_readNumber : ByteArray := prog_8_method_25_code
def yX6_readNumber : MethodName := ⟨RX6, "readNumber", "()V"⟩
abbrev cX6_readSign : ByteArray := prog_8_method_26_code
def yX6_readSign : MethodName := ⟨RX6, "readSign", "(I)V"⟩
abbrev cX6_follows : ByteArray := prog_8_method_27_code
def yX6_follows : MethodName := ⟨RX6, "follows", "(I)Z"⟩
def RX7 : String := "AwardLine$Rumour"
def TX7 : u_T := fun k => match k with
  | 0 => ("AwardLine$Rumour", "since", "[I", true)
  | 1 => ("AwardLine$Rumour", "sinceOfAll", "[I", true)
  | _ => ("AwardLine$Rumour", "notes", "LAwardLine$Notes;", true)
def tyX7 : Nat → FieldType := fun k => match k with
  | 0 => .array .int
  | 1 => .array .int
  | _ => .object "AwardLine$Notes"
abbrev wsX70 : List Cond := u_ws RX7 TX7 3
theorem nmX7 : ∀ a, a < 3 → ∀ b, b < 3 → a ≠ b → (TX7 a).2.1 ≠ (TX7 b).2.1 := by decide +kernel
theorem tyX7_ok : ∀ k, k < 3 → parseFieldDescriptor (TX7 k).2.2.1 = some (tyX7 k) := by decide +kernel
abbrev cX7_init : ByteArray := prog_9_method_1_code
def yX7_init : MethodName := ⟨RX7, "<init>", "(LAwardLine$Notes;)V"⟩
abbrev cX7_spread : ByteArray := prog_9_method_2_code
def yX7_spread : MethodName := ⟨RX7, "spread", "(II)V"⟩
abbrev cX7_meetAll : ByteArray := prog_9_method_3_code
def yX7_meetAll : MethodName := ⟨RX7, "meetAll", "(I)Z"⟩
abbrev cX7_tells : ByteArray := prog_9_method_4_code
def yX7_tells : MethodName := ⟨RX7, "tells", "(IIII)Z"⟩
abbrev cX7_hears : ByteArray := prog_9_method_5_code
def yX7_hears : MethodName := ⟨RX7, "hears", "(II)Z"⟩
abbrev cX7_explain : ByteArray := prog_9_method_6_code
def yX7_explain : MethodName := ⟨RX7, "explain", "(I)I"⟩
abbrev cX7_carriers : ByteArray := prog_9_method_7_code
def yX7_carriers : MethodName := ⟨RX7, "carriers", "()I"⟩
abbrev cX7_hasAct : ByteArray := prog_9_method_8_code
def yX7_hasAct : MethodName := ⟨RX7, "hasAct", "(I)Z"⟩
abbrev cX7_carriersOf : ByteArray := prog_9_method_9_code
def yX7_carriersOf : MethodName := ⟨RX7, "carriersOf", "(I)I"⟩
abbrev cX7_losesAct : ByteArray := prog_9_method_10_code
def yX7_losesAct : MethodName := ⟨RX7, "losesAct", "(I)Z"⟩
def RX8 : String := "AwardLine$Terms"
def TX8 : u_T := fun k => match k with
  | 0 => ("AwardLine$Terms", "unit", "I", false)
  | 1 => ("AwardLine$Terms", "fear", "I", false)
  | 2 => ("AwardLine$Terms", "lose", "I", false)
  | 3 => ("AwardLine$Terms", "weight", "[I", true)
  | 4 => ("AwardLine$Terms", "knots", "I", false)
  | 5 => ("AwardLine$Terms", "knot", "[I", true)
  | _ => ("AwardLine$Terms", "number", "[I", true)
def tyX8 : Nat → FieldType := fun k => match k with
  | 0 => .int
  | 1 => .int
  | 2 => .int
  | 3 => .array .int
  | 4 => .int
  | 5 => .array .int
  | _ => .array .int
abbrev wsX80 : List Cond := u_ws RX8 TX8 7
theorem nmX8 : ∀ a, a < 7 → ∀ b, b < 7 → a ≠ b → (TX8 a).2.1 ≠ (TX8 b).2.1 := by decide +kernel
theorem tyX8_ok : ∀ k, k < 7 → parseFieldDescriptor (TX8 k).2.2.1 = some (tyX8 k) := by decide +kernel
abbrev cX8_init : ByteArray := prog_10_method_1_code
def yX8_init : MethodName := ⟨RX8, "<init>", "()V"⟩
abbrev cX8_clear : ByteArray := prog_10_method_2_code
def yX8_clear : MethodName := ⟨RX8, "clear", "()V"⟩
def RX9 : String := "AwardLine$Token"
def TX9 : u_T := fun k => match k with
  | _ => ("", "", "", false)
def tyX9 : Nat → FieldType := fun k => match k with
  | _ => .int
abbrev wsX90 : List Cond := u_ws RX9 TX9 0
theorem nmX9 : ∀ a, a < 0 → ∀ b, b < 0 → a ≠ b → (TX9 a).2.1 ≠ (TX9 b).2.1 := by decide +kernel
theorem tyX9_ok : ∀ k, k < 0 → parseFieldDescriptor (TX9 k).2.2.1 = some (tyX9 k) := by decide +kernel
def RX10 : String := "AwardLine$Toll"
def TX10 : u_T := fun k => match k with
  | 0 => ("AwardLine$Toll", "bestLine", "I", false)
  | 1 => ("AwardLine$Toll", "bestHarm", "I", false)
  | 2 => ("AwardLine$Toll", "land", "LAwardLine$Land;", true)
  | 3 => ("AwardLine$Toll", "census", "LAwardLine$Census;", true)
  | 4 => ("AwardLine$Toll", "ofShrine", "I", false)
  | 5 => ("AwardLine$Toll", "ofRail", "I", false)
  | 6 => ("AwardLine$Toll", "ofWater", "I", false)
  | 7 => ("AwardLine$Toll", "restCosts", "[I", true)
  | 8 => ("AwardLine$Toll", "surplus", "[I", true)
  | 9 => ("AwardLine$Toll", "faith", "[I", true)
  | _ => ("AwardLine$Toll", "company", "[I", true)
def tyX10 : Nat → FieldType := fun k => match k with
  | 0 => .int
  | 1 => .int
  | 2 => .object "AwardLine$Land"
  | 3 => .object "AwardLine$Census"
  | 4 => .int
  | 5 => .int
  | 6 => .int
  | 7 => .array .int
  | 8 => .array .int
  | 9 => .array .int
  | _ => .array .int
abbrev wsX100 : List Cond := u_ws RX10 TX10 11
theorem nmX10 : ∀ a, a < 11 → ∀ b, b < 11 → a ≠ b → (TX10 a).2.1 ≠ (TX10 b).2.1 := by decide +kernel
theorem tyX10_ok : ∀ k, k < 11 → parseFieldDescriptor (TX10 k).2.2.1 = some (tyX10 k) := by decide +kernel
abbrev cX10_init : ByteArray := prog_12_method_1_code
def yX10_init : MethodName := ⟨RX10, "<init>", "(LAwardLine$Land;LAwardLine$Census;)V"⟩
abbrev cX10_wrong : ByteArray := prog_12_method_2_code
def yX10_wrong : MethodName := ⟨RX10, "wrong", "(I)I"⟩
abbrev cX10_harm : ByteArray := prog_12_method_3_code
def yX10_harm : MethodName := ⟨RX10, "harm", "(ILAwardLine$Terms;)I"⟩
abbrev cX10_heed : ByteArray := prog_12_method_4_code
def yX10_heed : MethodName := ⟨RX10, "heed", "(LAwardLine$Terms;)V"⟩
abbrev cX10_search : ByteArray := prog_12_method_5_code
def yX10_search : MethodName := ⟨RX10, "search", "(LAwardLine$Terms;)V"⟩
abbrev cX10_ownCost : ByteArray := prog_12_method_6_code
def yX10_ownCost : MethodName := ⟨RX10, "ownCost", "(II)I"⟩
abbrev cX10_choose : ByteArray := prog_12_method_7_code
def yX10_choose : MethodName := ⟨RX10, "choose", "(III)V"⟩
abbrev cX10_weigh : ByteArray := prog_12_method_8_code
def yX10_weigh : MethodName := ⟨RX10, "weigh", "(I)I"⟩
abbrev cX10_gives : ByteArray := prog_12_method_9_code
def yX10_gives : MethodName := ⟨RX10, "gives", "(IIII)Z"⟩
def RX11 : String := "AwardLine"
def TX11 : u_T := fun k => match k with
  | 0 => ("AwardLine", "today", "I", false)
  | 1 => ("AwardLine", "reader", "LAwardLine$Reader;", true)
  | 2 => ("AwardLine", "terms", "LAwardLine$Terms;", false)
  | 3 => ("AwardLine", "spare", "LAwardLine$Terms;", false)
  | 4 => ("AwardLine", "land", "LAwardLine$Land;", true)
  | 5 => ("AwardLine", "notes", "LAwardLine$Notes;", true)
  | 6 => ("AwardLine", "census", "LAwardLine$Census;", true)
  | 7 => ("AwardLine", "drafts", "LAwardLine$Drafts;", true)
  | 8 => ("AwardLine", "judge", "LAwardLine$Judge;", true)
  | 9 => ("AwardLine", "toll", "LAwardLine$Toll;", true)
  | 10 => ("AwardLine", "rumour", "LAwardLine$Rumour;", true)
  | _ => ("AwardLine", "exodus", "LAwardLine$Exodus;", true)
def tyX11 : Nat → FieldType := fun k => match k with
  | 0 => .int
  | 1 => .object "AwardLine$Reader"
  | 2 => .object "AwardLine$Terms"
  | 3 => .object "AwardLine$Terms"
  | 4 => .object "AwardLine$Land"
  | 5 => .object "AwardLine$Notes"
  | 6 => .object "AwardLine$Census"
  | 7 => .object "AwardLine$Drafts"
  | 8 => .object "AwardLine$Judge"
  | 9 => .object "AwardLine$Toll"
  | 10 => .object "AwardLine$Rumour"
  | _ => .object "AwardLine$Exodus"
abbrev wsX110 : List Cond := u_ws RX11 TX11 12
theorem nmX11 : ∀ a, a < 12 → ∀ b, b < 12 → a ≠ b → (TX11 a).2.1 ≠ (TX11 b).2.1 := by decide +kernel
theorem tyX11_ok : ∀ k, k < 12 → parseFieldDescriptor (TX11 k).2.2.1 = some (tyX11 k) := by decide +kernel
abbrev cX11_init : ByteArray := prog_1_method_1_code
def yX11_init : MethodName := ⟨RX11, "<init>", "()V"⟩
abbrev cX11_feed : ByteArray := prog_1_method_2_code
def yX11_feed : MethodName := ⟨RX11, "feed", "(IIIII)I"⟩
abbrev cX11_terms : ByteArray := prog_1_method_3_code
def yX11_terms : MethodName := ⟨RX11, "terms", "(I)I"⟩
abbrev cX11_fault : ByteArray := prog_1_method_4_code
def yX11_fault : MethodName := ⟨RX11, "fault", "(I)I"⟩
abbrev cX11_land : ByteArray := prog_1_method_5_code
def yX11_land : MethodName := ⟨RX11, "land", "(II)Z"⟩
abbrev cX11_days : ByteArray := prog_1_method_6_code
def yX11_days : MethodName := ⟨RX11, "days", "(I)I"⟩
abbrev cX11_village : ByteArray := prog_1_method_7_code
def yX11_village : MethodName := ⟨RX11, "village", "(IIIZ)Z"⟩
abbrev cX11_errs : ByteArray := prog_1_method_8_code
def yX11_errs : MethodName := ⟨RX11, "errs", "(II)Z"⟩
abbrev cX11_count : ByteArray := prog_1_method_9_code
def yX11_count : MethodName := ⟨RX11, "count", "(IIII)I"⟩
abbrev cX11_note : ByteArray := prog_1_method_10_code
def yX11_note : MethodName := ⟨RX11, "note", "(IIII)I"⟩
abbrev cX11_strike : ByteArray := prog_1_method_11_code
def yX11_strike : MethodName := ⟨RX11, "strike", "(I)I"⟩
abbrev cX11_span : ByteArray := prog_1_method_12_code
def yX11_span : MethodName := ⟨RX11, "span", "(IIII)I"⟩
abbrev cX11_canal : ByteArray := prog_1_method_13_code
def yX11_canal : MethodName := ⟨RX11, "canal", "(I)I"⟩
abbrev cX11_drinks : ByteArray := prog_1_method_14_code
def yX11_drinks : MethodName := ⟨RX11, "drinks", "(II)I"⟩
abbrev cX11_given : ByteArray := prog_1_method_15_code
def yX11_given : MethodName := ⟨RX11, "given", "(I)I"⟩
abbrev cX11_turned : ByteArray := prog_1_method_16_code
def yX11_turned : MethodName := ⟨RX11, "turned", "(II)I"⟩
abbrev cX11_draft : ByteArray := prog_1_method_17_code
def yX11_draft : MethodName := ⟨RX11, "draft", "(I)I"⟩
abbrev cX11_look : ByteArray := prog_1_method_18_code
def yX11_look : MethodName := ⟨RX11, "look", "(II)I"⟩
abbrev cX11_does : ByteArray := prog_1_method_19_code
def yX11_does : MethodName := ⟨RX11, "does", "(III)I"⟩
abbrev cX11_best : ByteArray := prog_1_method_20_code
def yX11_best : MethodName := ⟨RX11, "best", "(II)I"⟩
abbrev cX11_weights : ByteArray := prog_1_method_21_code
def yX11_weights : MethodName := ⟨RX11, "weights", "(II)I"⟩
abbrev cX11_knows : ByteArray := prog_1_method_22_code
def yX11_knows : MethodName := ⟨RX11, "knows", "(III)I"⟩
abbrev cX11_explained : ByteArray := prog_1_method_23_code
def yX11_explained : MethodName := ⟨RX11, "explained", "(II)I"⟩
abbrev cX11_through : ByteArray := prog_1_method_24_code
def yX11_through : MethodName := ⟨RX11, "through", "(I)I"⟩
abbrev cX11_candidate : ByteArray := prog_1_method_25_code
def yX11_candidate : MethodName := ⟨RX11, "candidate", "(I)I"⟩
abbrev cX11_flight : ByteArray := prog_1_method_26_code
def yX11_flight : MethodName := ⟨RX11, "flight", "(IIIII)I"⟩
abbrev cX11_guards : ByteArray := prog_1_method_27_code
def yX11_guards : MethodName := ⟨RX11, "guards", "(IIIII)I"⟩
abbrev cX11_counted : ByteArray := prog_1_method_28_code
def yX11_counted : MethodName := ⟨RX11, "counted", "(I)I"⟩
abbrev cX11_isDay : ByteArray := prog_1_method_29_code
def yX11_isDay : MethodName := ⟨RX11, "isDay", "(I)Z"⟩
abbrev cX11_isSide : ByteArray := prog_1_method_30_code
def yX11_isSide : MethodName := ⟨RX11, "isSide", "(I)Z"⟩
abbrev cX11_isHand : ByteArray := prog_1_method_31_code
def yX11_isHand : MethodName := ⟨RX11, "isHand", "(I)Z"⟩
abbrev cX11_isPerson : ByteArray := prog_1_method_32_code
def yX11_isPerson : MethodName := ⟨RX11, "isPerson", "(I)Z"⟩
abbrev cX11_isCount : ByteArray := prog_1_method_33_code
def yX11_isCount : MethodName := ⟨RX11, "isCount", "(I)Z"⟩
abbrev cX11_leastOf : ByteArray := prog_1_method_34_code
def yX11_leastOf : MethodName := ⟨RX11, "leastOf", "(I)I"⟩
abbrev cX11_shareUp : ByteArray := prog_1_method_35_code
def yX11_shareUp : MethodName := ⟨RX11, "shareUp", "(II)I"⟩
def RX12 : String := "AwardLineModel"
def TX12 : u_T := fun k => match k with
  | 0 => ("AwardLineModel", "thrown", "I", false)
  | 1 => ("AwardLineModel", "tape", "[I", true)
  | 2 => ("AwardLineModel", "taped", "I", false)
  | 3 => ("AwardLineModel", "knotSort", "[I", true)
  | 4 => ("AwardLineModel", "knotValue", "[I", true)
  | 5 => ("AwardLineModel", "knotMany", "I", false)
  | 6 => ("AwardLineModel", "knotNew", "I", false)
  | 7 => ("AwardLineModel", "hasFirst", "Z", false)
  | 8 => ("AwardLineModel", "counted", "I", false)
  | 9 => ("AwardLineModel", "rule", "[I", true)
  | 10 => ("AwardLineModel", "lines", "I", false)
  | 11 => ("AwardLineModel", "told", "I", false)
  | 12 => ("AwardLineModel", "size", "I", false)
  | 13 => ("AwardLineModel", "at", "I", false)
  | 14 => ("AwardLineModel", "place", "I", false)
  | 15 => ("AwardLineModel", "sort", "I", false)
  | 16 => ("AwardLineModel", "value", "I", false)
  | 17 => ("AwardLineModel", "fault", "I", false)
  | 18 => ("AwardLineModel", "faultPlace", "I", false)
  | 19 => ("AwardLineModel", "lastFault", "I", false)
  | 20 => ("AwardLineModel", "lastPlace", "I", false)
  | 21 => ("AwardLineModel", "pile", "[I", true)
  | 22 => ("AwardLineModel", "piled", "I", false)
  | 23 => ("AwardLineModel", "open", "I", false)
  | 24 => ("AwardLineModel", "knots", "I", false)
  | 25 => ("AwardLineModel", "names", "[J", true)
  | 26 => ("AwardLineModel", "worked", "[J", true)
  | 27 => ("AwardLineModel", "workedMany", "I", false)
  | 28 => ("AwardLineModel", "today", "I", false)
  | 29 => ("AwardLineModel", "wide", "I", false)
  | 30 => ("AwardLineModel", "high", "I", false)
  | 31 => ("AwardLineModel", "district", "[I", true)
  | 32 => ("AwardLineModel", "shrine", "[I", true)
  | 33 => ("AwardLineModel", "rail", "[Z", true)
  | 34 => ("AwardLineModel", "err", "[I", true)
  | 35 => ("AwardLineModel", "canals", "I", false)
  | 36 => ("AwardLineModel", "canal", "[I", true)
  | 37 => ("AwardLineModel", "drinkers", "[I", true)
  | 38 => ("AwardLineModel", "drafts", "I", false)
  | 39 => ("AwardLineModel", "draftLine", "[I", true)
  | 40 => ("AwardLineModel", "draftDay", "[I", true)
  | 41 => ("AwardLineModel", "candidates", "I", false)
  | 42 => ("AwardLineModel", "candidate", "[I", true)
  | 43 => ("AwardLineModel", "notes", "I", false)
  | 44 => ("AwardLineModel", "kind", "[I", true)
  | 45 => ("AwardLineModel", "noteTold", "[I", true)
  | 46 => ("AwardLineModel", "one", "[I", true)
  | 47 => ("AwardLineModel", "two", "[I", true)
  | 48 => ("AwardLineModel", "three", "[I", true)
  | 49 => ("AwardLineModel", "four", "[I", true)
  | 50 => ("AwardLineModel", "isStruck", "[Z", true)
  | 51 => ("AwardLineModel", "counts", "[Z", true)
  | 52 => ("AwardLineModel", "spanLow", "I", false)
  | 53 => ("AwardLineModel", "spanHigh", "I", false)
  | 54 => ("AwardLineModel", "people", "[I", true)
  | 55 => ("AwardLineModel", "lean", "[I", true)
  | 56 => ("AwardLineModel", "from", "[I", true)
  | 57 => ("AwardLineModel", "there", "[I", true)
  | 58 => ("AwardLineModel", "then", "[I", true)
  | 59 => ("AwardLineModel", "steps", "[I", true)
  | _ => ("AwardLineModel", "lost", "I", false)
def tyX12 : Nat → FieldType := fun k => match k with
  | 0 => .int
  | 1 => .array .int
  | 2 => .int
  | 3 => .array .int
  | 4 => .array .int
  | 5 => .int
  | 6 => .int
  | 7 => .boolean
  | 8 => .int
  | 9 => .array .int
  | 10 => .int
  | 11 => .int
  | 12 => .int
  | 13 => .int
  | 14 => .int
  | 15 => .int
  | 16 => .int
  | 17 => .int
  | 18 => .int
  | 19 => .int
  | 20 => .int
  | 21 => .array .int
  | 22 => .int
  | 23 => .int
  | 24 => .int
  | 25 => .array .long
  | 26 => .array .long
  | 27 => .int
  | 28 => .int
  | 29 => .int
  | 30 => .int
  | 31 => .array .int
  | 32 => .array .int
  | 33 => .array .boolean
  | 34 => .array .int
  | 35 => .int
  | 36 => .array .int
  | 37 => .array .int
  | 38 => .int
  | 39 => .array .int
  | 40 => .array .int
  | 41 => .int
  | 42 => .array .int
  | 43 => .int
  | 44 => .array .int
  | 45 => .array .int
  | 46 => .array .int
  | 47 => .array .int
  | 48 => .array .int
  | 49 => .array .int
  | 50 => .array .boolean
  | 51 => .array .boolean
  | 52 => .int
  | 53 => .int
  | 54 => .array .int
  | 55 => .array .int
  | 56 => .array .int
  | 57 => .array .int
  | 58 => .array .int
  | 59 => .array .int
  | _ => .int
abbrev wsX120 : List Cond := u_ws RX12 TX12 61
theorem nmX12 : ∀ a, a < 61 → ∀ b, b < 61 → a ≠ b → (TX12 a).2.1 ≠ (TX12 b).2.1 := by decide +kernel
theorem tyX12_ok : ∀ k, k < 61 → parseFieldDescriptor (TX12 k).2.2.1 = some (tyX12 k) := by decide +kernel
abbrev cX12_init : ByteArray := prog_14_method_1_code
def yX12_init : MethodName := ⟨RX12, "<init>", "()V"⟩
abbrev cX12_thrown : ByteArray := prog_14_method_2_code
def yX12_thrown : MethodName := ⟨RX12, "thrown", "()I"⟩
abbrev cX12_feed : ByteArray := prog_14_method_3_code
def yX12_feed : MethodName := ⟨RX12, "feed", "(IIIII)I"⟩
abbrev cX12_here : ByteArray := prog_14_method_4_code
def yX12_here : MethodName := ⟨RX12, "here", "()I"⟩
abbrev cX12_isSmall : ByteArray := prog_14_method_5_code
def yX12_isSmall : MethodName := ⟨RX12, "isSmall", "(I)Z"⟩
abbrev cX12_isDigit : ByteArray := prog_14_method_6_code
def yX12_isDigit : MethodName := ⟨RX12, "isDigit", "(I)Z"⟩
abbrev cX12_next : ByteArray := prog_14_method_7_code
def yX12_next : MethodName := ⟨RX12, "next", "()V"⟩
abbrev cX12_word : ByteArray := prog_14_method_8_code
def yX12_word : MethodName := ⟨RX12, "word", "()I"⟩
abbrev cX12_wrong : ByteArray := prog_14_method_9_code
def yX12_wrong : MethodName := ⟨RX12, "wrong", "(I)V"⟩
abbrev cX12_isSign : ByteArray := prog_14_method_10_code
def yX12_isSign : MethodName := ⟨RX12, "isSign", "(I)Z"⟩
abbrev cX12_number : ByteArray := prog_14_method_11_code
def yX12_number : MethodName := ⟨RX12, "number", "(II)V"⟩
abbrev cX12_once : ByteArray := prog_14_method_12_code
def yX12_once : MethodName := ⟨RX12, "once", "(II)Z"⟩
abbrev cX12_line : ByteArray := prog_14_method_13_code
def yX12_line : MethodName := ⟨RX12, "line", "()V"⟩
abbrev cX12_unit : ByteArray := prog_14_method_14_code
def yX12_unit : MethodName := ⟨RX12, "unit", "()V"⟩
abbrev cX12_bind : ByteArray := prog_14_method_15_code
def yX12_bind : MethodName := ⟨RX12, "bind", "(I)I"⟩
abbrev cX12_knot : ByteArray := prog_14_method_16_code
def yX12_knot : MethodName := ⟨RX12, "knot", "()V"⟩
abbrev cX12_out : ByteArray := prog_14_method_17_code
def yX12_out : MethodName := ⟨RX12, "out", "(II)V"⟩
abbrev cX12_pour : ByteArray := prog_14_method_18_code
def yX12_pour : MethodName := ⟨RX12, "pour", "(I)V"⟩
abbrev cX12_waits : ByteArray := prog_14_method_19_code
def yX12_waits : MethodName := ⟨RX12, "waits", "(I)V"⟩
abbrev cX12_between : ByteArray := prog_14_method_20_code
def yX12_between : MethodName := ⟨RX12, "between", "()I"⟩
abbrev cX12_expression : ByteArray := prog_14_method_21_code
def yX12_expression : MethodName := ⟨RX12, "expression", "()V"⟩
abbrev cX12_sign : ByteArray := prog_14_method_22_code
def yX12_sign : MethodName := ⟨RX12, "sign", "(I)V"⟩
abbrev cX12_operand : ByteArray := prog_14_method_23_code
def yX12_operand : MethodName := ⟨RX12, "operand", "()Z"⟩
abbrev cX12_terms : ByteArray := prog_14_method_24_code
def yX12_terms : MethodName := ⟨RX12, "terms", "(I)I"⟩
abbrev cX12_fault : ByteArray := prog_14_method_25_code
def yX12_fault : MethodName := ⟨RX12, "fault", "(I)I"⟩
abbrev cX12_puts : ByteArray := prog_14_method_26_code
def yX12_puts : MethodName := ⟨RX12, "puts", "(J)Z"⟩
abbrev cX12_is : ByteArray := prog_14_method_27_code
def yX12_is : MethodName := ⟨RX12, "is", "(Z)J"⟩
abbrev cX12_does : ByteArray := prog_14_method_28_code
def yX12_does : MethodName := ⟨RX12, "does", "(I)Z"⟩
abbrev cX12_isFirst : ByteArray := prog_14_method_29_code
def yX12_isFirst : MethodName := ⟨RX12, "isFirst", "()Z"⟩
abbrev cX12_lays : ByteArray := prog_14_method_30_code
def yX12_lays : MethodName := ⟨RX12, "lays", "(II)V"⟩
abbrev cX12_land : ByteArray := prog_14_method_31_code
def yX12_land : MethodName := ⟨RX12, "land", "(II)Z"⟩
abbrev cX12_cells : ByteArray := prog_14_method_32_code
def yX12_cells : MethodName := ⟨RX12, "cells", "()I"⟩
abbrev cX12_isVillage : ByteArray := prog_14_method_33_code
def yX12_isVillage : MethodName := ⟨RX12, "isVillage", "(I)Z"⟩
abbrev cX12_isDay : ByteArray := prog_14_method_34_code
def yX12_isDay : MethodName := ⟨RX12, "isDay", "(I)Z"⟩
abbrev cX12_isLine : ByteArray := prog_14_method_35_code
def yX12_isLine : MethodName := ⟨RX12, "isLine", "(I)Z"⟩
abbrev cX12_isDraft : ByteArray := prog_14_method_36_code
def yX12_isDraft : MethodName := ⟨RX12, "isDraft", "(I)Z"⟩
abbrev cX12_isPerson : ByteArray := prog_14_method_37_code
def yX12_isPerson : MethodName := ⟨RX12, "isPerson", "(I)Z"⟩
abbrev cX12_days : ByteArray := prog_14_method_38_code
def yX12_days : MethodName := ⟨RX12, "days", "(I)I"⟩
abbrev cX12_village : ByteArray := prog_14_method_39_code
def yX12_village : MethodName := ⟨RX12, "village", "(IIIZ)Z"⟩
abbrev cX12_errs : ByteArray := prog_14_method_40_code
def yX12_errs : MethodName := ⟨RX12, "errs", "(II)Z"⟩
abbrev cX12_noted : ByteArray := prog_14_method_41_code
def yX12_noted : MethodName := ⟨RX12, "noted", "(IIIII)I"⟩
abbrev cX12_count : ByteArray := prog_14_method_42_code
def yX12_count : MethodName := ⟨RX12, "count", "(IIII)I"⟩
abbrev cX12_note : ByteArray := prog_14_method_43_code
def yX12_note : MethodName := ⟨RX12, "note", "(IIII)I"⟩
abbrev cX12_strike : ByteArray := prog_14_method_44_code
def yX12_strike : MethodName := ⟨RX12, "strike", "(I)I"⟩
abbrev cX12_knowsNotes : ByteArray := prog_14_method_45_code
def yX12_knowsNotes : MethodName := ⟨RX12, "knowsNotes", "(I)V"⟩
abbrev cX12_spans : ByteArray := prog_14_method_46_code
def yX12_spans : MethodName := ⟨RX12, "spans", "(II)Z"⟩
abbrev cX12_reckons : ByteArray := prog_14_method_47_code
def yX12_reckons : MethodName := ⟨RX12, "reckons", "(I)V"⟩
abbrev cX12_span : ByteArray := prog_14_method_48_code
def yX12_span : MethodName := ⟨RX12, "span", "(IIII)I"⟩
abbrev cX12_canal : ByteArray := prog_14_method_49_code
def yX12_canal : MethodName := ⟨RX12, "canal", "(I)I"⟩
abbrev cX12_drinks : ByteArray := prog_14_method_50_code
def yX12_drinks : MethodName := ⟨RX12, "drinks", "(II)I"⟩
abbrev cX12_isHead : ByteArray := prog_14_method_51_code
def yX12_isHead : MethodName := ⟨RX12, "isHead", "(I)Z"⟩
abbrev cX12_isOfUnit : ByteArray := prog_14_method_52_code
def yX12_isOfUnit : MethodName := ⟨RX12, "isOfUnit", "(III)Z"⟩
abbrev cX12_givenBy : ByteArray := prog_14_method_53_code
def yX12_givenBy : MethodName := ⟨RX12, "givenBy", "(I)I"⟩
abbrev cX12_given : ByteArray := prog_14_method_54_code
def yX12_given : MethodName := ⟨RX12, "given", "(I)I"⟩
abbrev cX12_bits : ByteArray := prog_14_method_55_code
def yX12_bits : MethodName := ⟨RX12, "bits", "(I)I"⟩
abbrev cX12_turned : ByteArray := prog_14_method_56_code
def yX12_turned : MethodName := ⟨RX12, "turned", "(II)I"⟩
abbrev cX12_draft : ByteArray := prog_14_method_57_code
def yX12_draft : MethodName := ⟨RX12, "draft", "(I)I"⟩
abbrev cX12_look : ByteArray := prog_14_method_58_code
def yX12_look : MethodName := ⟨RX12, "look", "(II)I"⟩
abbrev cX12_sideOf : ByteArray := prog_14_method_59_code
def yX12_sideOf : MethodName := ⟨RX12, "sideOf", "(II)I"⟩
abbrev cX12_areBeside : ByteArray := prog_14_method_60_code
def yX12_areBeside : MethodName := ⟨RX12, "areBeside", "(II)Z"⟩
abbrev cX12_wrongOnes : ByteArray := prog_14_method_61_code
def yX12_wrongOnes : MethodName := ⟨RX12, "wrongOnes", "(I)I"⟩
abbrev cX12_pieces : ByteArray := prog_14_method_62_code
def yX12_pieces : MethodName := ⟨RX12, "pieces", "(I)I"⟩
abbrev cX12_around : ByteArray := prog_14_method_63_code
def yX12_around : MethodName := ⟨RX12, "around", "(I)I"⟩
abbrev cX12_cutOf : ByteArray := prog_14_method_64_code
def yX12_cutOf : MethodName := ⟨RX12, "cutOf", "(I)I"⟩
abbrev cX12_severed : ByteArray := prog_14_method_65_code
def yX12_severed : MethodName := ⟨RX12, "severed", "(I)I"⟩
abbrev cX12_desecrated : ByteArray := prog_14_method_66_code
def yX12_desecrated : MethodName := ⟨RX12, "desecrated", "(I)I"⟩
abbrev cX12_harm : ByteArray := prog_14_method_67_code
def yX12_harm : MethodName := ⟨RX12, "harm", "(I)I"⟩
abbrev cX12_all : ByteArray := prog_14_method_68_code
def yX12_all : MethodName := ⟨RX12, "all", "()I"⟩
abbrev cX12_does_ : ByteArray := prog_14_method_69_code
def yX12_does_ : MethodName := ⟨RX12, "does", "(III)I"⟩
abbrev cX12_best : ByteArray := prog_14_method_70_code
def yX12_best : MethodName := ⟨RX12, "best", "(II)I"⟩
abbrev cX12_weights : ByteArray := prog_14_method_71_code
def yX12_weights : MethodName := ⟨RX12, "weights", "(II)I"⟩
abbrev cX12_gives : ByteArray := prog_14_method_72_code
def yX12_gives : MethodName := ⟨RX12, "gives", "(IIII)Z"⟩
abbrev cX12_spreads : ByteArray := prog_14_method_73_code
def yX12_spreads : MethodName := ⟨RX12, "spreads", "(II)V"⟩
abbrev cX12_tells : ByteArray := prog_14_method_74_code
def yX12_tells : MethodName := ⟨RX12, "tells", "(IIII)Z"⟩
abbrev cX12_knows : ByteArray := prog_14_method_75_code
def yX12_knows : MethodName := ⟨RX12, "knows", "(III)I"⟩
abbrev cX12_isSure : ByteArray := prog_14_method_76_code
def yX12_isSure : MethodName := ⟨RX12, "isSure", "(I)Z"⟩
abbrev cX12_explained : ByteArray := prog_14_method_77_code
def yX12_explained : MethodName := ⟨RX12, "explained", "(II)I"⟩
abbrev cX12_through : ByteArray := prog_14_method_78_code
def yX12_through : MethodName := ⟨RX12, "through", "(I)I"⟩
abbrev cX12_candidate : ByteArray := prog_14_method_79_code
def yX12_candidate : MethodName := ⟨RX12, "candidate", "(I)I"⟩
abbrev cX12_paces : ByteArray := prog_14_method_80_code
def yX12_paces : MethodName := ⟨RX12, "paces", "(I)V"⟩
abbrev cX12_goal : ByteArray := prog_14_method_81_code
def yX12_goal : MethodName := ⟨RX12, "goal", "(II)I"⟩
abbrev cX12_leaves : ByteArray := prog_14_method_82_code
def yX12_leaves : MethodName := ⟨RX12, "leaves", "(III)V"⟩
abbrev cX12_flees : ByteArray := prog_14_method_83_code
def yX12_flees : MethodName := ⟨RX12, "flees", "(III)V"⟩
abbrev cX12_flight : ByteArray := prog_14_method_84_code
def yX12_flight : MethodName := ⟨RX12, "flight", "(IIIII)I"⟩
abbrev cX12_guarded : ByteArray := prog_14_method_85_code
def yX12_guarded : MethodName := ⟨RX12, "guarded", "(I)I"⟩
abbrev cX12_guards : ByteArray := prog_14_method_86_code
def yX12_guards : MethodName := ⟨RX12, "guards", "(IIIII)I"⟩
abbrev cX12_counted : ByteArray := prog_14_method_87_code
def yX12_counted : MethodName := ⟨RX12, "counted", "(I)I"⟩
def RJ6 : String := "java/lang/Integer"
def TJ6 : u_T := fun k => match k with
  | _ => ("", "", "", false)
def tyJ6 : Nat → FieldType := fun k => match k with
  | _ => .int
abbrev wsJ60 : List Cond := u_ws RJ6 TJ6 0
theorem nmJ6 : ∀ a, a < 0 → ∀ b, b < 0 → a ≠ b → (TJ6 a).2.1 ≠ (TJ6 b).2.1 := by decide +kernel
theorem tyJ6_ok : ∀ k, k < 0 → parseFieldDescriptor (TJ6 k).2.2.1 = some (tyJ6 k) := by decide +kernel
abbrev cJ6_bitCount_0f7a4 : ByteArray := prog_17_method_49_code
def yJ6_bitCount_0f7a4 : MethodName := ⟨RJ6, "bitCount", "(I)I"⟩
def RJ9 : String := "java/lang/Math"
def TJ9 : u_T := fun k => match k with
  | _ => ("", "", "", false)
def tyJ9 : Nat → FieldType := fun k => match k with
  | _ => .int
abbrev wsJ90 : List Cond := u_ws RJ9 TJ9 0
theorem nmJ9 : ∀ a, a < 0 → ∀ b, b < 0 → a ≠ b → (TJ9 a).2.1 ≠ (TJ9 b).2.1 := by decide +kernel
theorem tyJ9_ok : ∀ k, k < 0 → parseFieldDescriptor (TJ9 k).2.2.1 = some (tyJ9 k) := by decide +kernel
abbrev cJ9_abs_0f7a4 : ByteArray := prog_18_method_59_code
def yJ9_abs_0f7a4 : MethodName := ⟨RJ9, "abs", "(I)I"⟩
abbrev cJ9_abs_067f4 : ByteArray := prog_18_method_61_code
def yJ9_abs_067f4 : MethodName := ⟨RJ9, "abs", "(J)J"⟩
abbrev cJ9_max_7cf53 : ByteArray := prog_18_method_65_code
def yJ9_max_7cf53 : MethodName := ⟨RJ9, "max", "(II)I"⟩
abbrev cJ9_min_7cf53 : ByteArray := prog_18_method_69_code
def yJ9_min_7cf53 : MethodName := ⟨RJ9, "min", "(II)I"⟩
def RJ0 : String := "java/lang/String"
def TJ0 : u_T := fun k => match k with
  | _ => ("", "", "", false)
def tyJ0 : Nat → FieldType := fun k => match k with
  | _ => .int
abbrev wsJ00 : List Cond := u_ws RJ0 TJ0 0
theorem nmJ0 : ∀ a, a < 0 → ∀ b, b < 0 → a ≠ b → (TJ0 a).2.1 ≠ (TJ0 b).2.1 := by decide +kernel
theorem tyJ0_ok : ∀ k, k < 0 → parseFieldDescriptor (TJ0 k).2.2.1 = some (tyJ0 k) := by decide +kernel
abbrev cJ0_length_8abf5 : ByteArray := prog_20_method_54_code
def yJ0_length_8abf5 : MethodName := ⟨RJ0, "length", "()I"⟩
abbrev cJ0_charAt_5068e : ByteArray := prog_20_method_56_code
def yJ0_charAt_5068e : MethodName := ⟨RJ0, "charAt", "(I)C"⟩
abbrev cJ0_coder_7d493 : ByteArray := prog_20_method_152_code
def yJ0_coder_7d493 : MethodName := ⟨RJ0, "coder", "()B"⟩
abbrev cJ0_isLatin1_aae02 : ByteArray := prog_20_method_154_code
def yJ0_isLatin1_aae02 : MethodName := ⟨RJ0, "isLatin1", "()Z"⟩
abbrev cJ0_checkIndex_df160 : ByteArray := prog_20_method_155_code
def yJ0_checkIndex_df160 : MethodName := ⟨RJ0, "checkIndex", "(II)V"⟩
def RJ1 : String := "java/lang/StringLatin1"
def TJ1 : u_T := fun k => match k with
  | _ => ("", "", "", false)
def tyJ1 : Nat → FieldType := fun k => match k with
  | _ => .int
abbrev wsJ10 : List Cond := u_ws RJ1 TJ1 0
theorem nmJ1 : ∀ a, a < 0 → ∀ b, b < 0 → a ≠ b → (TJ1 a).2.1 ≠ (TJ1 b).2.1 := by decide +kernel
theorem tyJ1_ok : ∀ k, k < 0 → parseFieldDescriptor (TJ1 k).2.2.1 = some (tyJ1 k) := by decide +kernel
abbrev cJ1_charAt_3b067 : ByteArray := prog_21_method_2_code
def yJ1_charAt_3b067 : MethodName := ⟨RJ1, "charAt", "([BI)C"⟩
def RJ2 : String := "java/lang/StringUTF16"
def TJ2 : u_T := fun k => match k with
  | _ => ("", "", "", false)
def tyJ2 : Nat → FieldType := fun k => match k with
  | _ => .int
abbrev wsJ20 : List Cond := u_ws RJ2 TJ2 0
theorem nmJ2 : ∀ a, a < 0 → ∀ b, b < 0 → a ≠ b → (TJ2 a).2.1 ≠ (TJ2 b).2.1 := by decide +kernel
theorem tyJ2_ok : ∀ k, k < 0 → parseFieldDescriptor (TJ2 k).2.2.1 = some (tyJ2 k) := by decide +kernel
abbrev cJ2_getChar_3b067 : ByteArray := prog_22_method_5_code
def yJ2_getChar_3b067 : MethodName := ⟨RJ2, "getChar", "([BI)C"⟩
abbrev cJ2_length_9d52b : ByteArray := prog_22_method_6_code
def yJ2_length_9d52b : MethodName := ⟨RJ2, "length", "([B)I"⟩
abbrev cJ2_charAt_3b067 : ByteArray := prog_22_method_83_code
def yJ2_charAt_3b067 : MethodName := ⟨RJ2, "charAt", "([BI)C"⟩
abbrev cJ2_checkIndex_2214a : ByteArray := prog_22_method_91_code
def yJ2_checkIndex_2214a : MethodName := ⟨RJ2, "checkIndex", "(I[B)V"⟩
def RJ10 : String := "java/lang/System"
def TJ10 : u_T := fun k => match k with
  | _ => ("", "", "", false)
def tyJ10 : Nat → FieldType := fun k => match k with
  | _ => .int
abbrev wsJ100 : List Cond := u_ws RJ10 TJ10 0
theorem nmJ10 : ∀ a, a < 0 → ∀ b, b < 0 → a ≠ b → (TJ10 a).2.1 ≠ (TJ10 b).2.1 := by decide +kernel
theorem tyJ10_ok : ∀ k, k < 0 → parseFieldDescriptor (TJ10 k).2.2.1 = some (tyJ10 k) := by decide +kernel
def RJ7 : String := "java/util/Arrays"
def TJ7 : u_T := fun k => match k with
  | _ => ("", "", "", false)
def tyJ7 : Nat → FieldType := fun k => match k with
  | _ => .int
abbrev wsJ70 : List Cond := u_ws RJ7 TJ7 0
theorem nmJ7 : ∀ a, a < 0 → ∀ b, b < 0 → a ≠ b → (TJ7 a).2.1 ≠ (TJ7 b).2.1 := by decide +kernel
theorem tyJ7_ok : ∀ k, k < 0 → parseFieldDescriptor (TJ7 k).2.2.1 = some (tyJ7 k) := by decide +kernel
abbrev cJ7_fill_53178 : ByteArray := prog_25_method_103_code
def yJ7_fill_53178 : MethodName := ⟨RJ7, "fill", "([II)V"⟩
def RJ3 : String := "jdk/internal/util/Preconditions"
def TJ3 : u_T := fun k => match k with
  | _ => ("", "", "", false)
def tyJ3 : Nat → FieldType := fun k => match k with
  | _ => .int
abbrev wsJ30 : List Cond := u_ws RJ3 TJ3 0
theorem nmJ3 : ∀ a, a < 0 → ∀ b, b < 0 → a ≠ b → (TJ3 a).2.1 ≠ (TJ3 b).2.1 := by decide +kernel
theorem tyJ3_ok : ∀ k, k < 0 → parseFieldDescriptor (TJ3 k).2.2.1 = some (tyJ3 k) := by decide +kernel
abbrev cJ3_checkIndex_8e157 : ByteArray := prog_27_method_11_code
def yJ3_checkIndex_8e157 : MethodName := ⟨RJ3, "checkIndex", "(IILjava/util/function/BiFunction;)I"⟩
def RL : String := "AwardLineLaw"
abbrev cL_look : ByteArray := method_3_code
def yL_look : MethodName := ⟨RL, "look", "(LAwardLine;II[J)I"⟩
abbrev cL_law : ByteArray := code
def yL_law : MethodName := ⟨RL, "law", "([I)Z"⟩
def wsL_law0_r1 : List Cond := [Cond.classLink RL 8 RX11, Cond.instantiable RX11 12, Cond.initialized RX11, Cond.classLink RL 18 RX12, Cond.instantiable RX12 61, Cond.initialized RX12, Cond.arrayClass .long, Cond.methodLink RL 17 yX11_init, Cond.instanceMethod yX11_init, Cond.code yX11_init cX11_init 4 none, Cond.methodLink RX11 1 objectInit, Cond.instanceMethod objectInit, Cond.code objectInit ⟨#[0xb1]⟩ 1 none, Cond.classLink RX11 7 RX4, Cond.instantiable RX4 12, Cond.initialized RX4, Cond.classLink RX11 10 RX5, Cond.instantiable RX5 8, Cond.initialized RX5, Cond.classLink RX11 13 RX0, Cond.instantiable RX0 6, Cond.initialized RX0, Cond.fieldLink RX11 18 "AwardLine" "today" "I", Cond.classLink RX11 24 RX6]
def wsL_law0_r2 : List Cond := [Cond.instantiable RX6 13, Cond.initialized RX6, Cond.fieldLink RX11 27 "AwardLine" "reader" "LAwardLine$Reader;", Cond.classLink RX11 31 RX8, Cond.instantiable RX8 7, Cond.initialized RX8, Cond.fieldLink RX11 34 "AwardLine" "terms" "LAwardLine$Terms;", Cond.fieldLink RX11 38 "AwardLine" "spare" "LAwardLine$Terms;", Cond.fieldLink RX11 41 "AwardLine" "land" "LAwardLine$Land;", Cond.fieldLink RX11 45 "AwardLine" "notes" "LAwardLine$Notes;", Cond.fieldLink RX11 49 "AwardLine" "census" "LAwardLine$Census;", Cond.classLink RX11 53 RX1, Cond.instantiable RX1 3, Cond.initialized RX1, Cond.fieldLink RX11 56 "AwardLine" "drafts" "LAwardLine$Drafts;", Cond.classLink RX11 60 RX3, Cond.instantiable RX3 4, Cond.initialized RX3, Cond.fieldLink RX11 65 "AwardLine" "judge" "LAwardLine$Judge;", Cond.classLink RX11 69 RX10, Cond.instantiable RX10 11, Cond.initialized RX10, Cond.fieldLink RX11 72 "AwardLine" "toll" "LAwardLine$Toll;", Cond.classLink RX11 76 RX7]
def wsL_law0_r3 : List Cond := [Cond.instantiable RX7 3, Cond.initialized RX7, Cond.fieldLink RX11 81 "AwardLine" "rumour" "LAwardLine$Rumour;", Cond.classLink RX11 85 RX2, Cond.instantiable RX2 12, Cond.initialized RX2, Cond.fieldLink RX11 88 "AwardLine" "exodus" "LAwardLine$Exodus;", Cond.methodLink RX11 9 yX4_init, Cond.instanceMethod yX4_init, Cond.code yX4_init cX4_init 1 none, Cond.methodLink RX4 3 objectInit, Cond.arrayClass .int, Cond.fieldLink RX4 9 "AwardLine$Land" "districts" "[I", Cond.fieldLink RX4 15 "AwardLine$Land" "shrines" "[I", Cond.fieldLink RX4 18 "AwardLine$Land" "headOf" "[I", Cond.fieldLink RX4 21 "AwardLine$Land" "drinkers" "[I", Cond.methodLink RX4 24 yX4_lay, Cond.instanceMethod yX4_lay, Cond.selects RX4 yX4_lay yX4_lay, Cond.code yX4_lay cX4_lay 4 none, Cond.fieldLink RX4 28 "AwardLine$Land" "wide" "I", Cond.fieldLink RX4 32 "AwardLine$Land" "size" "I", Cond.fieldLink RX4 35 "AwardLine$Land" "all" "I", Cond.fieldLink RX4 38 "AwardLine$Land" "firstColumn" "I"]
def wsL_law0_r4 : List Cond := [Cond.fieldLink RX4 41 "AwardLine$Land" "lastColumn" "I", Cond.fieldLink RX4 50 "AwardLine$Land" "rails" "I", Cond.fieldLink RX4 53 "AwardLine$Land" "heads" "I", Cond.fieldLink RX4 56 "AwardLine$Land" "canals" "I", Cond.methodLink RX4 44 yJ7_fill_53178, Cond.static yJ7_fill_53178, Cond.initialized RJ7, Cond.code yJ7_fill_53178 cJ7_fill_53178 4 none, Cond.instanceMethod yX5_init, Cond.code yX5_init cX5_init 1 none, Cond.methodLink RX5 3 objectInit, Cond.fieldLink RX5 11 "AwardLine$Notes" "kind" "[I", Cond.fieldLink RX5 15 "AwardLine$Notes" "subject" "[I", Cond.fieldLink RX5 18 "AwardLine$Notes" "object" "[I", Cond.fieldLink RX5 21 "AwardLine$Notes" "third" "[I", Cond.fieldLink RX5 24 "AwardLine$Notes" "fourth" "[I", Cond.fieldLink RX5 27 "AwardLine$Notes" "told" "[I", Cond.arrayClass .boolean, Cond.fieldLink RX5 30 "AwardLine$Notes" "known" "[Z", Cond.methodLink RX11 15 yX0_init, Cond.instanceMethod yX0_init, Cond.code yX0_init cX0_init 3 none, Cond.methodLink RX0 3 objectInit, Cond.fieldLink RX0 9 "AwardLine$Census" "error" "[I"]
def wsL_law0_r5 : List Cond := [Cond.classLink RX0 15 "[[I", Cond.fieldLink RX0 17 "AwardLine$Census" "least" "[[I", Cond.fieldLink RX0 20 "AwardLine$Census" "greatest" "[[I", Cond.fieldLink RX0 23 "AwardLine$Census" "people" "[[I", Cond.fieldLink RX0 26 "AwardLine$Census" "land" "LAwardLine$Land;", Cond.fieldLink RX0 30 "AwardLine$Census" "notes" "LAwardLine$Notes;", Cond.instanceMethod yX6_init, Cond.code yX6_init cX6_init 1 none, Cond.methodLink RX6 3 objectInit, Cond.fieldLink RX6 9 "AwardLine$Reader" "faultPlace" "I", Cond.fieldLink RX6 15 "AwardLine$Reader" "tape" "[I", Cond.methodLink RX11 33 yX8_init, Cond.instanceMethod yX8_init, Cond.code yX8_init cX8_init 1 none, Cond.methodLink RX8 3 objectInit, Cond.fieldLink RX8 11 "AwardLine$Terms" "weight" "[I", Cond.fieldLink RX8 15 "AwardLine$Terms" "knot" "[I", Cond.fieldLink RX8 18 "AwardLine$Terms" "number" "[I", Cond.methodLink RX8 21 yX8_clear, Cond.instanceMethod yX8_clear, Cond.selects RX8 yX8_clear yX8_clear, Cond.code yX8_clear cX8_clear 1 none, Cond.fieldLink RX8 24 "AwardLine$Terms" "unit" "I", Cond.fieldLink RX8 28 "AwardLine$Terms" "fear" "I"]
def wsL_law0_r6 : List Cond := [Cond.fieldLink RX8 31 "AwardLine$Terms" "lose" "I", Cond.fieldLink RX8 34 "AwardLine$Terms" "knots" "I", Cond.methodLink RX8 37 yJ7_fill_53178, Cond.instanceMethod yX1_init, Cond.code yX1_init cX1_init 1 none, Cond.methodLink RX1 3 objectInit, Cond.fieldLink RX1 9 "AwardLine$Drafts" "line" "[I", Cond.fieldLink RX1 15 "AwardLine$Drafts" "day" "[I", Cond.methodLink RX11 62 yX3_init, Cond.instanceMethod yX3_init, Cond.code yX3_init cX3_init 3 none, Cond.methodLink RX3 3 objectInit, Cond.fieldLink RX3 9 "AwardLine$Judge" "stack" "[J", Cond.fieldLink RX3 15 "AwardLine$Judge" "land" "LAwardLine$Land;", Cond.fieldLink RX3 19 "AwardLine$Judge" "census" "LAwardLine$Census;", Cond.methodLink RX11 71 yX10_init, Cond.instanceMethod yX10_init, Cond.code yX10_init cX10_init 3 none, Cond.methodLink RX10 3 objectInit, Cond.fieldLink RX10 11 "AwardLine$Toll" "restCosts" "[I", Cond.fieldLink RX10 15 "AwardLine$Toll" "surplus" "[I", Cond.fieldLink RX10 18 "AwardLine$Toll" "faith" "[I", Cond.fieldLink RX10 21 "AwardLine$Toll" "company" "[I", Cond.fieldLink RX10 24 "AwardLine$Toll" "land" "LAwardLine$Land;"]
def wsL_law0_r7 : List Cond := [Cond.fieldLink RX10 28 "AwardLine$Toll" "census" "LAwardLine$Census;", Cond.methodLink RX11 78 yX7_init, Cond.instanceMethod yX7_init, Cond.code yX7_init cX7_init 2 none, Cond.methodLink RX7 3 objectInit, Cond.fieldLink RX7 9 "AwardLine$Rumour" "since" "[I", Cond.fieldLink RX7 15 "AwardLine$Rumour" "sinceOfAll" "[I", Cond.fieldLink RX7 18 "AwardLine$Rumour" "notes" "LAwardLine$Notes;", Cond.methodLink RX11 87 yX2_init, Cond.instanceMethod yX2_init, Cond.code yX2_init cX2_init 3 none, Cond.methodLink RX2 3 objectInit, Cond.fieldLink RX2 9 "AwardLine$Exodus" "candidate" "[I", Cond.classLink RX2 15 "[[I", Cond.fieldLink RX2 17 "AwardLine$Exodus" "goal" "[[I", Cond.fieldLink RX2 20 "AwardLine$Exodus" "astray" "[I", Cond.fieldLink RX2 23 "AwardLine$Exodus" "settled" "[I", Cond.fieldLink RX2 26 "AwardLine$Exodus" "arriving" "[I", Cond.fieldLink RX2 29 "AwardLine$Exodus" "land" "LAwardLine$Land;", Cond.fieldLink RX2 33 "AwardLine$Exodus" "census" "LAwardLine$Census;", Cond.methodLink RL 20 yX12_init, Cond.instanceMethod yX12_init, Cond.code yX12_init cX12_init 1 none, Cond.methodLink RX12 1 objectInit]
def wsL_law0_r8 : List Cond := [Cond.fieldLink RX12 7 "AwardLineModel" "tape" "[I", Cond.fieldLink RX12 13 "AwardLineModel" "knotSort" "[I", Cond.fieldLink RX12 16 "AwardLineModel" "knotValue" "[I", Cond.fieldLink RX12 19 "AwardLineModel" "rule" "[I", Cond.fieldLink RX12 22 "AwardLineModel" "lastPlace" "I", Cond.fieldLink RX12 26 "AwardLineModel" "pile" "[I", Cond.fieldLink RX12 29 "AwardLineModel" "names" "[J", Cond.fieldLink RX12 33 "AwardLineModel" "worked" "[J", Cond.fieldLink RX12 36 "AwardLineModel" "district" "[I", Cond.fieldLink RX12 39 "AwardLineModel" "shrine" "[I", Cond.fieldLink RX12 42 "AwardLineModel" "rail" "[Z", Cond.fieldLink RX12 46 "AwardLineModel" "err" "[I", Cond.fieldLink RX12 49 "AwardLineModel" "canal" "[I", Cond.fieldLink RX12 52 "AwardLineModel" "drinkers" "[I", Cond.fieldLink RX12 55 "AwardLineModel" "draftLine" "[I", Cond.fieldLink RX12 58 "AwardLineModel" "draftDay" "[I", Cond.fieldLink RX12 61 "AwardLineModel" "candidate" "[I", Cond.fieldLink RX12 64 "AwardLineModel" "kind" "[I", Cond.fieldLink RX12 67 "AwardLineModel" "noteTold" "[I", Cond.fieldLink RX12 70 "AwardLineModel" "one" "[I", Cond.fieldLink RX12 73 "AwardLineModel" "two" "[I", Cond.fieldLink RX12 76 "AwardLineModel" "three" "[I", Cond.fieldLink RX12 79 "AwardLineModel" "four" "[I", Cond.fieldLink RX12 82 "AwardLineModel" "isStruck" "[Z"]
def wsL_law0_r9 : List Cond := [Cond.fieldLink RX12 85 "AwardLineModel" "counts" "[Z", Cond.fieldLink RX12 88 "AwardLineModel" "people" "[I", Cond.fieldLink RX12 91 "AwardLineModel" "lean" "[I", Cond.fieldLink RX12 94 "AwardLineModel" "from" "[I", Cond.fieldLink RX12 97 "AwardLineModel" "there" "[I", Cond.fieldLink RX12 100 "AwardLineModel" "then" "[I", Cond.fieldLink RX12 103 "AwardLineModel" "steps" "[I", Cond.methodLink RX12 106 yX12_lays, Cond.instanceMethod yX12_lays, Cond.selects RX12 yX12_lays yX12_lays, Cond.code yX12_lays cX12_lays 4 none, Cond.fieldLink RX12 269 "AwardLineModel" "wide" "I", Cond.fieldLink RX12 272 "AwardLineModel" "high" "I", Cond.fieldLink RX12 275 "AwardLineModel" "canals" "I", Cond.fieldLink RX12 278 "AwardLineModel" "drafts" "I", Cond.fieldLink RX12 281 "AwardLineModel" "candidates" "I", Cond.fieldLink RX12 284 "AwardLineModel" "notes" "I", Cond.methodLink RL 21 yX11_feed, Cond.instanceMethod yX11_feed, Cond.selects RX11 yX11_feed yX11_feed, Cond.code yX11_feed cX11_feed 6 (some .int), Cond.fieldLink RX11 100 "AwardLine$Reader" "held" "I", Cond.methodLink RX11 92 yX6_hasRoom, Cond.instanceMethod yX6_hasRoom]
def wsL_law0_r10 : List Cond := [Cond.selects RX6 yX6_hasRoom yX6_hasRoom, Cond.code yX6_hasRoom cX6_hasRoom 1 (some .boolean), Cond.fieldLink RX6 19 "AwardLine$Reader" "held" "I", Cond.methodLink RX11 96 yX6_store, Cond.instanceMethod yX6_store, Cond.selects RX6 yX6_store yX6_store, Cond.code yX6_store cX6_store 3 none, Cond.methodLink RL 25 yX12_feed, Cond.instanceMethod yX12_feed, Cond.selects RX12 yX12_feed yX12_feed, Cond.code yX12_feed cX12_feed 8 (some .int), Cond.fieldLink RX12 110 "AwardLineModel" "thrown" "I", Cond.fieldLink RX12 113 "AwardLineModel" "taped" "I", Cond.methodLink RL 26 yX11_terms, Cond.instanceMethod yX11_terms, Cond.selects RX11 yX11_terms yX11_terms, Cond.code yX11_terms cX11_terms 4 (some .int), Cond.methodLink RX11 103 yX6_read, Cond.instanceMethod yX6_read, Cond.selects RX6 yX6_read yX6_read, Cond.code yX6_read cX6_read 4 (some .int), Cond.fieldLink RX6 22 "AwardLine$Reader" "into" "LAwardLine$Terms;", Cond.methodLink RX6 31 Lib.Math.min.name, Cond.static Lib.Math.min.name]
def wsL_law0_r11 : List Cond := [Cond.initialized "java/lang/Math", Cond.code Lib.Math.min.name Lib.Math.min.code 2 (some .int), Cond.fieldLink RX6 37 "AwardLine$Reader" "length" "I", Cond.fieldLink RX6 40 "AwardLine$Reader" "at" "I", Cond.fieldLink RX6 43 "AwardLine$Reader" "fault" "I", Cond.fieldLink RX6 46 "AwardLine$Reader" "knotsRead" "I", Cond.fieldLink RX6 49 "AwardLine$Reader" "linesTold" "I", Cond.fieldLink RX6 55 "AwardLine$Reader" "token" "I", Cond.methodLink RX6 26 yX8_clear, Cond.methodLink RX6 52 yX6_advance, Cond.instanceMethod yX6_advance, Cond.selects RX6 yX6_advance yX6_advance, Cond.code yX6_advance cX6_advance 1 none, Cond.fieldLink RX6 68 "AwardLine$Reader" "place" "I", Cond.methodLink RX6 139 yX6_isLetter, Cond.static yX6_isLetter, Cond.code yX6_isLetter cX6_isLetter 1 (some .boolean), Cond.methodLink RX6 142 yX6_readWord, Cond.instanceMethod yX6_readWord, Cond.selects RX6 yX6_readWord yX6_readWord, Cond.code yX6_readWord cX6_readWord 1 none, Cond.methodLink RX6 155 yX6_wordBetween, Cond.instanceMethod yX6_wordBetween, Cond.selects RX6 yX6_wordBetween yX6_wordBetween]
def wsL_law0_r12 : List Cond := [Cond.code yX6_wordBetween cX6_wordBetween 8 (some .int), Cond.methodLink RX6 160 yJ0_length_8abf5, Cond.instanceMethod yJ0_length_8abf5, Cond.selects RJ0 yJ0_length_8abf5 yJ0_length_8abf5, Cond.initialized RJ0, Cond.code yJ0_length_8abf5 cJ0_length_8abf5 1 (some .int), Cond.fieldLink RJ0 9 "java/lang/String" "value" "[B", Cond.methodLink RJ0 335 yJ0_coder_7d493, Cond.instanceMethod yJ0_coder_7d493, Cond.selects RJ0 yJ0_coder_7d493 yJ0_coder_7d493, Cond.code yJ0_coder_7d493 cJ0_coder_7d493 1 (some .byte), Cond.fieldLink RJ0 38 "java/lang/String" "COMPACT_STRINGS" "Z", Cond.fieldLink RJ0 15 "java/lang/String" "coder" "B", Cond.methodLink RX6 165 yJ0_charAt_5068e, Cond.instanceMethod yJ0_charAt_5068e, Cond.selects RJ0 yJ0_charAt_5068e yJ0_charAt_5068e, Cond.code yJ0_charAt_5068e cJ0_charAt_5068e 2 (some .char), Cond.methodLink RJ0 492 yJ0_isLatin1_aae02, Cond.instanceMethod yJ0_isLatin1_aae02, Cond.selects RJ0 yJ0_isLatin1_aae02 yJ0_isLatin1_aae02, Cond.code yJ0_isLatin1_aae02 cJ0_isLatin1_aae02 1 (some .boolean), Cond.methodLink RJ0 495 yJ1_charAt_3b067, Cond.static yJ1_charAt_3b067, Cond.initialized RJ1]
def wsL_law0_r13 : List Cond := [Cond.code yJ1_charAt_3b067 cJ1_charAt_3b067 2 (some .char), Cond.methodLink RJ1 9 yJ0_checkIndex_df160, Cond.static yJ0_checkIndex_df160, Cond.code yJ0_checkIndex_df160 cJ0_checkIndex_df160 2 none, Cond.fieldLink RJ0 1053 "jdk/internal/util/Preconditions" "SIOOBE_FORMATTER" "Ljava/util/function/BiFunction;", Cond.methodLink RJ0 1059 yJ3_checkIndex_8e157, Cond.static yJ3_checkIndex_8e157, Cond.initialized RJ3, Cond.code yJ3_checkIndex_8e157 cJ3_checkIndex_8e157 3 (some .int), Cond.methodLink RJ0 498 yJ2_charAt_3b067, Cond.static yJ2_charAt_3b067, Cond.initialized RJ2, Cond.code yJ2_charAt_3b067 cJ2_charAt_3b067 2 (some .char), Cond.methodLink RJ2 67 yJ2_checkIndex_2214a, Cond.static yJ2_checkIndex_2214a, Cond.code yJ2_checkIndex_2214a cJ2_checkIndex_2214a 2 none, Cond.methodLink RJ2 48 yJ2_length_9d52b, Cond.static yJ2_length_9d52b, Cond.code yJ2_length_9d52b cJ2_length_9d52b 1 (some .int), Cond.methodLink RJ2 414 yJ0_checkIndex_df160, Cond.methodLink RJ2 71 yJ2_getChar_3b067, Cond.static yJ2_getChar_3b067, Cond.code yJ2_getChar_3b067 cJ2_getChar_3b067 2 (some .char), Cond.fieldLink RJ2 44 "java/lang/StringUTF16" "$assertionsDisabled" "Z"]
def wsL_law0_r14 : List Cond := [Cond.fieldLink RJ2 59 "java/lang/StringUTF16" "HI_BYTE_SHIFT" "I", Cond.fieldLink RJ2 63 "java/lang/StringUTF16" "LO_BYTE_SHIFT" "I", Cond.methodLink RX6 145 yX6_isDigit, Cond.static yX6_isDigit, Cond.code yX6_isDigit cX6_isDigit 1 (some .boolean), Cond.methodLink RX6 148 yX6_readNumber, Cond.instanceMethod yX6_readNumber, Cond.selects RX6 yX6_readNumber yX6_readNumber, Cond.code yX6_readNumber cX6_readNumber 1 none, Cond.fieldLink RX6 111 "AwardLine$Reader" "number" "I", Cond.methodLink RX6 151 yX6_readSign, Cond.instanceMethod yX6_readSign, Cond.selects RX6 yX6_readSign yX6_readSign, Cond.code yX6_readSign cX6_readSign 2 none, Cond.methodLink RX6 169 yX6_follows, Cond.instanceMethod yX6_follows, Cond.selects RX6 yX6_follows yX6_follows, Cond.code yX6_follows cX6_follows 2 (some .boolean), Cond.methodLink RX6 60 yX6_lineOfTerms, Cond.instanceMethod yX6_lineOfTerms, Cond.selects RX6 yX6_lineOfTerms yX6_lineOfTerms, Cond.code yX6_lineOfTerms cX6_lineOfTerms 1 (some .boolean), Cond.methodLink RX6 74 yX6_once, Cond.instanceMethod yX6_once]
def wsL_law0_r15 : List Cond := [Cond.selects RX6 yX6_once yX6_once, Cond.code yX6_once cX6_once 2 (some .boolean), Cond.methodLink RX6 71 yX6_refuse, Cond.instanceMethod yX6_refuse, Cond.selects RX6 yX6_refuse yX6_refuse, Cond.code yX6_refuse cX6_refuse 2 (some .boolean), Cond.methodLink RX6 77 yX6_unitLine, Cond.instanceMethod yX6_unitLine, Cond.selects RX6 yX6_unitLine yX6_unitLine, Cond.code yX6_unitLine cX6_unitLine 1 (some .boolean), Cond.fieldLink RX6 93 "AwardLine$Terms" "unit" "I", Cond.methodLink RX6 80 yX6_row, Cond.instanceMethod yX6_row, Cond.selects RX6 yX6_row yX6_row, Cond.code yX6_row cX6_row 6 (some .boolean), Cond.methodLink RX6 114 yX6_negated, Cond.instanceMethod yX6_negated, Cond.selects RX6 yX6_negated yX6_negated, Cond.methodLink RX6 117 yX6_part, Cond.instanceMethod yX6_part, Cond.selects RX6 yX6_part yX6_part, Cond.methodLink RX6 120 yX6_rankOf, Cond.static yX6_rankOf, Cond.code yX6_rankOf cX6_rankOf 1 (some .int)]
def wsL_law0_r16 : List Cond := [Cond.methodLink RX6 124 yX6_claimKnot, Cond.instanceMethod yX6_claimKnot, Cond.selects RX6 yX6_claimKnot yX6_claimKnot, Cond.code yX6_claimKnot cX6_claimKnot 1 (some .boolean), Cond.methodLink RX6 127 yX6_emit, Cond.instanceMethod yX6_emit, Cond.selects RX6 yX6_emit yX6_emit, Cond.code yX6_emit cX6_emit 3 none, Cond.fieldLink RX6 131 "AwardLine$Terms" "knots" "I", Cond.fieldLink RX6 134 "AwardLine$Terms" "knot" "[I", Cond.fieldLink RX6 137 "AwardLine$Terms" "number" "[I", Cond.code yX6_negated cX6_negated 4 (some .boolean), Cond.code yX6_part cX6_part 5 (some .boolean), Cond.methodLink RX6 64 yX6_pass, Cond.instanceMethod yX6_pass, Cond.selects RX6 yX6_pass yX6_pass, Cond.code yX6_pass cX6_pass 2 (some .boolean), Cond.methodLink RX6 84 yX6_fearLine, Cond.instanceMethod yX6_fearLine, Cond.selects RX6 yX6_fearLine yX6_fearLine, Cond.code yX6_fearLine cX6_fearLine 2 (some .boolean), Cond.fieldLink RX6 99 "AwardLine$Reader" "amountRead" "I", Cond.fieldLink RX6 102 "AwardLine$Terms" "fear" "I", Cond.methodLink RX6 96 yX6_amount]
def wsL_law0_r17 : List Cond := [Cond.instanceMethod yX6_amount, Cond.selects RX6 yX6_amount yX6_amount, Cond.code yX6_amount cX6_amount 2 (some .boolean), Cond.methodLink RX6 87 yX6_loseLine, Cond.instanceMethod yX6_loseLine, Cond.selects RX6 yX6_loseLine yX6_loseLine, Cond.code yX6_loseLine cX6_loseLine 2 (some .boolean), Cond.fieldLink RX6 105 "AwardLine$Terms" "lose" "I", Cond.methodLink RX6 90 yX6_weighLine, Cond.instanceMethod yX6_weighLine, Cond.selects RX6 yX6_weighLine yX6_weighLine, Cond.code yX6_weighLine cX6_weighLine 3 (some .boolean), Cond.fieldLink RX6 108 "AwardLine$Terms" "weight" "[I", Cond.methodLink RL 30 yX12_terms, Cond.instanceMethod yX12_terms, Cond.selects RX12 yX12_terms yX12_terms, Cond.code yX12_terms cX12_terms 3 (some .int), Cond.fieldLink RX12 119 "AwardLineModel" "size" "I", Cond.fieldLink RX12 116 "AwardLineModel" "at" "I", Cond.fieldLink RX12 156 "AwardLineModel" "fault" "I", Cond.fieldLink RX12 159 "AwardLineModel" "faultPlace" "I", Cond.fieldLink RX12 191 "AwardLineModel" "counted" "I", Cond.fieldLink RX12 194 "AwardLineModel" "knotNew" "I", Cond.fieldLink RX12 188 "AwardLineModel" "lines" "I"]
def wsL_law0_r18 : List Cond := [Cond.fieldLink RX12 169 "AwardLineModel" "told" "I", Cond.fieldLink RX12 129 "AwardLineModel" "sort" "I", Cond.fieldLink RX12 232 "AwardLineModel" "lastFault" "I", Cond.fieldLink RX12 235 "AwardLineModel" "knotMany" "I", Cond.fieldLink RX12 238 "AwardLineModel" "hasFirst" "Z", Cond.fieldLink RX12 242 "AwardLineModel" "knots" "I", Cond.methodLink RX12 166 yX12_next, Cond.instanceMethod yX12_next, Cond.selects RX12 yX12_next yX12_next, Cond.code yX12_next cX12_next 2 none, Cond.fieldLink RX12 126 "AwardLineModel" "place" "I", Cond.fieldLink RX12 139 "AwardLineModel" "value" "I", Cond.methodLink RX12 122 yX12_here, Cond.instanceMethod yX12_here, Cond.selects RX12 yX12_here yX12_here, Cond.code yX12_here cX12_here 1 (some .int), Cond.methodLink RX12 132 yX12_isSmall, Cond.static yX12_isSmall, Cond.code yX12_isSmall cX12_isSmall 1 (some .boolean), Cond.methodLink RX12 136 yX12_word, Cond.instanceMethod yX12_word, Cond.selects RX12 yX12_word yX12_word, Cond.code yX12_word cX12_word 4 (some .int), Cond.methodLink RX12 147 yJ0_length_8abf5]
def wsL_law0_r19 : List Cond := [Cond.methodLink RX12 152 yJ0_charAt_5068e, Cond.methodLink RX12 142 yX12_isDigit, Cond.static yX12_isDigit, Cond.code yX12_isDigit cX12_isDigit 1 (some .boolean), Cond.methodLink RX12 229 yX12_line, Cond.instanceMethod yX12_line, Cond.selects RX12 yX12_line yX12_line, Cond.code yX12_line cX12_line 3 none, Cond.methodLink RX12 162 yX12_wrong, Cond.instanceMethod yX12_wrong, Cond.selects RX12 yX12_wrong yX12_wrong, Cond.code yX12_wrong cX12_wrong 2 none, Cond.methodLink RX12 172 yX12_once, Cond.instanceMethod yX12_once, Cond.selects RX12 yX12_once yX12_once, Cond.code yX12_once cX12_once 3 (some .boolean), Cond.methodLink RX12 176 yX12_number, Cond.instanceMethod yX12_number, Cond.selects RX12 yX12_number yX12_number, Cond.code yX12_number cX12_number 3 none, Cond.methodLink RX12 179 yX12_unit, Cond.instanceMethod yX12_unit, Cond.selects RX12 yX12_unit yX12_unit, Cond.code yX12_unit cX12_unit 1 none]
def wsL_law0_r20 : List Cond := [Cond.methodLink RX12 182 yX12_expression, Cond.instanceMethod yX12_expression, Cond.selects RX12 yX12_expression yX12_expression, Cond.code yX12_expression cX12_expression 4 none, Cond.fieldLink RX12 197 "AwardLineModel" "piled" "I", Cond.fieldLink RX12 207 "AwardLineModel" "open" "I", Cond.methodLink RX12 210 yX12_operand, Cond.instanceMethod yX12_operand, Cond.selects RX12 yX12_operand yX12_operand, Cond.code yX12_operand cX12_operand 2 (some .boolean), Cond.methodLink RX12 223 yX12_knot, Cond.instanceMethod yX12_knot, Cond.selects RX12 yX12_knot yX12_knot, Cond.code yX12_knot cX12_knot 1 none, Cond.methodLink RX12 204 yX12_out, Cond.instanceMethod yX12_out, Cond.selects RX12 yX12_out yX12_out, Cond.code yX12_out cX12_out 3 none, Cond.methodLink RX12 185 yX12_isSign, Cond.instanceMethod yX12_isSign, Cond.selects RX12 yX12_isSign yX12_isSign, Cond.code yX12_isSign cX12_isSign 2 (some .boolean), Cond.methodLink RX12 226 yX12_waits, Cond.instanceMethod yX12_waits]
def wsL_law0_r21 : List Cond := [Cond.selects RX12 yX12_waits yX12_waits, Cond.code yX12_waits cX12_waits 2 none, Cond.methodLink RX12 200 yX12_bind, Cond.static yX12_bind, Cond.code yX12_bind cX12_bind 1 (some .int), Cond.methodLink RX12 214 yX12_between, Cond.instanceMethod yX12_between, Cond.selects RX12 yX12_between yX12_between, Cond.code yX12_between cX12_between 1 (some .int), Cond.methodLink RX12 217 yX12_sign, Cond.instanceMethod yX12_sign, Cond.selects RX12 yX12_sign yX12_sign, Cond.code yX12_sign cX12_sign 2 none, Cond.methodLink RX12 220 yX12_pour, Cond.instanceMethod yX12_pour, Cond.selects RX12 yX12_pour yX12_pour, Cond.code yX12_pour cX12_pour 2 none, Cond.methodLink RL 31 yX11_fault, Cond.instanceMethod yX11_fault, Cond.selects RX11 yX11_fault yX11_fault, Cond.code yX11_fault cX11_fault 2 (some .int), Cond.fieldLink RX11 107 "AwardLine$Reader" "fault" "I", Cond.fieldLink RX11 110 "AwardLine$Reader" "faultPlace" "I", Cond.methodLink RL 34 yX12_fault]
def wsL_law0_r22 : List Cond := [Cond.instanceMethod yX12_fault, Cond.selects RX12 yX12_fault yX12_fault, Cond.code yX12_fault cX12_fault 2 (some .int), Cond.methodLink RL 35 yX11_land, Cond.instanceMethod yX11_land, Cond.selects RX11 yX11_land yX11_land, Cond.code yX11_land cX11_land 3 (some .boolean), Cond.fieldLink RX11 117 "AwardLine$Notes" "held" "I", Cond.fieldLink RX11 118 "AwardLine$Drafts" "held" "I", Cond.fieldLink RX11 119 "AwardLine$Exodus" "candidates" "I", Cond.methodLink RX11 113 yX4_lay, Cond.methodLink RL 39 yX12_land, Cond.instanceMethod yX12_land, Cond.selects RX12 yX12_land yX12_land, Cond.code yX12_land cX12_land 3 (some .boolean), Cond.methodLink RL 40 yX11_days, Cond.instanceMethod yX11_days, Cond.selects RX11 yX11_days yX11_days, Cond.code yX11_days cX11_days 2 (some .int), Cond.methodLink RL 43 yX12_days, Cond.instanceMethod yX12_days, Cond.selects RX12 yX12_days yX12_days, Cond.code yX12_days cX12_days 2 (some .int), Cond.fieldLink RX12 290 "AwardLineModel" "today" "I"]
def wsL_law0_r23 : List Cond := [Cond.methodLink RL 44 yX11_village, Cond.instanceMethod yX11_village, Cond.selects RX11 yX11_village yX11_village, Cond.code yX11_village cX11_village 5 (some .boolean), Cond.methodLink RX11 122 yX4_has, Cond.instanceMethod yX4_has, Cond.selects RX4 yX4_has yX4_has, Cond.code yX4_has cX4_has 2 (some .boolean), Cond.methodLink RX11 126 yX11_isSide, Cond.static yX11_isSide, Cond.code yX11_isSide cX11_isSide 1 (some .boolean), Cond.methodLink RX11 129 yX4_describe, Cond.instanceMethod yX4_describe, Cond.selects RX4 yX4_describe yX4_describe, Cond.code yX4_describe cX4_describe 7 none, Cond.methodLink RL 48 yX12_village, Cond.instanceMethod yX12_village, Cond.selects RX12 yX12_village yX12_village, Cond.code yX12_village cX12_village 5 (some .boolean), Cond.methodLink RX12 293 yX12_isVillage, Cond.instanceMethod yX12_isVillage, Cond.selects RX12 yX12_isVillage yX12_isVillage, Cond.code yX12_isVillage cX12_isVillage 2 (some .boolean), Cond.methodLink RX12 287 yX12_cells]
def wsL_law0_r24 : List Cond := [Cond.instanceMethod yX12_cells, Cond.selects RX12 yX12_cells yX12_cells, Cond.code yX12_cells cX12_cells 1 (some .int), Cond.methodLink RL 49 yX11_errs, Cond.instanceMethod yX11_errs, Cond.selects RX11 yX11_errs yX11_errs, Cond.code yX11_errs cX11_errs 3 (some .boolean), Cond.fieldLink RX11 136 "AwardLine$Census" "error" "[I", Cond.methodLink RX11 133 yX11_isHand, Cond.static yX11_isHand, Cond.code yX11_isHand cX11_isHand 1 (some .boolean), Cond.methodLink RL 52 yX12_errs, Cond.instanceMethod yX12_errs, Cond.selects RX12 yX12_errs yX12_errs, Cond.code yX12_errs cX12_errs 3 (some .boolean), Cond.methodLink RL 53 yX11_count, Cond.instanceMethod yX11_count, Cond.selects RX11 yX11_count yX11_count, Cond.code yX11_count cX11_count 5 (some .int), Cond.methodLink RX11 140 yX11_isCount, Cond.static yX11_isCount, Cond.code yX11_isCount cX11_isCount 1 (some .boolean), Cond.methodLink RX11 143 yX5_add, Cond.instanceMethod yX5_add]
def wsL_law0_r25 : List Cond := [Cond.selects RX5 yX5_add yX5_add, Cond.code yX5_add cX5_add 7 (some .int), Cond.fieldLink RX5 34 "AwardLine$Notes" "held" "I", Cond.methodLink RL 57 yX12_count, Cond.instanceMethod yX12_count, Cond.selects RX12 yX12_count yX12_count, Cond.code yX12_count cX12_count 5 (some .int), Cond.methodLink RX12 296 yX12_noted, Cond.instanceMethod yX12_noted, Cond.selects RX12 yX12_noted yX12_noted, Cond.code yX12_noted cX12_noted 6 (some .int), Cond.methodLink RL 58 yX11_note, Cond.instanceMethod yX11_note, Cond.selects RX11 yX11_note yX11_note, Cond.code yX11_note cX11_note 6 (some .int), Cond.fieldLink RX11 151 "AwardLine$Drafts" "day" "[I", Cond.methodLink RX11 147 yX11_isPerson, Cond.static yX11_isPerson, Cond.code yX11_isPerson cX11_isPerson 1 (some .boolean), Cond.methodLink RX11 150 yX1_has, Cond.instanceMethod yX1_has, Cond.selects RX1 yX1_has yX1_has, Cond.code yX1_has cX1_has 2 (some .boolean), Cond.fieldLink RX1 18 "AwardLine$Drafts" "held" "I"]
def wsL_law0_r26 : List Cond := [Cond.methodLink RL 61 yX12_note, Cond.instanceMethod yX12_note, Cond.selects RX12 yX12_note yX12_note, Cond.code yX12_note cX12_note 5 (some .int), Cond.methodLink RX12 300 yX12_isPerson, Cond.static yX12_isPerson, Cond.code yX12_isPerson cX12_isPerson 1 (some .boolean), Cond.methodLink RX12 303 yX12_isDraft, Cond.instanceMethod yX12_isDraft, Cond.selects RX12 yX12_isDraft yX12_isDraft, Cond.code yX12_isDraft cX12_isDraft 2 (some .boolean), Cond.methodLink RL 62 yX11_strike, Cond.instanceMethod yX11_strike, Cond.selects RX11 yX11_strike yX11_strike, Cond.code yX11_strike cX11_strike 2 (some .int), Cond.methodLink RX11 154 yX5_has, Cond.instanceMethod yX5_has, Cond.selects RX5 yX5_has yX5_has, Cond.code yX5_has cX5_has 2 (some .boolean), Cond.methodLink RL 65 yX12_strike, Cond.instanceMethod yX12_strike, Cond.selects RX12 yX12_strike yX12_strike, Cond.code yX12_strike cX12_strike 2 (some .int), Cond.methodLink RL 66 yX11_span]
def wsL_law0_r27 : List Cond := [Cond.instanceMethod yX11_span, Cond.selects RX11 yX11_span yX11_span, Cond.code yX11_span cX11_span 7 (some .int), Cond.fieldLink RX11 161 "AwardLine$Census" "people" "[[I", Cond.fieldLink RX11 165 "AwardLine$Census" "least" "[[I", Cond.fieldLink RX11 168 "AwardLine$Census" "greatest" "[[I", Cond.methodLink RX11 155 yX11_isDay, Cond.static yX11_isDay, Cond.code yX11_isDay cX11_isDay 1 (some .boolean), Cond.methodLink RX11 158 yX0_take, Cond.instanceMethod yX0_take, Cond.selects RX0 yX0_take yX0_take, Cond.code yX0_take cX0_take 4 none, Cond.constant RX0 46 (1000000), Cond.fieldLink RX0 47 "AwardLine$Notes" "held" "I", Cond.fieldLink RX0 55 "AwardLine$Notes" "object" "[I", Cond.fieldLink RX0 64 "AwardLine$Notes" "subject" "[I", Cond.fieldLink RX0 67 "AwardLine$Notes" "third" "[I", Cond.fieldLink RX0 74 "AwardLine$Notes" "fourth" "[I", Cond.fieldLink RX0 77 "AwardLine$Land" "size" "I", Cond.methodLink RX0 34 yX5_sift, Cond.instanceMethod yX5_sift, Cond.selects RX5 yX5_sift yX5_sift, Cond.code yX5_sift cX5_sift 3 none]
def wsL_law0_r28 : List Cond := [Cond.methodLink RX5 38 yX5_isKnown, Cond.instanceMethod yX5_isKnown, Cond.selects RX5 yX5_isKnown yX5_isKnown, Cond.code yX5_isKnown cX5_isKnown 3 (some .boolean), Cond.methodLink RX5 42 yX5_has, Cond.methodLink RX0 40 yJ7_fill_53178, Cond.methodLink RX0 51 yX5_isKnown, Cond.methodLink RX0 58 yX4_has, Cond.methodLink RX0 70 yX0_narrow, Cond.instanceMethod yX0_narrow, Cond.selects RX0 yX0_narrow yX0_narrow, Cond.code yX0_narrow cX0_narrow 7 none, Cond.methodLink RX0 88 Lib.Math.max.name, Cond.static Lib.Math.max.name, Cond.code Lib.Math.max.name Lib.Math.max.code 2 (some .int), Cond.methodLink RX0 93 Lib.Math.min.name, Cond.static yX11_shareUp, Cond.code yX11_shareUp cX11_shareUp 2 (some .int), Cond.methodLink RX0 80 yX0_close, Cond.instanceMethod yX0_close, Cond.selects RX0 yX0_close yX0_close, Cond.code yX0_close cX0_close 5 none, Cond.methodLink RL 69 yX12_span, Cond.instanceMethod yX12_span]
def wsL_law0_r29 : List Cond := [Cond.selects RX12 yX12_span yX12_span, Cond.code yX12_span cX12_span 6 (some .int), Cond.fieldLink RX12 306 "AwardLineModel" "spanLow" "I", Cond.fieldLink RX12 309 "AwardLineModel" "spanHigh" "I", Cond.methodLink RX12 325 yX12_isDay, Cond.static yX12_isDay, Cond.code yX12_isDay cX12_isDay 1 (some .boolean), Cond.methodLink RX12 319 yX12_knowsNotes, Cond.instanceMethod yX12_knowsNotes, Cond.selects RX12 yX12_knowsNotes yX12_knowsNotes, Cond.code yX12_knowsNotes cX12_knowsNotes 3 none, Cond.methodLink RX12 322 yX12_spans, Cond.instanceMethod yX12_spans, Cond.selects RX12 yX12_spans yX12_spans, Cond.code yX12_spans cX12_spans 8 (some .boolean), Cond.methodLink RX12 312 Lib.Math.max.name, Cond.methodLink RX12 316 Lib.Math.min.name, Cond.methodLink RL 70 yX11_canal, Cond.instanceMethod yX11_canal, Cond.selects RX11 yX11_canal yX11_canal, Cond.code yX11_canal cX11_canal 2 (some .int), Cond.methodLink RX11 171 yX4_dig, Cond.instanceMethod yX4_dig, Cond.selects RX4 yX4_dig yX4_dig]
def wsL_law0_r30 : List Cond := [Cond.code yX4_dig cX4_dig 2 (some .int), Cond.methodLink RL 73 yX12_canal, Cond.instanceMethod yX12_canal, Cond.selects RX12 yX12_canal yX12_canal, Cond.code yX12_canal cX12_canal 2 (some .int), Cond.methodLink RL 74 yX11_drinks, Cond.instanceMethod yX11_drinks, Cond.selects RX11 yX11_drinks yX11_drinks, Cond.code yX11_drinks cX11_drinks 3 (some .int), Cond.fieldLink RX11 175 "AwardLine$Land" "canals" "I", Cond.methodLink RX11 178 yX4_lead, Cond.instanceMethod yX4_lead, Cond.selects RX4 yX4_lead yX4_lead, Cond.code yX4_lead cX4_lead 4 (some .int), Cond.methodLink RX4 59 yJ6_bitCount_0f7a4, Cond.static yJ6_bitCount_0f7a4, Cond.initialized RJ6, Cond.code yJ6_bitCount_0f7a4 cJ6_bitCount_0f7a4 1 (some .int), Cond.constant RJ6 265 (1431655765), Cond.constant RJ6 266 (858993459), Cond.constant RJ6 267 (252645135), Cond.methodLink RL 77 yX12_drinks, Cond.instanceMethod yX12_drinks, Cond.selects RX12 yX12_drinks yX12_drinks]
def wsL_law0_r31 : List Cond := [Cond.code yX12_drinks cX12_drinks 4 (some .int), Cond.methodLink RL 78 yX11_given, Cond.instanceMethod yX11_given, Cond.selects RX11 yX11_given yX11_given, Cond.code yX11_given cX11_given 2 (some .int), Cond.fieldLink RX11 182 "AwardLine$Terms" "unit" "I", Cond.methodLink RX11 185 yX3_award, Cond.instanceMethod yX3_award, Cond.selects RX3 yX3_award yX3_award, Cond.code yX3_award cX3_award 7 (some .int), Cond.fieldLink RX3 25 "AwardLine$Land" "all" "I", Cond.fieldLink RX3 35 "AwardLine$Land" "size" "I", Cond.fieldLink RX3 38 "AwardLine$Land" "districts" "[I", Cond.methodLink RX3 31 yX3_holds, Cond.instanceMethod yX3_holds, Cond.selects RX3 yX3_holds yX3_holds, Cond.code yX3_holds cX3_holds 6 (some .boolean), Cond.fieldLink RX3 42 "AwardLine$Terms" "knots" "I", Cond.fieldLink RX3 49 "AwardLine$Judge" "error" "Z", Cond.fieldLink RX3 53 "AwardLine$Terms" "knot" "[I", Cond.fieldLink RX3 66 "AwardLine$Terms" "number" "[I", Cond.methodLink RX3 45 yX3_peopleIn, Cond.instanceMethod yX3_peopleIn, Cond.selects RX3 yX3_peopleIn yX3_peopleIn]
def wsL_law0_r32 : List Cond := [Cond.code yX3_peopleIn cX3_peopleIn 6 (some .long), Cond.fieldLink RX3 76 "AwardLine$Census" "people" "[[I", Cond.methodLink RX3 58 yX3_truth, Cond.static yX3_truth, Cond.code yX3_truth cX3_truth 1 (some .long), Cond.methodLink RX3 62 yX3_isOperand, Cond.static yX3_isOperand, Cond.code yX3_isOperand cX3_isOperand 1 (some .boolean), Cond.methodLink RX3 69 yX3_named, Cond.instanceMethod yX3_named, Cond.selects RX3 yX3_named yX3_named, Cond.code yX3_named cX3_named 3 (some .long), Cond.fieldLink RX3 82 "AwardLine$Land" "shrines" "[I", Cond.fieldLink RX3 91 "AwardLine$Land" "rails" "I", Cond.fieldLink RX3 94 "AwardLine$Land" "heads" "I", Cond.methodLink RX3 85 yJ6_bitCount_0f7a4, Cond.methodLink RX3 72 yX3_worked, Cond.instanceMethod yX3_worked, Cond.selects RX3 yX3_worked yX3_worked, Cond.code yX3_worked cX3_worked 6 (some .long), Cond.methodLink RX3 97 yX3_bounded, Cond.instanceMethod yX3_bounded, Cond.selects RX3 yX3_bounded yX3_bounded, Cond.code yX3_bounded cX3_bounded 3 (some .long)]
def wsL_law0_r33 : List Cond := [Cond.constantLong RX3 108 (1000000000000), Cond.constantLong RX3 110 (-1000000000000), Cond.methodLink RX3 101 yX3_product, Cond.instanceMethod yX3_product, Cond.selects RX3 yX3_product yX3_product, Cond.code yX3_product cX3_product 5 (some .long), Cond.methodLink RX3 112 Lib.MathLoose.abs_long.x, Cond.static Lib.MathLoose.abs_long.x, Cond.code Lib.MathLoose.abs_long.x Lib.MathLoose.abs_long.code 2 (some .long), Cond.methodLink RX3 105 yX3_quotient, Cond.instanceMethod yX3_quotient, Cond.selects RX3 yX3_quotient yX3_quotient, Cond.code yX3_quotient cX3_quotient 5 (some .long), Cond.methodLink RL 81 yX12_given, Cond.instanceMethod yX12_given, Cond.selects RX12 yX12_given yX12_given, Cond.code yX12_given cX12_given 2 (some .int), Cond.methodLink RX12 340 yX12_reckons, Cond.instanceMethod yX12_reckons, Cond.selects RX12 yX12_reckons yX12_reckons, Cond.code yX12_reckons cX12_reckons 4 none, Cond.methodLink RX12 343 yX12_givenBy, Cond.instanceMethod yX12_givenBy, Cond.selects RX12 yX12_givenBy yX12_givenBy]
def wsL_law0_r34 : List Cond := [Cond.code yX12_givenBy cX12_givenBy 5 (some .int), Cond.constantLong RX12 332 (-1), Cond.methodLink RX12 328 yX12_isOfUnit, Cond.instanceMethod yX12_isOfUnit, Cond.selects RX12 yX12_isOfUnit yX12_isOfUnit, Cond.code yX12_isOfUnit cX12_isOfUnit 4 (some .boolean), Cond.methodLink RX12 252 yX12_is, Cond.static yX12_is, Cond.code yX12_is cX12_is 1 (some .long), Cond.methodLink RX12 334 yX12_isHead, Cond.instanceMethod yX12_isHead, Cond.selects RX12 yX12_isHead yX12_isHead, Cond.code yX12_isHead cX12_isHead 3 (some .boolean), Cond.methodLink RX12 337 yX12_isFirst, Cond.instanceMethod yX12_isFirst, Cond.selects RX12 yX12_isFirst yX12_isFirst, Cond.code yX12_isFirst cX12_isFirst 3 (some .boolean), Cond.fieldLink RX12 245 "AwardLineModel" "workedMany" "I", Cond.methodLink RX12 266 yX12_does, Cond.instanceMethod yX12_does, Cond.selects RX12 yX12_does yX12_does, Cond.code yX12_does cX12_does 6 (some .boolean), Cond.methodLink RX12 260 Lib.MathLoose.abs_long.x, Cond.constantLong RX12 248 (1000000000000)]
def wsL_law0_r35 : List Cond := [Cond.methodLink RX12 256 yX12_puts, Cond.instanceMethod yX12_puts, Cond.selects RX12 yX12_puts yX12_puts, Cond.code yX12_puts cX12_puts 3 (some .boolean), Cond.constantLong RX12 250 (-1000000000000), Cond.methodLink RL 82 yX11_turned, Cond.instanceMethod yX11_turned, Cond.selects RX11 yX11_turned yX11_turned, Cond.code yX11_turned cX11_turned 3 (some .int), Cond.methodLink RX11 189 yJ6_bitCount_0f7a4, Cond.methodLink RL 85 yX12_turned, Cond.instanceMethod yX12_turned, Cond.selects RX12 yX12_turned yX12_turned, Cond.code yX12_turned cX12_turned 3 (some .int), Cond.methodLink RX12 346 yX12_bits, Cond.static yX12_bits, Cond.code yX12_bits cX12_bits 3 (some .int), Cond.methodLink RL 86 yX11_draft, Cond.instanceMethod yX11_draft, Cond.selects RX11 yX11_draft yX11_draft, Cond.code yX11_draft cX11_draft 2 (some .int), Cond.methodLink RX11 194 yX4_isLine, Cond.instanceMethod yX4_isLine, Cond.selects RX4 yX4_isLine yX4_isLine]
def wsL_law0_r36 : List Cond := [Cond.code yX4_isLine cX4_isLine 2 (some .boolean), Cond.methodLink RX11 197 yX1_add, Cond.instanceMethod yX1_add, Cond.selects RX1 yX1_add yX1_add, Cond.code yX1_add cX1_add 3 (some .int), Cond.methodLink RL 89 yX12_draft, Cond.instanceMethod yX12_draft, Cond.selects RX12 yX12_draft yX12_draft, Cond.code yX12_draft cX12_draft 2 (some .int), Cond.methodLink RX12 349 yX12_isLine, Cond.instanceMethod yX12_isLine, Cond.selects RX12 yX12_isLine yX12_isLine, Cond.code yX12_isLine cX12_isLine 2 (some .boolean), Cond.methodLink RL 90 yL_look, Cond.static yL_look, Cond.initialized RL, Cond.codeWith yL_look cL_look 5 (some .int) [(0, 10, 13, 13), (0, 10, 17, 15)], Cond.classLink RL 13 "java/lang/IndexOutOfBoundsException", Cond.classLink RL 15 "java/util/NoSuchElementException", Cond.methodLink RL 7 yX11_look, Cond.instanceMethod yX11_look, Cond.selects RX11 yX11_look yX11_look, Cond.code yX11_look cX11_look 3 (some .int), Cond.classLink RX11 199 "java/lang/IndexOutOfBoundsException"]
def wsL_law0_r37 : List Cond := [Cond.initialized "java/lang/IndexOutOfBoundsException", Cond.classLink RX11 209 "java/util/NoSuchElementException", Cond.initialized "java/util/NoSuchElementException", Cond.fieldLink RX11 206 "AwardLine$Drafts" "line" "[I", Cond.methodLink RL 95 yX12_look, Cond.instanceMethod yX12_look, Cond.selects RX12 yX12_look yX12_look, Cond.code yX12_look cX12_look 3 (some .int), Cond.methodLink RL 96 yX12_thrown, Cond.instanceMethod yX12_thrown, Cond.selects RX12 yX12_thrown yX12_thrown, Cond.code yX12_thrown cX12_thrown 1 (some .int), Cond.methodLink RL 100 yX11_does, Cond.instanceMethod yX11_does, Cond.selects RX11 yX11_does yX11_does, Cond.code yX11_does cX11_does 4 (some .int), Cond.fieldLink RX11 220 "AwardLine$Land" "all" "I", Cond.methodLink RX11 214 yX10_wrong, Cond.instanceMethod yX10_wrong, Cond.selects RX10 yX10_wrong yX10_wrong, Cond.code yX10_wrong cX10_wrong 4 (some .int), Cond.fieldLink RX10 32 "AwardLine$Land" "size" "I", Cond.fieldLink RX10 38 "AwardLine$Census" "people" "[[I", Cond.methodLink RX11 217 yX4_pieces]
def wsL_law0_r38 : List Cond := [Cond.instanceMethod yX4_pieces, Cond.selects RX4 yX4_pieces yX4_pieces, Cond.code yX4_pieces cX4_pieces 5 (some .int), Cond.methodLink RX4 68 yX4_firstPiece, Cond.instanceMethod yX4_firstPiece, Cond.selects RX4 yX4_firstPiece yX4_firstPiece, Cond.code yX4_firstPiece cX4_firstPiece 5 (some .int), Cond.methodLink RX4 65 yX4_beside, Cond.instanceMethod yX4_beside, Cond.selects RX4 yX4_beside yX4_beside, Cond.code yX4_beside cX4_beside 5 (some .int), Cond.methodLink RX11 223 yX4_cut, Cond.instanceMethod yX4_cut, Cond.selects RX4 yX4_cut yX4_cut, Cond.code yX4_cut cX4_cut 2 (some .int), Cond.methodLink RX4 71 yX4_pipes, Cond.instanceMethod yX4_pipes, Cond.selects RX4 yX4_pipes yX4_pipes, Cond.code yX4_pipes cX4_pipes 6 (some .int), Cond.methodLink RX11 226 yX4_severed, Cond.instanceMethod yX4_severed, Cond.selects RX4 yX4_severed yX4_severed, Cond.code yX4_severed cX4_severed 4 (some .int), Cond.methodLink RX4 75 yX4_tracks]
def wsL_law0_r39 : List Cond := [Cond.instanceMethod yX4_tracks, Cond.selects RX4 yX4_tracks yX4_tracks, Cond.code yX4_tracks cX4_tracks 3 (some .int), Cond.methodLink RX11 229 yX4_desecrated, Cond.instanceMethod yX4_desecrated, Cond.selects RX4 yX4_desecrated yX4_desecrated, Cond.code yX4_desecrated cX4_desecrated 2 (some .int), Cond.methodLink RX11 232 yX10_harm, Cond.instanceMethod yX10_harm, Cond.selects RX10 yX10_harm yX10_harm, Cond.code yX10_harm cX10_harm 3 (some .int), Cond.fieldLink RX10 52 "AwardLine$Toll" "ofShrine" "I", Cond.fieldLink RX10 58 "AwardLine$Toll" "ofRail" "I", Cond.fieldLink RX10 64 "AwardLine$Toll" "ofWater" "I", Cond.methodLink RX10 44 yX10_heed, Cond.instanceMethod yX10_heed, Cond.selects RX10 yX10_heed yX10_heed, Cond.code yX10_heed cX10_heed 2 none, Cond.fieldLink RX10 70 "AwardLine$Terms" "weight" "[I", Cond.methodLink RX10 48 yX10_wrong, Cond.methodLink RX10 55 yX4_desecrated, Cond.methodLink RX10 61 yX4_severed, Cond.methodLink RX10 67 yX4_cut, Cond.methodLink RL 104 yX12_does_]
def wsL_law0_r40 : List Cond := [Cond.instanceMethod yX12_does_, Cond.selects RX12 yX12_does_ yX12_does_, Cond.code yX12_does_ cX12_does_ 4 (some .int), Cond.methodLink RX12 360 yX12_wrongOnes, Cond.instanceMethod yX12_wrongOnes, Cond.selects RX12 yX12_wrongOnes yX12_wrongOnes, Cond.code yX12_wrongOnes cX12_wrongOnes 4 (some .int), Cond.methodLink RX12 354 yX12_sideOf, Cond.static yX12_sideOf, Cond.code yX12_sideOf cX12_sideOf 2 (some .int), Cond.methodLink RX12 372 yX12_pieces, Cond.instanceMethod yX12_pieces, Cond.selects RX12 yX12_pieces yX12_pieces, Cond.code yX12_pieces cX12_pieces 6 (some .int), Cond.methodLink RX12 357 yX12_around, Cond.instanceMethod yX12_around, Cond.selects RX12 yX12_around yX12_around, Cond.code yX12_around cX12_around 4 (some .int), Cond.methodLink RX12 375 yX12_all, Cond.instanceMethod yX12_all, Cond.selects RX12 yX12_all yX12_all, Cond.code yX12_all cX12_all 1 (some .int), Cond.methodLink RX12 369 yX12_cutOf, Cond.instanceMethod yX12_cutOf]
def wsL_law0_r41 : List Cond := [Cond.selects RX12 yX12_cutOf yX12_cutOf, Cond.code yX12_cutOf cX12_cutOf 5 (some .int), Cond.methodLink RX12 366 yX12_severed, Cond.instanceMethod yX12_severed, Cond.selects RX12 yX12_severed yX12_severed, Cond.code yX12_severed cX12_severed 4 (some .int), Cond.methodLink RX12 363 yX12_desecrated, Cond.instanceMethod yX12_desecrated, Cond.selects RX12 yX12_desecrated yX12_desecrated, Cond.code yX12_desecrated cX12_desecrated 4 (some .int), Cond.methodLink RX12 378 yX12_harm, Cond.instanceMethod yX12_harm, Cond.selects RX12 yX12_harm yX12_harm, Cond.code yX12_harm cX12_harm 2 (some .int), Cond.methodLink RL 105 yX11_best, Cond.instanceMethod yX11_best, Cond.selects RX11 yX11_best yX11_best, Cond.code yX11_best cX11_best 3 (some .int), Cond.fieldLink RX11 235 "AwardLine$Land" "size" "I", Cond.fieldLink RX11 242 "AwardLine$Toll" "bestLine" "I", Cond.fieldLink RX11 245 "AwardLine$Toll" "bestHarm" "I", Cond.methodLink RX11 238 yX10_search, Cond.instanceMethod yX10_search, Cond.selects RX10 yX10_search yX10_search]
def wsL_law0_r42 : List Cond := [Cond.code yX10_search cX10_search 3 none, Cond.methodLink RX10 79 Lib.Math.min.name, Cond.fieldLink RX10 84 "AwardLine$Toll" "bestLine" "I", Cond.constant RX10 87 (1000000000), Cond.fieldLink RX10 88 "AwardLine$Toll" "bestHarm" "I", Cond.methodLink RX10 75 yX10_ownCost, Cond.instanceMethod yX10_ownCost, Cond.selects RX10 yX10_ownCost yX10_ownCost, Cond.code yX10_ownCost cX10_ownCost 4 (some .int), Cond.fieldLink RX10 95 "AwardLine$Land" "shrines" "[I", Cond.methodLink RX10 91 yX10_choose, Cond.instanceMethod yX10_choose, Cond.selects RX10 yX10_choose yX10_choose, Cond.code yX10_choose cX10_choose 11 none, Cond.fieldLink RX10 98 "AwardLine$Land" "all" "I", Cond.methodLink RX10 101 yX4_tracks, Cond.methodLink RX10 104 yX4_pipes, Cond.methodLink RX10 107 yX4_parted, Cond.instanceMethod yX4_parted, Cond.selects RX4 yX4_parted yX4_parted, Cond.code yX4_parted cX4_parted 6 (some .boolean), Cond.methodLink RL 108 yX12_best, Cond.instanceMethod yX12_best, Cond.selects RX12 yX12_best yX12_best]
def wsL_law0_r43 : List Cond := [Cond.code yX12_best cX12_best 7 (some .int), Cond.methodLink RL 109 yX11_weights, Cond.instanceMethod yX11_weights, Cond.selects RX11 yX11_weights yX11_weights, Cond.code yX11_weights cX11_weights 3 (some .int), Cond.methodLink RX11 248 yX10_weigh, Cond.instanceMethod yX10_weigh, Cond.selects RX10 yX10_weigh yX10_weigh, Cond.code yX10_weigh cX10_weigh 5 (some .int), Cond.methodLink RX10 111 yX4_beside, Cond.methodLink RX10 114 yJ6_bitCount_0f7a4, Cond.methodLink RX10 119 yX10_gives, Cond.instanceMethod yX10_gives, Cond.selects RX10 yX10_gives yX10_gives, Cond.code yX10_gives cX10_gives 7 (some .boolean), Cond.methodLink RL 112 yX12_weights, Cond.instanceMethod yX12_weights, Cond.selects RX12 yX12_weights yX12_weights, Cond.code yX12_weights cX12_weights 5 (some .int), Cond.methodLink RX12 381 yX12_gives, Cond.instanceMethod yX12_gives, Cond.selects RX12 yX12_gives yX12_gives, Cond.code yX12_gives cX12_gives 7 (some .boolean), Cond.methodLink RL 113 yX11_knows]
def wsL_law0_r44 : List Cond := [Cond.instanceMethod yX11_knows, Cond.selects RX11 yX11_knows yX11_knows, Cond.code yX11_knows cX11_knows 4 (some .int), Cond.fieldLink RX11 257 "AwardLine$Rumour" "since" "[I", Cond.methodLink RX11 251 yX5_sift, Cond.methodLink RX11 254 yX7_spread, Cond.instanceMethod yX7_spread, Cond.selects RX7 yX7_spread yX7_spread, Cond.code yX7_spread cX7_spread 5 none, Cond.fieldLink RX7 28 "AwardLine$Notes" "held" "I", Cond.fieldLink RX7 38 "AwardLine$Notes" "subject" "[I", Cond.fieldLink RX7 41 "AwardLine$Notes" "object" "[I", Cond.fieldLink RX7 44 "AwardLine$Notes" "third" "[I", Cond.methodLink RX7 22 yJ7_fill_53178, Cond.methodLink RX7 34 yX5_isKnown, Cond.methodLink RX7 47 yX7_hears, Cond.instanceMethod yX7_hears, Cond.selects RX7 yX7_hears yX7_hears, Cond.code yX7_hears cX7_hears 3 (some .boolean), Cond.methodLink RX7 50 yX7_meetAll, Cond.instanceMethod yX7_meetAll, Cond.selects RX7 yX7_meetAll yX7_meetAll, Cond.code yX7_meetAll cX7_meetAll 4 (some .boolean), Cond.methodLink RX7 54 yX7_tells]
def wsL_law0_r45 : List Cond := [Cond.instanceMethod yX7_tells, Cond.selects RX7 yX7_tells yX7_tells, Cond.code yX7_tells cX7_tells 5 (some .boolean), Cond.methodLink RL 116 yX12_knows, Cond.instanceMethod yX12_knows, Cond.selects RX12 yX12_knows yX12_knows, Cond.code yX12_knows cX12_knows 4 (some .int), Cond.methodLink RX12 388 yX12_spreads, Cond.instanceMethod yX12_spreads, Cond.selects RX12 yX12_spreads yX12_spreads, Cond.code yX12_spreads cX12_spreads 5 none, Cond.methodLink RX12 385 yX12_tells, Cond.instanceMethod yX12_tells, Cond.selects RX12 yX12_tells yX12_tells, Cond.code yX12_tells cX12_tells 5 (some .boolean), Cond.methodLink RL 117 yX11_explained, Cond.instanceMethod yX11_explained, Cond.selects RX11 yX11_explained yX11_explained, Cond.code yX11_explained cX11_explained 3 (some .int), Cond.methodLink RX11 260 yX5_isKnown, Cond.methodLink RX11 264 yX7_explain, Cond.instanceMethod yX7_explain, Cond.selects RX7 yX7_explain yX7_explain, Cond.code yX7_explain cX7_explain 6 (some .int)]
def wsL_law0_r46 : List Cond := [Cond.methodLink RX7 58 yX7_spread, Cond.methodLink RL 120 yX12_explained, Cond.instanceMethod yX12_explained, Cond.selects RX12 yX12_explained yX12_explained, Cond.code yX12_explained cX12_explained 3 (some .int), Cond.methodLink RX12 391 yX12_isSure, Cond.instanceMethod yX12_isSure, Cond.selects RX12 yX12_isSure yX12_isSure, Cond.code yX12_isSure cX12_isSure 3 (some .boolean), Cond.methodLink RL 121 yX11_through, Cond.instanceMethod yX11_through, Cond.selects RX11 yX11_through yX11_through, Cond.code yX11_through cX11_through 2 (some .int), Cond.methodLink RX11 267 yX7_carriers, Cond.instanceMethod yX7_carriers, Cond.selects RX7 yX7_carriers yX7_carriers, Cond.code yX7_carriers cX7_carriers 3 (some .int), Cond.methodLink RX7 62 yX7_hasAct, Cond.instanceMethod yX7_hasAct, Cond.selects RX7 yX7_hasAct yX7_hasAct, Cond.code yX7_hasAct cX7_hasAct 3 (some .boolean), Cond.methodLink RX7 65 yX7_carriersOf, Cond.instanceMethod yX7_carriersOf, Cond.selects RX7 yX7_carriersOf yX7_carriersOf]
def wsL_law0_r47 : List Cond := [Cond.code yX7_carriersOf cX7_carriersOf 4 (some .int), Cond.methodLink RX7 69 arraycopyName, Cond.native arraycopyName, Cond.static arraycopyName, Cond.initialized "java/lang/System", Cond.methodLink RX7 75 yX7_losesAct, Cond.instanceMethod yX7_losesAct, Cond.selects RX7 yX7_losesAct yX7_losesAct, Cond.code yX7_losesAct cX7_losesAct 5 (some .boolean), Cond.methodLink RL 124 yX12_through, Cond.instanceMethod yX12_through, Cond.selects RX12 yX12_through yX12_through, Cond.code yX12_through cX12_through 5 (some .int), Cond.methodLink RL 125 yX11_candidate, Cond.instanceMethod yX11_candidate, Cond.selects RX11 yX11_candidate yX11_candidate, Cond.code yX11_candidate cX11_candidate 2 (some .int), Cond.methodLink RX11 271 yX2_addCandidate, Cond.instanceMethod yX2_addCandidate, Cond.selects RX2 yX2_addCandidate yX2_addCandidate, Cond.code yX2_addCandidate cX2_addCandidate 3 (some .int), Cond.fieldLink RX2 37 "AwardLine$Exodus" "candidates" "I", Cond.methodLink RL 128 yX12_candidate, Cond.instanceMethod yX12_candidate]
def wsL_law0_r48 : List Cond := [Cond.selects RX12 yX12_candidate yX12_candidate, Cond.code yX12_candidate cX12_candidate 3 (some .int), Cond.methodLink RL 129 yX11_flight, Cond.instanceMethod yX11_flight, Cond.selects RX11 yX11_flight yX11_flight, Cond.code yX11_flight cX11_flight 7 (some .int), Cond.methodLink RX11 274 yX2_agree, Cond.instanceMethod yX2_agree, Cond.selects RX2 yX2_agree yX2_agree, Cond.code yX2_agree cX2_agree 2 none, Cond.fieldLink RX2 41 "AwardLine$Terms" "fear" "I", Cond.fieldLink RX2 46 "AwardLine$Exodus" "fear" "I", Cond.fieldLink RX2 47 "AwardLine$Terms" "lose" "I", Cond.fieldLink RX2 50 "AwardLine$Exodus" "lose" "I", Cond.methodLink RX11 277 yX2_tell, Cond.instanceMethod yX2_tell, Cond.selects RX2 yX2_tell yX2_tell, Cond.code yX2_tell cX2_tell 4 (some .int), Cond.constant RX2 59 (1000000000), Cond.methodLink RX2 51 yX2_aim, Cond.instanceMethod yX2_aim, Cond.selects RX2 yX2_aim yX2_aim, Cond.code yX2_aim cX2_aim 5 none, Cond.fieldLink RX2 64 "AwardLine$Land" "size" "I"]
def wsL_law0_r49 : List Cond := [Cond.fieldLink RX2 69 "AwardLine$Land" "all" "I", Cond.methodLink RX2 72 yX2_towards, Cond.instanceMethod yX2_towards, Cond.selects RX2 yX2_towards yX2_towards, Cond.code yX2_towards cX2_towards 7 (some .int), Cond.methodLink RX2 76 yX4_beside, Cond.static yX11_leastOf, Cond.code yX11_leastOf cX11_leastOf 1 (some .int), Cond.methodLink RX2 55 yX2_guarded, Cond.instanceMethod yX2_guarded, Cond.selects RX2 yX2_guarded yX2_guarded, Cond.code yX2_guarded cX2_guarded 4 (some .int), Cond.methodLink RX2 60 yX2_walk, Cond.instanceMethod yX2_walk, Cond.selects RX2 yX2_walk yX2_walk, Cond.code yX2_walk cX2_walk 8 (some .int), Cond.fieldLink RX2 82 "AwardLine$Census" "people" "[[I", Cond.methodLink RX2 87 yX2_walkOneDay, Cond.instanceMethod yX2_walkOneDay, Cond.selects RX2 yX2_walkOneDay yX2_walkOneDay, Cond.code yX2_walkOneDay cX2_walkOneDay 9 (some .int), Cond.methodLink RX2 91 yJ7_fill_53178, Cond.methodLink RX2 97 yX4_has, Cond.methodLink RX11 281 yX2_stillAstray]
def wsL_law0_r50 : List Cond := [Cond.instanceMethod yX2_stillAstray, Cond.selects RX2 yX2_stillAstray yX2_stillAstray, Cond.code yX2_stillAstray cX2_stillAstray 3 (some .int), Cond.methodLink RX11 284 yX2_fullest, Cond.instanceMethod yX2_fullest, Cond.selects RX2 yX2_fullest yX2_fullest, Cond.code yX2_fullest cX2_fullest 3 (some .int), Cond.methodLink RX2 104 Lib.Math.max.name, Cond.methodLink RL 132 yX12_flight, Cond.instanceMethod yX12_flight, Cond.selects RX12 yX12_flight yX12_flight, Cond.code yX12_flight cX12_flight 9 (some .int), Cond.fieldLink RX12 400 "AwardLineModel" "lost" "I", Cond.methodLink RX12 410 yX12_guarded, Cond.instanceMethod yX12_guarded, Cond.selects RX12 yX12_guarded yX12_guarded, Cond.code yX12_guarded cX12_guarded 4 (some .int), Cond.methodLink RX12 413 yX12_flees, Cond.instanceMethod yX12_flees, Cond.selects RX12 yX12_flees yX12_flees, Cond.code yX12_flees cX12_flees 6 none, Cond.methodLink RX12 403 yX12_paces, Cond.instanceMethod yX12_paces, Cond.selects RX12 yX12_paces yX12_paces]
def wsL_law0_r51 : List Cond := [Cond.code yX12_paces cX12_paces 7 none, Cond.methodLink RX12 406 yX12_leaves, Cond.instanceMethod yX12_leaves, Cond.selects RX12 yX12_leaves yX12_leaves, Cond.code yX12_leaves cX12_leaves 7 none, Cond.methodLink RX12 397 yX12_goal, Cond.instanceMethod yX12_goal, Cond.selects RX12 yX12_goal yX12_goal, Cond.code yX12_goal cX12_goal 5 (some .int), Cond.methodLink RX12 394 yX12_areBeside, Cond.instanceMethod yX12_areBeside, Cond.selects RX12 yX12_areBeside yX12_areBeside, Cond.code yX12_areBeside cX12_areBeside 3 (some .boolean), Cond.methodLink RX12 352 Lib.Math.abs.name, Cond.static Lib.Math.abs.name, Cond.code Lib.Math.abs.name Lib.Math.abs.code 1 (some .int), Cond.methodLink RL 133 yX11_guards, Cond.instanceMethod yX11_guards, Cond.selects RX11 yX11_guards yX11_guards, Cond.code yX11_guards cX11_guards 6 (some .int), Cond.fieldLink RX11 291 "AwardLine$Exodus" "bestGuards" "I", Cond.fieldLink RX11 294 "AwardLine$Exodus" "bestLost" "I", Cond.methodLink RX11 287 yX2_place, Cond.instanceMethod yX2_place]
def wsL_law0_r52 : List Cond := [Cond.selects RX2 yX2_place yX2_place, Cond.code yX2_place cX2_place 7 none, Cond.fieldLink RX2 109 "AwardLine$Drafts" "held" "I", Cond.fieldLink RX2 114 "AwardLine$Drafts" "line" "[I", Cond.fieldLink RX2 117 "AwardLine$Exodus" "bestGuards" "I", Cond.fieldLink RX2 120 "AwardLine$Exodus" "bestLost" "I", Cond.methodLink RX2 123 yJ6_bitCount_0f7a4, Cond.methodLink RX2 128 yX2_tryGuards, Cond.instanceMethod yX2_tryGuards, Cond.selects RX2 yX2_tryGuards yX2_tryGuards, Cond.code yX2_tryGuards cX2_tryGuards 9 none, Cond.methodLink RL 136 yX12_guards, Cond.instanceMethod yX12_guards, Cond.selects RX12 yX12_guards yX12_guards, Cond.code yX12_guards cX12_guards 11 (some .int), Cond.methodLink RL 137 yX11_counted, Cond.instanceMethod yX11_counted, Cond.selects RX11 yX11_counted yX11_counted, Cond.code yX11_counted cX11_counted 2 (some .int), Cond.fieldLink RX11 297 "AwardLine$Terms" "knots" "I", Cond.fieldLink RX11 300 "AwardLine$Terms" "fear" "I", Cond.fieldLink RX11 303 "AwardLine$Terms" "lose" "I", Cond.methodLink RL 140 yX12_counted, Cond.instanceMethod yX12_counted]
def wsL_law0_r53 : List Cond := [Cond.selects RX12 yX12_counted yX12_counted, Cond.code yX12_counted cX12_counted 2 (some .int)]
def wsL_law0 : List Cond := (wsL_law0_r1 ++ (wsL_law0_r2 ++ (wsL_law0_r3 ++ (wsL_law0_r4 ++ (wsL_law0_r5 ++ (wsL_law0_r6 ++ (wsL_law0_r7 ++ (wsL_law0_r8 ++ (wsL_law0_r9 ++ (wsL_law0_r10 ++ (wsL_law0_r11 ++ (wsL_law0_r12 ++ (wsL_law0_r13 ++ (wsL_law0_r14 ++ (wsL_law0_r15 ++ (wsL_law0_r16 ++ (wsL_law0_r17 ++ (wsL_law0_r18 ++ (wsL_law0_r19 ++ (wsL_law0_r20 ++ (wsL_law0_r21 ++ (wsL_law0_r22 ++ (wsL_law0_r23 ++ (wsL_law0_r24 ++ (wsL_law0_r25 ++ (wsL_law0_r26 ++ (wsL_law0_r27 ++ (wsL_law0_r28 ++ (wsL_law0_r29 ++ (wsL_law0_r30 ++ (wsL_law0_r31 ++ (wsL_law0_r32 ++ (wsL_law0_r33 ++ (wsL_law0_r34 ++ (wsL_law0_r35 ++ (wsL_law0_r36 ++ (wsL_law0_r37 ++ (wsL_law0_r38 ++ (wsL_law0_r39 ++ (wsL_law0_r40 ++ (wsL_law0_r41 ++ (wsL_law0_r42 ++ (wsL_law0_r43 ++ (wsL_law0_r44 ++ (wsL_law0_r45 ++ (wsL_law0_r46 ++ (wsL_law0_r47 ++ (wsL_law0_r48 ++ (wsL_law0_r49 ++ (wsL_law0_r50 ++ (wsL_law0_r51 ++ (wsL_law0_r52 ++ wsL_law0_r53)))))))))))))))))))))))))))))))))))))))))))))))))))) ++ wsX110 ++ wsX120 ++ wsX40 ++ wsX50 ++ wsX00 ++ wsX60 ++ wsX80 ++ wsX10 ++ wsX30 ++ wsX100 ++ wsX70 ++ wsX20 ++ ([] : List Cond)
abbrev vwCl : List vw_C := [(RX0, TX0, 6), (RX1, TX1, 3), (RX2, TX2, 12), (RX3, TX3, 4), (RX4, TX4, 12), (RX5, TX5, 8), (RX6, TX6, 13), (RX7, TX7, 3), (RX8, TX8, 7), (RX10, TX10, 11), (RX11, TX11, 12), (RX12, TX12, 61)]
/-- the words that every method of the claim is walked with -/
def LW : List Cond := wsL_law0
theorem LW_good : ∀ w ∈ LW, (w.onTables && w.keeps) = true ∨ ∃ ty, w = .arrayClass ty := fun w h => good_of_word (List.all_eq_true.mp (by decide +kernel : LW.all goodWord = true) w h)
theorem LWr_1 : ∀ w ∈ wsL_law0_r1, w ∈ LW := fun _ h => List.mem_append_left _ (List.mem_append_left _ (List.mem_append_left _ (List.mem_append_left _ (List.mem_append_left _ (List.mem_append_left _ (List.mem_append_left _ (List.mem_append_left _ (List.mem_append_left _ (List.mem_append_left _ (List.mem_append_left _ (List.mem_append_left _ (List.mem_append_left _ (List.mem_append_left _ (h))))))))))))))
theorem LWr_2 : ∀ w ∈ wsL_law0_r2, w ∈ LW := fun _ h => List.mem_append_left _ (List.mem_append_left _ (List.mem_append_left _ (List.mem_append_left _ (List.mem_append_left _ (List.mem_append_left _ (List.mem_append_left _ (List.mem_append_left _ (List.mem_append_left _ (List.mem_append_left _ (List.mem_append_left _ (List.mem_append_left _ (List.mem_append_left _ (List.mem_append_right _ (List.mem_append_left _ (h)))))))))))))))
theorem LWr_3 : ∀ w ∈ wsL_law0_r3, w ∈ LW := fun _ h => List.mem_append_left _ (List.mem_append_left _ (List.mem_append_left _ (List.mem_append_left _ (List.mem_append_left _ (List.mem_append_left _ (List.mem_append_left _ (List.mem_append_left _ (List.mem_append_left _ (List.mem_append_left _ (List.mem_append_left _ (List.mem_append_left _ (List.mem_append_left _ (List.mem_append_right _ (List.mem_append_right _ (List.mem_append_left _ (h))))))))))))))))
theorem LWr_4 : ∀ w ∈ wsL_law0_r4, w ∈ LW := fun _ h => List.mem_append_left _ (List.mem_append_left _ (List.mem_append_left _ (List.mem_append_left _ (List.mem_append_left _ (List.mem_append_left _ (List.mem_append_left _ (List.mem_append_left _ (List.mem_append_left _ (List.mem_append_left _ (List.mem_append_left _ (List.mem_append_left _ (List.mem_append_left _ (List.mem_append_right _ (List.mem_append_right _ (List.mem_append_right _ (List.mem_append_left _ (h)))))))))))))))))
theorem LWr_5 : ∀ w ∈ wsL_law0_r5, w ∈ LW := fun _ h => List.mem_append_left _ (List.mem_append_left _ (List.mem_append_left _ (List.mem_append_left _ (List.mem_append_left _ (List.mem_append_left _ (List.mem_append_left _ (List.mem_append_left _ (List.mem_append_left _ (List.mem_append_left _ (List.mem_append_left _ (List.mem_append_left _ (List.mem_append_left _ (List.mem_append_right _ (List.mem_append_right _ (List.mem_append_right _ (List.mem_append_right _ (List.mem_append_left _ (h))))))))))))))))))
theorem LWr_6 : ∀ w ∈ wsL_law0_r6, w ∈ LW := fun _ h => List.mem_append_left _ (List.mem_append_left _ (List.mem_append_left _ (List.mem_append_left _ (List.mem_append_left _ (List.mem_append_left _ (List.mem_append_left _ (List.mem_append_left _ (List.mem_append_left _ (List.mem_append_left _ (List.mem_append_left _ (List.mem_append_left _ (List.mem_append_left _ (List.mem_append_right _ (List.mem_append_right _ (List.mem_append_right _ (List.mem_append_right _ (List.mem_append_right _ (List.mem_append_left _ (h)))))))))))))))))))
theorem LWr_7 : ∀ w ∈ wsL_law0_r7, w ∈ LW := fun _ h => List.mem_append_left _ (List.mem_append_left _ (List.mem_append_left _ (List.mem_append_left _ (List.mem_append_left _ (List.mem_append_left _ (List.mem_append_left _ (List.mem_append_left _ (List.mem_append_left _ (List.mem_append_left _ (List.mem_append_left _ (List.mem_append_left _ (List.mem_append_left _ (List.mem_append_right _ (List.mem_append_right _ (List.mem_append_right _ (List.mem_append_right _ (List.mem_append_right _ (List.mem_append_right _ (List.mem_append_left _ (h))))))))))))))))))))
theorem LWr_8 : ∀ w ∈ wsL_law0_r8, w ∈ LW := fun _ h => List.mem_append_left _ (List.mem_append_left _ (List.mem_append_left _ (List.mem_append_left _ (List.mem_append_left _ (List.mem_append_left _ (List.mem_append_left _ (List.mem_append_left _ (List.mem_append_left _ (List.mem_append_left _ (List.mem_append_left _ (List.mem_append_left _ (List.mem_append_left _ (List.mem_append_right _ (List.mem_append_right _ (List.mem_append_right _ (List.mem_append_right _ (List.mem_append_right _ (List.mem_append_right _ (List.mem_append_right _ (List.mem_append_left _ (h)))))))))))))))))))))
theorem LWr_9 : ∀ w ∈ wsL_law0_r9, w ∈ LW := fun _ h => List.mem_append_left _ (List.mem_append_left _ (List.mem_append_left _ (List.mem_append_left _ (List.mem_append_left _ (List.mem_append_left _ (List.mem_append_left _ (List.mem_append_left _ (List.mem_append_left _ (List.mem_append_left _ (List.mem_append_left _ (List.mem_append_left _ (List.mem_append_left _ (List.mem_append_right _ (List.mem_append_right _ (List.mem_append_right _ (List.mem_append_right _ (List.mem_append_right _ (List.mem_append_right _ (List.mem_append_right _ (List.mem_append_right _ (List.mem_append_left _ (h))))))))))))))))))))))
theorem LWr_10 : ∀ w ∈ wsL_law0_r10, w ∈ LW := fun _ h => List.mem_append_left _ (List.mem_append_left _ (List.mem_append_left _ (List.mem_append_left _ (List.mem_append_left _ (List.mem_append_left _ (List.mem_append_left _ (List.mem_append_left _ (List.mem_append_left _ (List.mem_append_left _ (List.mem_append_left _ (List.mem_append_left _ (List.mem_append_left _ (List.mem_append_right _ (List.mem_append_right _ (List.mem_append_right _ (List.mem_append_right _ (List.mem_append_right _ (List.mem_append_right _ (List.mem_append_right _ (List.mem_append_right _ (List.mem_append_right _ (List.mem_append_left _ (h)))))))))))))))))))))))
theorem LWr_11 : ∀ w ∈ wsL_law0_r11, w ∈ LW := fun _ h => List.mem_append_left _ (List.mem_append_left _ (List.mem_append_left _ (List.mem_append_left _ (List.mem_append_left _ (List.mem_append_left _ (List.mem_append_left _ (List.mem_append_left _ (List.mem_append_left _ (List.mem_append_left _ (List.mem_append_left _ (List.mem_append_left _ (List.mem_append_left _ (List.mem_append_right _ (List.mem_append_right _ (List.mem_append_right _ (List.mem_append_right _ (List.mem_append_right _ (List.mem_append_right _ (List.mem_append_right _ (List.mem_append_right _ (List.mem_append_right _ (List.mem_append_right _ (List.mem_append_left _ (h))))))))))))))))))))))))
theorem LWr_12 : ∀ w ∈ wsL_law0_r12, w ∈ LW := fun _ h => List.mem_append_left _ (List.mem_append_left _ (List.mem_append_left _ (List.mem_append_left _ (List.mem_append_left _ (List.mem_append_left _ (List.mem_append_left _ (List.mem_append_left _ (List.mem_append_left _ (List.mem_append_left _ (List.mem_append_left _ (List.mem_append_left _ (List.mem_append_left _ (List.mem_append_right _ (List.mem_append_right _ (List.mem_append_right _ (List.mem_append_right _ (List.mem_append_right _ (List.mem_append_right _ (List.mem_append_right _ (List.mem_append_right _ (List.mem_append_right _ (List.mem_append_right _ (List.mem_append_right _ (List.mem_append_left _ (h)))))))))))))))))))))))))
theorem LWr_13 : ∀ w ∈ wsL_law0_r13, w ∈ LW := fun _ h => List.mem_append_left _ (List.mem_append_left _ (List.mem_append_left _ (List.mem_append_left _ (List.mem_append_left _ (List.mem_append_left _ (List.mem_append_left _ (List.mem_append_left _ (List.mem_append_left _ (List.mem_append_left _ (List.mem_append_left _ (List.mem_append_left _ (List.mem_append_left _ (List.mem_append_right _ (List.mem_append_right _ (List.mem_append_right _ (List.mem_append_right _ (List.mem_append_right _ (List.mem_append_right _ (List.mem_append_right _ (List.mem_append_right _ (List.mem_append_right _ (List.mem_append_right _ (List.mem_append_right _ (List.mem_append_right _ (List.mem_append_left _ (h))))))))))))))))))))))))))
theorem LWr_14 : ∀ w ∈ wsL_law0_r14, w ∈ LW := fun _ h => List.mem_append_left _ (List.mem_append_left _ (List.mem_append_left _ (List.mem_append_left _ (List.mem_append_left _ (List.mem_append_left _ (List.mem_append_left _ (List.mem_append_left _ (List.mem_append_left _ (List.mem_append_left _ (List.mem_append_left _ (List.mem_append_left _ (List.mem_append_left _ (List.mem_append_right _ (List.mem_append_right _ (List.mem_append_right _ (List.mem_append_right _ (List.mem_append_right _ (List.mem_append_right _ (List.mem_append_right _ (List.mem_append_right _ (List.mem_append_right _ (List.mem_append_right _ (List.mem_append_right _ (List.mem_append_right _ (List.mem_append_right _ (List.mem_append_left _ (h)))))))))))))))))))))))))))
theorem LWr_15 : ∀ w ∈ wsL_law0_r15, w ∈ LW := fun _ h => List.mem_append_left _ (List.mem_append_left _ (List.mem_append_left _ (List.mem_append_left _ (List.mem_append_left _ (List.mem_append_left _ (List.mem_append_left _ (List.mem_append_left _ (List.mem_append_left _ (List.mem_append_left _ (List.mem_append_left _ (List.mem_append_left _ (List.mem_append_left _ (List.mem_append_right _ (List.mem_append_right _ (List.mem_append_right _ (List.mem_append_right _ (List.mem_append_right _ (List.mem_append_right _ (List.mem_append_right _ (List.mem_append_right _ (List.mem_append_right _ (List.mem_append_right _ (List.mem_append_right _ (List.mem_append_right _ (List.mem_append_right _ (List.mem_append_right _ (List.mem_append_left _ (h))))))))))))))))))))))))))))
theorem LWr_16 : ∀ w ∈ wsL_law0_r16, w ∈ LW := fun _ h => List.mem_append_left _ (List.mem_append_left _ (List.mem_append_left _ (List.mem_append_left _ (List.mem_append_left _ (List.mem_append_left _ (List.mem_append_left _ (List.mem_append_left _ (List.mem_append_left _ (List.mem_append_left _ (List.mem_append_left _ (List.mem_append_left _ (List.mem_append_left _ (List.mem_append_right _ (List.mem_append_right _ (List.mem_append_right _ (List.mem_append_right _ (List.mem_append_right _ (List.mem_append_right _ (List.mem_append_right _ (List.mem_append_right _ (List.mem_append_right _ (List.mem_append_right _ (List.mem_append_right _ (List.mem_append_right _ (List.mem_append_right _ (List.mem_append_right _ (List.mem_append_right _ (List.mem_append_left _ (h)))))))))))))))))))))))))))))
theorem LWr_17 : ∀ w ∈ wsL_law0_r17, w ∈ LW := fun _ h => List.mem_append_left _ (List.mem_append_left _ (List.mem_append_left _ (List.mem_append_left _ (List.mem_append_left _ (List.mem_append_left _ (List.mem_append_left _ (List.mem_append_left _ (List.mem_append_left _ (List.mem_append_left _ (List.mem_append_left _ (List.mem_append_left _ (List.mem_append_left _ (List.mem_append_right _ (List.mem_append_right _ (List.mem_append_right _ (List.mem_append_right _ (List.mem_append_right _ (List.mem_append_right _ (List.mem_append_right _ (List.mem_append_right _ (List.mem_append_right _ (List.mem_append_right _ (List.mem_append_right _ (List.mem_append_right _ (List.mem_append_right _ (List.mem_append_right _ (List.mem_append_right _ (List.mem_append_right _ (List.mem_append_left _ (h))))))))))))))))))))))))))))))
theorem LWr_18 : ∀ w ∈ wsL_law0_r18, w ∈ LW := fun _ h => List.mem_append_left _ (List.mem_append_left _ (List.mem_append_left _ (List.mem_append_left _ (List.mem_append_left _ (List.mem_append_left _ (List.mem_append_left _ (List.mem_append_left _ (List.mem_append_left _ (List.mem_append_left _ (List.mem_append_left _ (List.mem_append_left _ (List.mem_append_left _ (List.mem_append_right _ (List.mem_append_right _ (List.mem_append_right _ (List.mem_append_right _ (List.mem_append_right _ (List.mem_append_right _ (List.mem_append_right _ (List.mem_append_right _ (List.mem_append_right _ (List.mem_append_right _ (List.mem_append_right _ (List.mem_append_right _ (List.mem_append_right _ (List.mem_append_right _ (List.mem_append_right _ (List.mem_append_right _ (List.mem_append_right _ (List.mem_append_left _ (h)))))))))))))))))))))))))))))))
theorem LWr_19 : ∀ w ∈ wsL_law0_r19, w ∈ LW := fun _ h => List.mem_append_left _ (List.mem_append_left _ (List.mem_append_left _ (List.mem_append_left _ (List.mem_append_left _ (List.mem_append_left _ (List.mem_append_left _ (List.mem_append_left _ (List.mem_append_left _ (List.mem_append_left _ (List.mem_append_left _ (List.mem_append_left _ (List.mem_append_left _ (List.mem_append_right _ (List.mem_append_right _ (List.mem_append_right _ (List.mem_append_right _ (List.mem_append_right _ (List.mem_append_right _ (List.mem_append_right _ (List.mem_append_right _ (List.mem_append_right _ (List.mem_append_right _ (List.mem_append_right _ (List.mem_append_right _ (List.mem_append_right _ (List.mem_append_right _ (List.mem_append_right _ (List.mem_append_right _ (List.mem_append_right _ (List.mem_append_right _ (List.mem_append_left _ (h))))))))))))))))))))))))))))))))
theorem LWr_20 : ∀ w ∈ wsL_law0_r20, w ∈ LW := fun _ h => List.mem_append_left _ (List.mem_append_left _ (List.mem_append_left _ (List.mem_append_left _ (List.mem_append_left _ (List.mem_append_left _ (List.mem_append_left _ (List.mem_append_left _ (List.mem_append_left _ (List.mem_append_left _ (List.mem_append_left _ (List.mem_append_left _ (List.mem_append_left _ (List.mem_append_right _ (List.mem_append_right _ (List.mem_append_right _ (List.mem_append_right _ (List.mem_append_right _ (List.mem_append_right _ (List.mem_append_right _ (List.mem_append_right _ (List.mem_append_right _ (List.mem_append_right _ (List.mem_append_right _ (List.mem_append_right _ (List.mem_append_right _ (List.mem_append_right _ (List.mem_append_right _ (List.mem_append_right _ (List.mem_append_right _ (List.mem_append_right _ (List.mem_append_right _ (List.mem_append_left _ (h)))))))))))))))))))))))))))))))))
theorem LWr_21 : ∀ w ∈ wsL_law0_r21, w ∈ LW := fun _ h => List.mem_append_left _ (List.mem_append_left _ (List.mem_append_left _ (List.mem_append_left _ (List.mem_append_left _ (List.mem_append_left _ (List.mem_append_left _ (List.mem_append_left _ (List.mem_append_left _ (List.mem_append_left _ (List.mem_append_left _ (List.mem_append_left _ (List.mem_append_left _ (List.mem_append_right _ (List.mem_append_right _ (List.mem_append_right _ (List.mem_append_right _ (List.mem_append_right _ (List.mem_append_right _ (List.mem_append_right _ (List.mem_append_right _ (List.mem_append_right _ (List.mem_append_right _ (List.mem_append_right _ (List.mem_append_right _ (List.mem_append_right _ (List.mem_append_right _ (List.mem_append_right _ (List.mem_append_right _ (List.mem_append_right _ (List.mem_append_right _ (List.mem_append_right _ (List.mem_append_right _ (List.mem_append_left _ (h))))))))))))))))))))))))))))))))))
theorem LWr_22 : ∀ w ∈ wsL_law0_r22, w ∈ LW := fun _ h => List.mem_append_left _ (List.mem_append_left _ (List.mem_append_left _ (List.mem_append_left _ (List.mem_append_left _ (List.mem_append_left _ (List.mem_append_left _ (List.mem_append_left _ (List.mem_append_left _ (List.mem_append_left _ (List.mem_append_left _ (List.mem_append_left _ (List.mem_append_left _ (List.mem_append_right _ (List.mem_append_right _ (List.mem_append_right _ (List.mem_append_right _ (List.mem_append_right _ (List.mem_append_right _ (List.mem_append_right _ (List.mem_append_right _ (List.mem_append_right _ (List.mem_append_right _ (List.mem_append_right _ (List.mem_append_right _ (List.mem_append_right _ (List.mem_append_right _ (List.mem_append_right _ (List.mem_append_right _ (List.mem_append_right _ (List.mem_append_right _ (List.mem_append_right _ (List.mem_append_right _ (List.mem_append_right _ (List.mem_append_left _ (h)))))))))))))))))))))))))))))))))))
theorem LWr_23 : ∀ w ∈ wsL_law0_r23, w ∈ LW := fun _ h => List.mem_append_left _ (List.mem_append_left _ (List.mem_append_left _ (List.mem_append_left _ (List.mem_append_left _ (List.mem_append_left _ (List.mem_append_left _ (List.mem_append_left _ (List.mem_append_left _ (List.mem_append_left _ (List.mem_append_left _ (List.mem_append_left _ (List.mem_append_left _ (List.mem_append_right _ (List.mem_append_right _ (List.mem_append_right _ (List.mem_append_right _ (List.mem_append_right _ (List.mem_append_right _ (List.mem_append_right _ (List.mem_append_right _ (List.mem_append_right _ (List.mem_append_right _ (List.mem_append_right _ (List.mem_append_right _ (List.mem_append_right _ (List.mem_append_right _ (List.mem_append_right _ (List.mem_append_right _ (List.mem_append_right _ (List.mem_append_right _ (List.mem_append_right _ (List.mem_append_right _ (List.mem_append_right _ (List.mem_append_right _ (List.mem_append_left _ (h))))))))))))))))))))))))))))))))))))
theorem LWr_24 : ∀ w ∈ wsL_law0_r24, w ∈ LW := fun _ h => List.mem_append_left _ (List.mem_append_left _ (List.mem_append_left _ (List.mem_append_left _ (List.mem_append_left _ (List.mem_append_left _ (List.mem_append_left _ (List.mem_append_left _ (List.mem_append_left _ (List.mem_append_left _ (List.mem_append_left _ (List.mem_append_left _ (List.mem_append_left _ (List.mem_append_right _ (List.mem_append_right _ (List.mem_append_right _ (List.mem_append_right _ (List.mem_append_right _ (List.mem_append_right _ (List.mem_append_right _ (List.mem_append_right _ (List.mem_append_right _ (List.mem_append_right _ (List.mem_append_right _ (List.mem_append_right _ (List.mem_append_right _ (List.mem_append_right _ (List.mem_append_right _ (List.mem_append_right _ (List.mem_append_right _ (List.mem_append_right _ (List.mem_append_right _ (List.mem_append_right _ (List.mem_append_right _ (List.mem_append_right _ (List.mem_append_right _ (List.mem_append_left _ (h)))))))))))))))))))))))))))))))))))))
theorem LWr_25 : ∀ w ∈ wsL_law0_r25, w ∈ LW := fun _ h => List.mem_append_left _ (List.mem_append_left _ (List.mem_append_left _ (List.mem_append_left _ (List.mem_append_left _ (List.mem_append_left _ (List.mem_append_left _ (List.mem_append_left _ (List.mem_append_left _ (List.mem_append_left _ (List.mem_append_left _ (List.mem_append_left _ (List.mem_append_left _ (List.mem_append_right _ (List.mem_append_right _ (List.mem_append_right _ (List.mem_append_right _ (List.mem_append_right _ (List.mem_append_right _ (List.mem_append_right _ (List.mem_append_right _ (List.mem_append_right _ (List.mem_append_right _ (List.mem_append_right _ (List.mem_append_right _ (List.mem_append_right _ (List.mem_append_right _ (List.mem_append_right _ (List.mem_append_right _ (List.mem_append_right _ (List.mem_append_right _ (List.mem_append_right _ (List.mem_append_right _ (List.mem_append_right _ (List.mem_append_right _ (List.mem_append_right _ (List.mem_append_right _ (List.mem_append_left _ (h))))))))))))))))))))))))))))))))))))))
theorem LWr_26 : ∀ w ∈ wsL_law0_r26, w ∈ LW := fun _ h => List.mem_append_left _ (List.mem_append_left _ (List.mem_append_left _ (List.mem_append_left _ (List.mem_append_left _ (List.mem_append_left _ (List.mem_append_left _ (List.mem_append_left _ (List.mem_append_left _ (List.mem_append_left _ (List.mem_append_left _ (List.mem_append_left _ (List.mem_append_left _ (List.mem_append_right _ (List.mem_append_right _ (List.mem_append_right _ (List.mem_append_right _ (List.mem_append_right _ (List.mem_append_right _ (List.mem_append_right _ (List.mem_append_right _ (List.mem_append_right _ (List.mem_append_right _ (List.mem_append_right _ (List.mem_append_right _ (List.mem_append_right _ (List.mem_append_right _ (List.mem_append_right _ (List.mem_append_right _ (List.mem_append_right _ (List.mem_append_right _ (List.mem_append_right _ (List.mem_append_right _ (List.mem_append_right _ (List.mem_append_right _ (List.mem_append_right _ (List.mem_append_right _ (List.mem_append_right _ (List.mem_append_left _ (h)))))))))))))))))))))))))))))))))))))))
theorem LWr_27 : ∀ w ∈ wsL_law0_r27, w ∈ LW := fun _ h => List.mem_append_left _ (List.mem_append_left _ (List.mem_append_left _ (List.mem_append_left _ (List.mem_append_left _ (List.mem_append_left _ (List.mem_append_left _ (List.mem_append_left _ (List.mem_append_left _ (List.mem_append_left _ (List.mem_append_left _ (List.mem_append_left _ (List.mem_append_left _ (List.mem_append_right _ (List.mem_append_right _ (List.mem_append_right _ (List.mem_append_right _ (List.mem_append_right _ (List.mem_append_right _ (List.mem_append_right _ (List.mem_append_right _ (List.mem_append_right _ (List.mem_append_right _ (List.mem_append_right _ (List.mem_append_right _ (List.mem_append_right _ (List.mem_append_right _ (List.mem_append_right _ (List.mem_append_right _ (List.mem_append_right _ (List.mem_append_right _ (List.mem_append_right _ (List.mem_append_right _ (List.mem_append_right _ (List.mem_append_right _ (List.mem_append_right _ (List.mem_append_right _ (List.mem_append_right _ (List.mem_append_right _ (List.mem_append_left _ (h))))))))))))))))))))))))))))))))))))))))
theorem LWr_28 : ∀ w ∈ wsL_law0_r28, w ∈ LW := fun _ h => List.mem_append_left _ (List.mem_append_left _ (List.mem_append_left _ (List.mem_append_left _ (List.mem_append_left _ (List.mem_append_left _ (List.mem_append_left _ (List.mem_append_left _ (List.mem_append_left _ (List.mem_append_left _ (List.mem_append_left _ (List.mem_append_left _ (List.mem_append_left _ (List.mem_append_right _ (List.mem_append_right _ (List.mem_append_right _ (List.mem_append_right _ (List.mem_append_right _ (List.mem_append_right _ (List.mem_append_right _ (List.mem_append_right _ (List.mem_append_right _ (List.mem_append_right _ (List.mem_append_right _ (List.mem_append_right _ (List.mem_append_right _ (List.mem_append_right _ (List.mem_append_right _ (List.mem_append_right _ (List.mem_append_right _ (List.mem_append_right _ (List.mem_append_right _ (List.mem_append_right _ (List.mem_append_right _ (List.mem_append_right _ (List.mem_append_right _ (List.mem_append_right _ (List.mem_append_right _ (List.mem_append_right _ (List.mem_append_right _ (List.mem_append_left _ (h)))))))))))))))))))))))))))))))))))))))))
theorem LWr_29 : ∀ w ∈ wsL_law0_r29, w ∈ LW := fun _ h => List.mem_append_left _ (List.mem_append_left _ (List.mem_append_left _ (List.mem_append_left _ (List.mem_append_left _ (List.mem_append_left _ (List.mem_append_left _ (List.mem_append_left _ (List.mem_append_left _ (List.mem_append_left _ (List.mem_append_left _ (List.mem_append_left _ (List.mem_append_left _ (List.mem_append_right _ (List.mem_append_right _ (List.mem_append_right _ (List.mem_append_right _ (List.mem_append_right _ (List.mem_append_right _ (List.mem_append_right _ (List.mem_append_right _ (List.mem_append_right _ (List.mem_append_right _ (List.mem_append_right _ (List.mem_append_right _ (List.mem_append_right _ (List.mem_append_right _ (List.mem_append_right _ (List.mem_append_right _ (List.mem_append_right _ (List.mem_append_right _ (List.mem_append_right _ (List.mem_append_right _ (List.mem_append_right _ (List.mem_append_right _ (List.mem_append_right _ (List.mem_append_right _ (List.mem_append_right _ (List.mem_append_right _ (List.mem_append_right _ (List.mem_append_right _ (List.mem_append_left _ (h))))))))))))))))))))))))))))))))))))))))))
theorem LWr_30 : ∀ w ∈ wsL_law0_r30, w ∈ LW := fun _ h => List.mem_append_left _ (List.mem_append_left _ (List.mem_append_left _ (List.mem_append_left _ (List.mem_append_left _ (List.mem_append_left _ (List.mem_append_left _ (List.mem_append_left _ (List.mem_append_left _ (List.mem_append_left _ (List.mem_append_left _ (List.mem_append_left _ (List.mem_append_left _ (List.mem_append_right _ (List.mem_append_right _ (List.mem_append_right _ (List.mem_append_right _ (List.mem_append_right _ (List.mem_append_right _ (List.mem_append_right _ (List.mem_append_right _ (List.mem_append_right _ (List.mem_append_right _ (List.mem_append_right _ (List.mem_append_right _ (List.mem_append_right _ (List.mem_append_right _ (List.mem_append_right _ (List.mem_append_right _ (List.mem_append_right _ (List.mem_append_right _ (List.mem_append_right _ (List.mem_append_right _ (List.mem_append_right _ (List.mem_append_right _ (List.mem_append_right _ (List.mem_append_right _ (List.mem_append_right _ (List.mem_append_right _ (List.mem_append_right _ (List.mem_append_right _ (List.mem_append_right _ (List.mem_append_left _ (h)))))))))))))))))))))))))))))))))))))))))))
theorem LWr_31 : ∀ w ∈ wsL_law0_r31, w ∈ LW := fun _ h => List.mem_append_left _ (List.mem_append_left _ (List.mem_append_left _ (List.mem_append_left _ (List.mem_append_left _ (List.mem_append_left _ (List.mem_append_left _ (List.mem_append_left _ (List.mem_append_left _ (List.mem_append_left _ (List.mem_append_left _ (List.mem_append_left _ (List.mem_append_left _ (List.mem_append_right _ (List.mem_append_right _ (List.mem_append_right _ (List.mem_append_right _ (List.mem_append_right _ (List.mem_append_right _ (List.mem_append_right _ (List.mem_append_right _ (List.mem_append_right _ (List.mem_append_right _ (List.mem_append_right _ (List.mem_append_right _ (List.mem_append_right _ (List.mem_append_right _ (List.mem_append_right _ (List.mem_append_right _ (List.mem_append_right _ (List.mem_append_right _ (List.mem_append_right _ (List.mem_append_right _ (List.mem_append_right _ (List.mem_append_right _ (List.mem_append_right _ (List.mem_append_right _ (List.mem_append_right _ (List.mem_append_right _ (List.mem_append_right _ (List.mem_append_right _ (List.mem_append_right _ (List.mem_append_right _ (List.mem_append_left _ (h))))))))))))))))))))))))))))))))))))))))))))
theorem LWr_32 : ∀ w ∈ wsL_law0_r32, w ∈ LW := fun _ h => List.mem_append_left _ (List.mem_append_left _ (List.mem_append_left _ (List.mem_append_left _ (List.mem_append_left _ (List.mem_append_left _ (List.mem_append_left _ (List.mem_append_left _ (List.mem_append_left _ (List.mem_append_left _ (List.mem_append_left _ (List.mem_append_left _ (List.mem_append_left _ (List.mem_append_right _ (List.mem_append_right _ (List.mem_append_right _ (List.mem_append_right _ (List.mem_append_right _ (List.mem_append_right _ (List.mem_append_right _ (List.mem_append_right _ (List.mem_append_right _ (List.mem_append_right _ (List.mem_append_right _ (List.mem_append_right _ (List.mem_append_right _ (List.mem_append_right _ (List.mem_append_right _ (List.mem_append_right _ (List.mem_append_right _ (List.mem_append_right _ (List.mem_append_right _ (List.mem_append_right _ (List.mem_append_right _ (List.mem_append_right _ (List.mem_append_right _ (List.mem_append_right _ (List.mem_append_right _ (List.mem_append_right _ (List.mem_append_right _ (List.mem_append_right _ (List.mem_append_right _ (List.mem_append_right _ (List.mem_append_right _ (List.mem_append_left _ (h)))))))))))))))))))))))))))))))))))))))))))))
theorem LWr_33 : ∀ w ∈ wsL_law0_r33, w ∈ LW := fun _ h => List.mem_append_left _ (List.mem_append_left _ (List.mem_append_left _ (List.mem_append_left _ (List.mem_append_left _ (List.mem_append_left _ (List.mem_append_left _ (List.mem_append_left _ (List.mem_append_left _ (List.mem_append_left _ (List.mem_append_left _ (List.mem_append_left _ (List.mem_append_left _ (List.mem_append_right _ (List.mem_append_right _ (List.mem_append_right _ (List.mem_append_right _ (List.mem_append_right _ (List.mem_append_right _ (List.mem_append_right _ (List.mem_append_right _ (List.mem_append_right _ (List.mem_append_right _ (List.mem_append_right _ (List.mem_append_right _ (List.mem_append_right _ (List.mem_append_right _ (List.mem_append_right _ (List.mem_append_right _ (List.mem_append_right _ (List.mem_append_right _ (List.mem_append_right _ (List.mem_append_right _ (List.mem_append_right _ (List.mem_append_right _ (List.mem_append_right _ (List.mem_append_right _ (List.mem_append_right _ (List.mem_append_right _ (List.mem_append_right _ (List.mem_append_right _ (List.mem_append_right _ (List.mem_append_right _ (List.mem_append_right _ (List.mem_append_right _ (List.mem_append_left _ (h))))))))))))))))))))))))))))))))))))))))))))))
theorem LWr_34 : ∀ w ∈ wsL_law0_r34, w ∈ LW := fun _ h => List.mem_append_left _ (List.mem_append_left _ (List.mem_append_left _ (List.mem_append_left _ (List.mem_append_left _ (List.mem_append_left _ (List.mem_append_left _ (List.mem_append_left _ (List.mem_append_left _ (List.mem_append_left _ (List.mem_append_left _ (List.mem_append_left _ (List.mem_append_left _ (List.mem_append_right _ (List.mem_append_right _ (List.mem_append_right _ (List.mem_append_right _ (List.mem_append_right _ (List.mem_append_right _ (List.mem_append_right _ (List.mem_append_right _ (List.mem_append_right _ (List.mem_append_right _ (List.mem_append_right _ (List.mem_append_right _ (List.mem_append_right _ (List.mem_append_right _ (List.mem_append_right _ (List.mem_append_right _ (List.mem_append_right _ (List.mem_append_right _ (List.mem_append_right _ (List.mem_append_right _ (List.mem_append_right _ (List.mem_append_right _ (List.mem_append_right _ (List.mem_append_right _ (List.mem_append_right _ (List.mem_append_right _ (List.mem_append_right _ (List.mem_append_right _ (List.mem_append_right _ (List.mem_append_right _ (List.mem_append_right _ (List.mem_append_right _ (List.mem_append_right _ (List.mem_append_left _ (h)))))))))))))))))))))))))))))))))))))))))))))))
theorem LWr_35 : ∀ w ∈ wsL_law0_r35, w ∈ LW := fun _ h => List.mem_append_left _ (List.mem_append_left _ (List.mem_append_left _ (List.mem_append_left _ (List.mem_append_left _ (List.mem_append_left _ (List.mem_append_left _ (List.mem_append_left _ (List.mem_append_left _ (List.mem_append_left _ (List.mem_append_left _ (List.mem_append_left _ (List.mem_append_left _ (List.mem_append_right _ (List.mem_append_right _ (List.mem_append_right _ (List.mem_append_right _ (List.mem_append_right _ (List.mem_append_right _ (List.mem_append_right _ (List.mem_append_right _ (List.mem_append_right _ (List.mem_append_right _ (List.mem_append_right _ (List.mem_append_right _ (List.mem_append_right _ (List.mem_append_right _ (List.mem_append_right _ (List.mem_append_right _ (List.mem_append_right _ (List.mem_append_right _ (List.mem_append_right _ (List.mem_append_right _ (List.mem_append_right _ (List.mem_append_right _ (List.mem_append_right _ (List.mem_append_right _ (List.mem_append_right _ (List.mem_append_right _ (List.mem_append_right _ (List.mem_append_right _ (List.mem_append_right _ (List.mem_append_right _ (List.mem_append_right _ (List.mem_append_right _ (List.mem_append_right _ (List.mem_append_right _ (List.mem_append_left _ (h))))))))))))))))))))))))))))))))))))))))))))))))
theorem LWr_36 : ∀ w ∈ wsL_law0_r36, w ∈ LW := fun _ h => List.mem_append_left _ (List.mem_append_left _ (List.mem_append_left _ (List.mem_append_left _ (List.mem_append_left _ (List.mem_append_left _ (List.mem_append_left _ (List.mem_append_left _ (List.mem_append_left _ (List.mem_append_left _ (List.mem_append_left _ (List.mem_append_left _ (List.mem_append_left _ (List.mem_append_right _ (List.mem_append_right _ (List.mem_append_right _ (List.mem_append_right _ (List.mem_append_right _ (List.mem_append_right _ (List.mem_append_right _ (List.mem_append_right _ (List.mem_append_right _ (List.mem_append_right _ (List.mem_append_right _ (List.mem_append_right _ (List.mem_append_right _ (List.mem_append_right _ (List.mem_append_right _ (List.mem_append_right _ (List.mem_append_right _ (List.mem_append_right _ (List.mem_append_right _ (List.mem_append_right _ (List.mem_append_right _ (List.mem_append_right _ (List.mem_append_right _ (List.mem_append_right _ (List.mem_append_right _ (List.mem_append_right _ (List.mem_append_right _ (List.mem_append_right _ (List.mem_append_right _ (List.mem_append_right _ (List.mem_append_right _ (List.mem_append_right _ (List.mem_append_right _ (List.mem_append_right _ (List.mem_append_right _ (List.mem_append_left _ (h)))))))))))))))))))))))))))))))))))))))))))))))))
theorem LWr_37 : ∀ w ∈ wsL_law0_r37, w ∈ LW := fun _ h => List.mem_append_left _ (List.mem_append_left _ (List.mem_append_left _ (List.mem_append_left _ (List.mem_append_left _ (List.mem_append_left _ (List.mem_append_left _ (List.mem_append_left _ (List.mem_append_left _ (List.mem_append_left _ (List.mem_append_left _ (List.mem_append_left _ (List.mem_append_left _ (List.mem_append_right _ (List.mem_append_right _ (List.mem_append_right _ (List.mem_append_right _ (List.mem_append_right _ (List.mem_append_right _ (List.mem_append_right _ (List.mem_append_right _ (List.mem_append_right _ (List.mem_append_right _ (List.mem_append_right _ (List.mem_append_right _ (List.mem_append_right _ (List.mem_append_right _ (List.mem_append_right _ (List.mem_append_right _ (List.mem_append_right _ (List.mem_append_right _ (List.mem_append_right _ (List.mem_append_right _ (List.mem_append_right _ (List.mem_append_right _ (List.mem_append_right _ (List.mem_append_right _ (List.mem_append_right _ (List.mem_append_right _ (List.mem_append_right _ (List.mem_append_right _ (List.mem_append_right _ (List.mem_append_right _ (List.mem_append_right _ (List.mem_append_right _ (List.mem_append_right _ (List.mem_append_right _ (List.mem_append_right _ (List.mem_append_right _ (List.mem_append_left _ (h))))))))))))))))))))))))))))))))))))))))))))))))))
theorem LWr_38 : ∀ w ∈ wsL_law0_r38, w ∈ LW := fun _ h => List.mem_append_left _ (List.mem_append_left _ (List.mem_append_left _ (List.mem_append_left _ (List.mem_append_left _ (List.mem_append_left _ (List.mem_append_left _ (List.mem_append_left _ (List.mem_append_left _ (List.mem_append_left _ (List.mem_append_left _ (List.mem_append_left _ (List.mem_append_left _ (List.mem_append_right _ (List.mem_append_right _ (List.mem_append_right _ (List.mem_append_right _ (List.mem_append_right _ (List.mem_append_right _ (List.mem_append_right _ (List.mem_append_right _ (List.mem_append_right _ (List.mem_append_right _ (List.mem_append_right _ (List.mem_append_right _ (List.mem_append_right _ (List.mem_append_right _ (List.mem_append_right _ (List.mem_append_right _ (List.mem_append_right _ (List.mem_append_right _ (List.mem_append_right _ (List.mem_append_right _ (List.mem_append_right _ (List.mem_append_right _ (List.mem_append_right _ (List.mem_append_right _ (List.mem_append_right _ (List.mem_append_right _ (List.mem_append_right _ (List.mem_append_right _ (List.mem_append_right _ (List.mem_append_right _ (List.mem_append_right _ (List.mem_append_right _ (List.mem_append_right _ (List.mem_append_right _ (List.mem_append_right _ (List.mem_append_right _ (List.mem_append_right _ (List.mem_append_left _ (h)))))))))))))))))))))))))))))))))))))))))))))))))))
theorem LWr_39 : ∀ w ∈ wsL_law0_r39, w ∈ LW := fun _ h => List.mem_append_left _ (List.mem_append_left _ (List.mem_append_left _ (List.mem_append_left _ (List.mem_append_left _ (List.mem_append_left _ (List.mem_append_left _ (List.mem_append_left _ (List.mem_append_left _ (List.mem_append_left _ (List.mem_append_left _ (List.mem_append_left _ (List.mem_append_left _ (List.mem_append_right _ (List.mem_append_right _ (List.mem_append_right _ (List.mem_append_right _ (List.mem_append_right _ (List.mem_append_right _ (List.mem_append_right _ (List.mem_append_right _ (List.mem_append_right _ (List.mem_append_right _ (List.mem_append_right _ (List.mem_append_right _ (List.mem_append_right _ (List.mem_append_right _ (List.mem_append_right _ (List.mem_append_right _ (List.mem_append_right _ (List.mem_append_right _ (List.mem_append_right _ (List.mem_append_right _ (List.mem_append_right _ (List.mem_append_right _ (List.mem_append_right _ (List.mem_append_right _ (List.mem_append_right _ (List.mem_append_right _ (List.mem_append_right _ (List.mem_append_right _ (List.mem_append_right _ (List.mem_append_right _ (List.mem_append_right _ (List.mem_append_right _ (List.mem_append_right _ (List.mem_append_right _ (List.mem_append_right _ (List.mem_append_right _ (List.mem_append_right _ (List.mem_append_right _ (List.mem_append_left _ (h))))))))))))))))))))))))))))))))))))))))))))))))))))
theorem LWr_40 : ∀ w ∈ wsL_law0_r40, w ∈ LW := fun _ h => List.mem_append_left _ (List.mem_append_left _ (List.mem_append_left _ (List.mem_append_left _ (List.mem_append_left _ (List.mem_append_left _ (List.mem_append_left _ (List.mem_append_left _ (List.mem_append_left _ (List.mem_append_left _ (List.mem_append_left _ (List.mem_append_left _ (List.mem_append_left _ (List.mem_append_right _ (List.mem_append_right _ (List.mem_append_right _ (List.mem_append_right _ (List.mem_append_right _ (List.mem_append_right _ (List.mem_append_right _ (List.mem_append_right _ (List.mem_append_right _ (List.mem_append_right _ (List.mem_append_right _ (List.mem_append_right _ (List.mem_append_right _ (List.mem_append_right _ (List.mem_append_right _ (List.mem_append_right _ (List.mem_append_right _ (List.mem_append_right _ (List.mem_append_right _ (List.mem_append_right _ (List.mem_append_right _ (List.mem_append_right _ (List.mem_append_right _ (List.mem_append_right _ (List.mem_append_right _ (List.mem_append_right _ (List.mem_append_right _ (List.mem_append_right _ (List.mem_append_right _ (List.mem_append_right _ (List.mem_append_right _ (List.mem_append_right _ (List.mem_append_right _ (List.mem_append_right _ (List.mem_append_right _ (List.mem_append_right _ (List.mem_append_right _ (List.mem_append_right _ (List.mem_append_right _ (List.mem_append_left _ (h)))))))))))))))))))))))))))))))))))))))))))))))))))))
theorem LWr_41 : ∀ w ∈ wsL_law0_r41, w ∈ LW := fun _ h => List.mem_append_left _ (List.mem_append_left _ (List.mem_append_left _ (List.mem_append_left _ (List.mem_append_left _ (List.mem_append_left _ (List.mem_append_left _ (List.mem_append_left _ (List.mem_append_left _ (List.mem_append_left _ (List.mem_append_left _ (List.mem_append_left _ (List.mem_append_left _ (List.mem_append_right _ (List.mem_append_right _ (List.mem_append_right _ (List.mem_append_right _ (List.mem_append_right _ (List.mem_append_right _ (List.mem_append_right _ (List.mem_append_right _ (List.mem_append_right _ (List.mem_append_right _ (List.mem_append_right _ (List.mem_append_right _ (List.mem_append_right _ (List.mem_append_right _ (List.mem_append_right _ (List.mem_append_right _ (List.mem_append_right _ (List.mem_append_right _ (List.mem_append_right _ (List.mem_append_right _ (List.mem_append_right _ (List.mem_append_right _ (List.mem_append_right _ (List.mem_append_right _ (List.mem_append_right _ (List.mem_append_right _ (List.mem_append_right _ (List.mem_append_right _ (List.mem_append_right _ (List.mem_append_right _ (List.mem_append_right _ (List.mem_append_right _ (List.mem_append_right _ (List.mem_append_right _ (List.mem_append_right _ (List.mem_append_right _ (List.mem_append_right _ (List.mem_append_right _ (List.mem_append_right _ (List.mem_append_right _ (List.mem_append_left _ (h))))))))))))))))))))))))))))))))))))))))))))))))))))))
theorem LWr_42 : ∀ w ∈ wsL_law0_r42, w ∈ LW := fun _ h => List.mem_append_left _ (List.mem_append_left _ (List.mem_append_left _ (List.mem_append_left _ (List.mem_append_left _ (List.mem_append_left _ (List.mem_append_left _ (List.mem_append_left _ (List.mem_append_left _ (List.mem_append_left _ (List.mem_append_left _ (List.mem_append_left _ (List.mem_append_left _ (List.mem_append_right _ (List.mem_append_right _ (List.mem_append_right _ (List.mem_append_right _ (List.mem_append_right _ (List.mem_append_right _ (List.mem_append_right _ (List.mem_append_right _ (List.mem_append_right _ (List.mem_append_right _ (List.mem_append_right _ (List.mem_append_right _ (List.mem_append_right _ (List.mem_append_right _ (List.mem_append_right _ (List.mem_append_right _ (List.mem_append_right _ (List.mem_append_right _ (List.mem_append_right _ (List.mem_append_right _ (List.mem_append_right _ (List.mem_append_right _ (List.mem_append_right _ (List.mem_append_right _ (List.mem_append_right _ (List.mem_append_right _ (List.mem_append_right _ (List.mem_append_right _ (List.mem_append_right _ (List.mem_append_right _ (List.mem_append_right _ (List.mem_append_right _ (List.mem_append_right _ (List.mem_append_right _ (List.mem_append_right _ (List.mem_append_right _ (List.mem_append_right _ (List.mem_append_right _ (List.mem_append_right _ (List.mem_append_right _ (List.mem_append_right _ (List.mem_append_left _ (h)))))))))))))))))))))))))))))))))))))))))))))))))))))))
theorem LWr_43 : ∀ w ∈ wsL_law0_r43, w ∈ LW := fun _ h => List.mem_append_left _ (List.mem_append_left _ (List.mem_append_left _ (List.mem_append_left _ (List.mem_append_left _ (List.mem_append_left _ (List.mem_append_left _ (List.mem_append_left _ (List.mem_append_left _ (List.mem_append_left _ (List.mem_append_left _ (List.mem_append_left _ (List.mem_append_left _ (List.mem_append_right _ (List.mem_append_right _ (List.mem_append_right _ (List.mem_append_right _ (List.mem_append_right _ (List.mem_append_right _ (List.mem_append_right _ (List.mem_append_right _ (List.mem_append_right _ (List.mem_append_right _ (List.mem_append_right _ (List.mem_append_right _ (List.mem_append_right _ (List.mem_append_right _ (List.mem_append_right _ (List.mem_append_right _ (List.mem_append_right _ (List.mem_append_right _ (List.mem_append_right _ (List.mem_append_right _ (List.mem_append_right _ (List.mem_append_right _ (List.mem_append_right _ (List.mem_append_right _ (List.mem_append_right _ (List.mem_append_right _ (List.mem_append_right _ (List.mem_append_right _ (List.mem_append_right _ (List.mem_append_right _ (List.mem_append_right _ (List.mem_append_right _ (List.mem_append_right _ (List.mem_append_right _ (List.mem_append_right _ (List.mem_append_right _ (List.mem_append_right _ (List.mem_append_right _ (List.mem_append_right _ (List.mem_append_right _ (List.mem_append_right _ (List.mem_append_right _ (List.mem_append_left _ (h))))))))))))))))))))))))))))))))))))))))))))))))))))))))
theorem LWr_44 : ∀ w ∈ wsL_law0_r44, w ∈ LW := fun _ h => List.mem_append_left _ (List.mem_append_left _ (List.mem_append_left _ (List.mem_append_left _ (List.mem_append_left _ (List.mem_append_left _ (List.mem_append_left _ (List.mem_append_left _ (List.mem_append_left _ (List.mem_append_left _ (List.mem_append_left _ (List.mem_append_left _ (List.mem_append_left _ (List.mem_append_right _ (List.mem_append_right _ (List.mem_append_right _ (List.mem_append_right _ (List.mem_append_right _ (List.mem_append_right _ (List.mem_append_right _ (List.mem_append_right _ (List.mem_append_right _ (List.mem_append_right _ (List.mem_append_right _ (List.mem_append_right _ (List.mem_append_right _ (List.mem_append_right _ (List.mem_append_right _ (List.mem_append_right _ (List.mem_append_right _ (List.mem_append_right _ (List.mem_append_right _ (List.mem_append_right _ (List.mem_append_right _ (List.mem_append_right _ (List.mem_append_right _ (List.mem_append_right _ (List.mem_append_right _ (List.mem_append_right _ (List.mem_append_right _ (List.mem_append_right _ (List.mem_append_right _ (List.mem_append_right _ (List.mem_append_right _ (List.mem_append_right _ (List.mem_append_right _ (List.mem_append_right _ (List.mem_append_right _ (List.mem_append_right _ (List.mem_append_right _ (List.mem_append_right _ (List.mem_append_right _ (List.mem_append_right _ (List.mem_append_right _ (List.mem_append_right _ (List.mem_append_right _ (List.mem_append_left _ (h)))))))))))))))))))))))))))))))))))))))))))))))))))))))))
theorem LWr_45 : ∀ w ∈ wsL_law0_r45, w ∈ LW := fun _ h => List.mem_append_left _ (List.mem_append_left _ (List.mem_append_left _ (List.mem_append_left _ (List.mem_append_left _ (List.mem_append_left _ (List.mem_append_left _ (List.mem_append_left _ (List.mem_append_left _ (List.mem_append_left _ (List.mem_append_left _ (List.mem_append_left _ (List.mem_append_left _ (List.mem_append_right _ (List.mem_append_right _ (List.mem_append_right _ (List.mem_append_right _ (List.mem_append_right _ (List.mem_append_right _ (List.mem_append_right _ (List.mem_append_right _ (List.mem_append_right _ (List.mem_append_right _ (List.mem_append_right _ (List.mem_append_right _ (List.mem_append_right _ (List.mem_append_right _ (List.mem_append_right _ (List.mem_append_right _ (List.mem_append_right _ (List.mem_append_right _ (List.mem_append_right _ (List.mem_append_right _ (List.mem_append_right _ (List.mem_append_right _ (List.mem_append_right _ (List.mem_append_right _ (List.mem_append_right _ (List.mem_append_right _ (List.mem_append_right _ (List.mem_append_right _ (List.mem_append_right _ (List.mem_append_right _ (List.mem_append_right _ (List.mem_append_right _ (List.mem_append_right _ (List.mem_append_right _ (List.mem_append_right _ (List.mem_append_right _ (List.mem_append_right _ (List.mem_append_right _ (List.mem_append_right _ (List.mem_append_right _ (List.mem_append_right _ (List.mem_append_right _ (List.mem_append_right _ (List.mem_append_right _ (List.mem_append_left _ (h))))))))))))))))))))))))))))))))))))))))))))))))))))))))))
theorem LWr_46 : ∀ w ∈ wsL_law0_r46, w ∈ LW := fun _ h => List.mem_append_left _ (List.mem_append_left _ (List.mem_append_left _ (List.mem_append_left _ (List.mem_append_left _ (List.mem_append_left _ (List.mem_append_left _ (List.mem_append_left _ (List.mem_append_left _ (List.mem_append_left _ (List.mem_append_left _ (List.mem_append_left _ (List.mem_append_left _ (List.mem_append_right _ (List.mem_append_right _ (List.mem_append_right _ (List.mem_append_right _ (List.mem_append_right _ (List.mem_append_right _ (List.mem_append_right _ (List.mem_append_right _ (List.mem_append_right _ (List.mem_append_right _ (List.mem_append_right _ (List.mem_append_right _ (List.mem_append_right _ (List.mem_append_right _ (List.mem_append_right _ (List.mem_append_right _ (List.mem_append_right _ (List.mem_append_right _ (List.mem_append_right _ (List.mem_append_right _ (List.mem_append_right _ (List.mem_append_right _ (List.mem_append_right _ (List.mem_append_right _ (List.mem_append_right _ (List.mem_append_right _ (List.mem_append_right _ (List.mem_append_right _ (List.mem_append_right _ (List.mem_append_right _ (List.mem_append_right _ (List.mem_append_right _ (List.mem_append_right _ (List.mem_append_right _ (List.mem_append_right _ (List.mem_append_right _ (List.mem_append_right _ (List.mem_append_right _ (List.mem_append_right _ (List.mem_append_right _ (List.mem_append_right _ (List.mem_append_right _ (List.mem_append_right _ (List.mem_append_right _ (List.mem_append_right _ (List.mem_append_left _ (h)))))))))))))))))))))))))))))))))))))))))))))))))))))))))))
theorem LWr_47 : ∀ w ∈ wsL_law0_r47, w ∈ LW := fun _ h => List.mem_append_left _ (List.mem_append_left _ (List.mem_append_left _ (List.mem_append_left _ (List.mem_append_left _ (List.mem_append_left _ (List.mem_append_left _ (List.mem_append_left _ (List.mem_append_left _ (List.mem_append_left _ (List.mem_append_left _ (List.mem_append_left _ (List.mem_append_left _ (List.mem_append_right _ (List.mem_append_right _ (List.mem_append_right _ (List.mem_append_right _ (List.mem_append_right _ (List.mem_append_right _ (List.mem_append_right _ (List.mem_append_right _ (List.mem_append_right _ (List.mem_append_right _ (List.mem_append_right _ (List.mem_append_right _ (List.mem_append_right _ (List.mem_append_right _ (List.mem_append_right _ (List.mem_append_right _ (List.mem_append_right _ (List.mem_append_right _ (List.mem_append_right _ (List.mem_append_right _ (List.mem_append_right _ (List.mem_append_right _ (List.mem_append_right _ (List.mem_append_right _ (List.mem_append_right _ (List.mem_append_right _ (List.mem_append_right _ (List.mem_append_right _ (List.mem_append_right _ (List.mem_append_right _ (List.mem_append_right _ (List.mem_append_right _ (List.mem_append_right _ (List.mem_append_right _ (List.mem_append_right _ (List.mem_append_right _ (List.mem_append_right _ (List.mem_append_right _ (List.mem_append_right _ (List.mem_append_right _ (List.mem_append_right _ (List.mem_append_right _ (List.mem_append_right _ (List.mem_append_right _ (List.mem_append_right _ (List.mem_append_right _ (List.mem_append_left _ (h))))))))))))))))))))))))))))))))))))))))))))))))))))))))))))
theorem LWr_48 : ∀ w ∈ wsL_law0_r48, w ∈ LW := fun _ h => List.mem_append_left _ (List.mem_append_left _ (List.mem_append_left _ (List.mem_append_left _ (List.mem_append_left _ (List.mem_append_left _ (List.mem_append_left _ (List.mem_append_left _ (List.mem_append_left _ (List.mem_append_left _ (List.mem_append_left _ (List.mem_append_left _ (List.mem_append_left _ (List.mem_append_right _ (List.mem_append_right _ (List.mem_append_right _ (List.mem_append_right _ (List.mem_append_right _ (List.mem_append_right _ (List.mem_append_right _ (List.mem_append_right _ (List.mem_append_right _ (List.mem_append_right _ (List.mem_append_right _ (List.mem_append_right _ (List.mem_append_right _ (List.mem_append_right _ (List.mem_append_right _ (List.mem_append_right _ (List.mem_append_right _ (List.mem_append_right _ (List.mem_append_right _ (List.mem_append_right _ (List.mem_append_right _ (List.mem_append_right _ (List.mem_append_right _ (List.mem_append_right _ (List.mem_append_right _ (List.mem_append_right _ (List.mem_append_right _ (List.mem_append_right _ (List.mem_append_right _ (List.mem_append_right _ (List.mem_append_right _ (List.mem_append_right _ (List.mem_append_right _ (List.mem_append_right _ (List.mem_append_right _ (List.mem_append_right _ (List.mem_append_right _ (List.mem_append_right _ (List.mem_append_right _ (List.mem_append_right _ (List.mem_append_right _ (List.mem_append_right _ (List.mem_append_right _ (List.mem_append_right _ (List.mem_append_right _ (List.mem_append_right _ (List.mem_append_right _ (List.mem_append_left _ (h)))))))))))))))))))))))))))))))))))))))))))))))))))))))))))))
theorem LWr_49 : ∀ w ∈ wsL_law0_r49, w ∈ LW := fun _ h => List.mem_append_left _ (List.mem_append_left _ (List.mem_append_left _ (List.mem_append_left _ (List.mem_append_left _ (List.mem_append_left _ (List.mem_append_left _ (List.mem_append_left _ (List.mem_append_left _ (List.mem_append_left _ (List.mem_append_left _ (List.mem_append_left _ (List.mem_append_left _ (List.mem_append_right _ (List.mem_append_right _ (List.mem_append_right _ (List.mem_append_right _ (List.mem_append_right _ (List.mem_append_right _ (List.mem_append_right _ (List.mem_append_right _ (List.mem_append_right _ (List.mem_append_right _ (List.mem_append_right _ (List.mem_append_right _ (List.mem_append_right _ (List.mem_append_right _ (List.mem_append_right _ (List.mem_append_right _ (List.mem_append_right _ (List.mem_append_right _ (List.mem_append_right _ (List.mem_append_right _ (List.mem_append_right _ (List.mem_append_right _ (List.mem_append_right _ (List.mem_append_right _ (List.mem_append_right _ (List.mem_append_right _ (List.mem_append_right _ (List.mem_append_right _ (List.mem_append_right _ (List.mem_append_right _ (List.mem_append_right _ (List.mem_append_right _ (List.mem_append_right _ (List.mem_append_right _ (List.mem_append_right _ (List.mem_append_right _ (List.mem_append_right _ (List.mem_append_right _ (List.mem_append_right _ (List.mem_append_right _ (List.mem_append_right _ (List.mem_append_right _ (List.mem_append_right _ (List.mem_append_right _ (List.mem_append_right _ (List.mem_append_right _ (List.mem_append_right _ (List.mem_append_right _ (List.mem_append_left _ (h))))))))))))))))))))))))))))))))))))))))))))))))))))))))))))))
theorem LWr_50 : ∀ w ∈ wsL_law0_r50, w ∈ LW := fun _ h => List.mem_append_left _ (List.mem_append_left _ (List.mem_append_left _ (List.mem_append_left _ (List.mem_append_left _ (List.mem_append_left _ (List.mem_append_left _ (List.mem_append_left _ (List.mem_append_left _ (List.mem_append_left _ (List.mem_append_left _ (List.mem_append_left _ (List.mem_append_left _ (List.mem_append_right _ (List.mem_append_right _ (List.mem_append_right _ (List.mem_append_right _ (List.mem_append_right _ (List.mem_append_right _ (List.mem_append_right _ (List.mem_append_right _ (List.mem_append_right _ (List.mem_append_right _ (List.mem_append_right _ (List.mem_append_right _ (List.mem_append_right _ (List.mem_append_right _ (List.mem_append_right _ (List.mem_append_right _ (List.mem_append_right _ (List.mem_append_right _ (List.mem_append_right _ (List.mem_append_right _ (List.mem_append_right _ (List.mem_append_right _ (List.mem_append_right _ (List.mem_append_right _ (List.mem_append_right _ (List.mem_append_right _ (List.mem_append_right _ (List.mem_append_right _ (List.mem_append_right _ (List.mem_append_right _ (List.mem_append_right _ (List.mem_append_right _ (List.mem_append_right _ (List.mem_append_right _ (List.mem_append_right _ (List.mem_append_right _ (List.mem_append_right _ (List.mem_append_right _ (List.mem_append_right _ (List.mem_append_right _ (List.mem_append_right _ (List.mem_append_right _ (List.mem_append_right _ (List.mem_append_right _ (List.mem_append_right _ (List.mem_append_right _ (List.mem_append_right _ (List.mem_append_right _ (List.mem_append_right _ (List.mem_append_left _ (h)))))))))))))))))))))))))))))))))))))))))))))))))))))))))))))))
theorem LWr_51 : ∀ w ∈ wsL_law0_r51, w ∈ LW := fun _ h => List.mem_append_left _ (List.mem_append_left _ (List.mem_append_left _ (List.mem_append_left _ (List.mem_append_left _ (List.mem_append_left _ (List.mem_append_left _ (List.mem_append_left _ (List.mem_append_left _ (List.mem_append_left _ (List.mem_append_left _ (List.mem_append_left _ (List.mem_append_left _ (List.mem_append_right _ (List.mem_append_right _ (List.mem_append_right _ (List.mem_append_right _ (List.mem_append_right _ (List.mem_append_right _ (List.mem_append_right _ (List.mem_append_right _ (List.mem_append_right _ (List.mem_append_right _ (List.mem_append_right _ (List.mem_append_right _ (List.mem_append_right _ (List.mem_append_right _ (List.mem_append_right _ (List.mem_append_right _ (List.mem_append_right _ (List.mem_append_right _ (List.mem_append_right _ (List.mem_append_right _ (List.mem_append_right _ (List.mem_append_right _ (List.mem_append_right _ (List.mem_append_right _ (List.mem_append_right _ (List.mem_append_right _ (List.mem_append_right _ (List.mem_append_right _ (List.mem_append_right _ (List.mem_append_right _ (List.mem_append_right _ (List.mem_append_right _ (List.mem_append_right _ (List.mem_append_right _ (List.mem_append_right _ (List.mem_append_right _ (List.mem_append_right _ (List.mem_append_right _ (List.mem_append_right _ (List.mem_append_right _ (List.mem_append_right _ (List.mem_append_right _ (List.mem_append_right _ (List.mem_append_right _ (List.mem_append_right _ (List.mem_append_right _ (List.mem_append_right _ (List.mem_append_right _ (List.mem_append_right _ (List.mem_append_right _ (List.mem_append_left _ (h))))))))))))))))))))))))))))))))))))))))))))))))))))))))))))))))
theorem LWr_52 : ∀ w ∈ wsL_law0_r52, w ∈ LW := fun _ h => List.mem_append_left _ (List.mem_append_left _ (List.mem_append_left _ (List.mem_append_left _ (List.mem_append_left _ (List.mem_append_left _ (List.mem_append_left _ (List.mem_append_left _ (List.mem_append_left _ (List.mem_append_left _ (List.mem_append_left _ (List.mem_append_left _ (List.mem_append_left _ (List.mem_append_right _ (List.mem_append_right _ (List.mem_append_right _ (List.mem_append_right _ (List.mem_append_right _ (List.mem_append_right _ (List.mem_append_right _ (List.mem_append_right _ (List.mem_append_right _ (List.mem_append_right _ (List.mem_append_right _ (List.mem_append_right _ (List.mem_append_right _ (List.mem_append_right _ (List.mem_append_right _ (List.mem_append_right _ (List.mem_append_right _ (List.mem_append_right _ (List.mem_append_right _ (List.mem_append_right _ (List.mem_append_right _ (List.mem_append_right _ (List.mem_append_right _ (List.mem_append_right _ (List.mem_append_right _ (List.mem_append_right _ (List.mem_append_right _ (List.mem_append_right _ (List.mem_append_right _ (List.mem_append_right _ (List.mem_append_right _ (List.mem_append_right _ (List.mem_append_right _ (List.mem_append_right _ (List.mem_append_right _ (List.mem_append_right _ (List.mem_append_right _ (List.mem_append_right _ (List.mem_append_right _ (List.mem_append_right _ (List.mem_append_right _ (List.mem_append_right _ (List.mem_append_right _ (List.mem_append_right _ (List.mem_append_right _ (List.mem_append_right _ (List.mem_append_right _ (List.mem_append_right _ (List.mem_append_right _ (List.mem_append_right _ (List.mem_append_right _ (List.mem_append_left _ (h)))))))))))))))))))))))))))))))))))))))))))))))))))))))))))))))))
theorem LWr_53 : ∀ w ∈ wsL_law0_r53, w ∈ LW := fun _ h => List.mem_append_left _ (List.mem_append_left _ (List.mem_append_left _ (List.mem_append_left _ (List.mem_append_left _ (List.mem_append_left _ (List.mem_append_left _ (List.mem_append_left _ (List.mem_append_left _ (List.mem_append_left _ (List.mem_append_left _ (List.mem_append_left _ (List.mem_append_left _ (List.mem_append_right _ (List.mem_append_right _ (List.mem_append_right _ (List.mem_append_right _ (List.mem_append_right _ (List.mem_append_right _ (List.mem_append_right _ (List.mem_append_right _ (List.mem_append_right _ (List.mem_append_right _ (List.mem_append_right _ (List.mem_append_right _ (List.mem_append_right _ (List.mem_append_right _ (List.mem_append_right _ (List.mem_append_right _ (List.mem_append_right _ (List.mem_append_right _ (List.mem_append_right _ (List.mem_append_right _ (List.mem_append_right _ (List.mem_append_right _ (List.mem_append_right _ (List.mem_append_right _ (List.mem_append_right _ (List.mem_append_right _ (List.mem_append_right _ (List.mem_append_right _ (List.mem_append_right _ (List.mem_append_right _ (List.mem_append_right _ (List.mem_append_right _ (List.mem_append_right _ (List.mem_append_right _ (List.mem_append_right _ (List.mem_append_right _ (List.mem_append_right _ (List.mem_append_right _ (List.mem_append_right _ (List.mem_append_right _ (List.mem_append_right _ (List.mem_append_right _ (List.mem_append_right _ (List.mem_append_right _ (List.mem_append_right _ (List.mem_append_right _ (List.mem_append_right _ (List.mem_append_right _ (List.mem_append_right _ (List.mem_append_right _ (List.mem_append_right _ (List.mem_append_right _ (h)))))))))))))))))))))))))))))))))))))))))))))))))))))))))))))))))
theorem inLW_X11 : ∀ w ∈ wsX110, w ∈ LW := fun _ h => List.mem_append_left _ (List.mem_append_left _ (List.mem_append_left _ (List.mem_append_left _ (List.mem_append_left _ (List.mem_append_left _ (List.mem_append_left _ (List.mem_append_left _ (List.mem_append_left _ (List.mem_append_left _ (List.mem_append_left _ (List.mem_append_left _ (List.mem_append_right _ (h)))))))))))))
theorem inLW_X12 : ∀ w ∈ wsX120, w ∈ LW := fun _ h => List.mem_append_left _ (List.mem_append_left _ (List.mem_append_left _ (List.mem_append_left _ (List.mem_append_left _ (List.mem_append_left _ (List.mem_append_left _ (List.mem_append_left _ (List.mem_append_left _ (List.mem_append_left _ (List.mem_append_left _ (List.mem_append_right _ (h))))))))))))
theorem inLW_X4 : ∀ w ∈ wsX40, w ∈ LW := fun _ h => List.mem_append_left _ (List.mem_append_left _ (List.mem_append_left _ (List.mem_append_left _ (List.mem_append_left _ (List.mem_append_left _ (List.mem_append_left _ (List.mem_append_left _ (List.mem_append_left _ (List.mem_append_left _ (List.mem_append_right _ (h)))))))))))
theorem inLW_X5 : ∀ w ∈ wsX50, w ∈ LW := fun _ h => List.mem_append_left _ (List.mem_append_left _ (List.mem_append_left _ (List.mem_append_left _ (List.mem_append_left _ (List.mem_append_left _ (List.mem_append_left _ (List.mem_append_left _ (List.mem_append_left _ (List.mem_append_right _ (h))))))))))
theorem inLW_X0 : ∀ w ∈ wsX00, w ∈ LW := fun _ h => List.mem_append_left _ (List.mem_append_left _ (List.mem_append_left _ (List.mem_append_left _ (List.mem_append_left _ (List.mem_append_left _ (List.mem_append_left _ (List.mem_append_left _ (List.mem_append_right _ (h)))))))))
theorem inLW_X6 : ∀ w ∈ wsX60, w ∈ LW := fun _ h => List.mem_append_left _ (List.mem_append_left _ (List.mem_append_left _ (List.mem_append_left _ (List.mem_append_left _ (List.mem_append_left _ (List.mem_append_left _ (List.mem_append_right _ (h))))))))
theorem inLW_X8 : ∀ w ∈ wsX80, w ∈ LW := fun _ h => List.mem_append_left _ (List.mem_append_left _ (List.mem_append_left _ (List.mem_append_left _ (List.mem_append_left _ (List.mem_append_left _ (List.mem_append_right _ (h)))))))
theorem inLW_X1 : ∀ w ∈ wsX10, w ∈ LW := fun _ h => List.mem_append_left _ (List.mem_append_left _ (List.mem_append_left _ (List.mem_append_left _ (List.mem_append_left _ (List.mem_append_right _ (h))))))
theorem inLW_X3 : ∀ w ∈ wsX30, w ∈ LW := fun _ h => List.mem_append_left _ (List.mem_append_left _ (List.mem_append_left _ (List.mem_append_left _ (List.mem_append_right _ (h)))))
theorem inLW_X10 : ∀ w ∈ wsX100, w ∈ LW := fun _ h => List.mem_append_left _ (List.mem_append_left _ (List.mem_append_left _ (List.mem_append_right _ (h))))
theorem inLW_X7 : ∀ w ∈ wsX70, w ∈ LW := fun _ h => List.mem_append_left _ (List.mem_append_left _ (List.mem_append_right _ (h)))
theorem inLW_X2 : ∀ w ∈ wsX20, w ∈ LW := fun _ h => List.mem_append_left _ (List.mem_append_right _ (h))
theorem lw_1_0 : Cond.classLink RL 8 RX11 ∈ LW := LWr_1 _ (List.mem_of_getElem? (i := 0) rfl)
theorem lw_1_1 : Cond.instantiable RX11 12 ∈ LW := LWr_1 _ (List.mem_of_getElem? (i := 1) rfl)
theorem lw_1_2 : Cond.initialized RX11 ∈ LW := LWr_1 _ (List.mem_of_getElem? (i := 2) rfl)
theorem lw_1_3 : Cond.classLink RL 18 RX12 ∈ LW := LWr_1 _ (List.mem_of_getElem? (i := 3) rfl)
theorem lw_1_4 : Cond.instantiable RX12 61 ∈ LW := LWr_1 _ (List.mem_of_getElem? (i := 4) rfl)
theorem lw_1_5 : Cond.initialized RX12 ∈ LW := LWr_1 _ (List.mem_of_getElem? (i := 5) rfl)
theorem lw_1_6 : Cond.arrayClass .long ∈ LW := LWr_1 _ (List.mem_of_getElem? (i := 6) rfl)
theorem lw_1_7 : Cond.methodLink RL 17 yX11_init ∈ LW := LWr_1 _ (List.mem_of_getElem? (i := 7) rfl)
theorem lw_1_8 : Cond.instanceMethod yX11_init ∈ LW := LWr_1 _ (List.mem_of_getElem? (i := 8) rfl)
theorem lw_1_9 : Cond.code yX11_init cX11_init 4 none ∈ LW := LWr_1 _ (List.mem_of_getElem? (i := 9) rfl)
theorem lw_1_10 : Cond.methodLink RX11 1 objectInit ∈ LW := LWr_1 _ (List.mem_of_getElem? (i := 10) rfl)
theorem lw_1_11 : Cond.instanceMethod objectInit ∈ LW := LWr_1 _ (List.mem_of_getElem? (i := 11) rfl)
theorem lw_1_12 : Cond.code objectInit ⟨#[0xb1]⟩ 1 none ∈ LW := LWr_1 _ (List.mem_of_getElem? (i := 12) rfl)
theorem lw_1_13 : Cond.classLink RX11 7 RX4 ∈ LW := LWr_1 _ (List.mem_of_getElem? (i := 13) rfl)
theorem lw_1_14 : Cond.instantiable RX4 12 ∈ LW := LWr_1 _ (List.mem_of_getElem? (i := 14) rfl)
theorem lw_1_15 : Cond.initialized RX4 ∈ LW := LWr_1 _ (List.mem_of_getElem? (i := 15) rfl)
theorem lw_1_16 : Cond.classLink RX11 10 RX5 ∈ LW := LWr_1 _ (List.mem_of_getElem? (i := 16) rfl)
theorem lw_1_17 : Cond.instantiable RX5 8 ∈ LW := LWr_1 _ (List.mem_of_getElem? (i := 17) rfl)
theorem lw_1_18 : Cond.initialized RX5 ∈ LW := LWr_1 _ (List.mem_of_getElem? (i := 18) rfl)
theorem lw_1_19 : Cond.classLink RX11 13 RX0 ∈ LW := LWr_1 _ (List.mem_of_getElem? (i := 19) rfl)
theorem lw_1_20 : Cond.instantiable RX0 6 ∈ LW := LWr_1 _ (List.mem_of_getElem? (i := 20) rfl)
theorem lw_1_21 : Cond.initialized RX0 ∈ LW := LWr_1 _ (List.mem_of_getElem? (i := 21) rfl)
theorem lw_1_22 : Cond.fieldLink RX11 18 "AwardLine" "today" "I" ∈ LW := LWr_1 _ (List.mem_of_getElem? (i := 22) rfl)
theorem lw_1_23 : Cond.classLink RX11 24 RX6 ∈ LW := LWr_1 _ (List.mem_of_getElem? (i := 23) rfl)
theorem lw_2_0 : Cond.instantiable RX6 13 ∈ LW := LWr_2 _ (List.mem_of_getElem? (i := 0) rfl)
theorem lw_2_1 : Cond.initialized RX6 ∈ LW := LWr_2 _ (List.mem_of_getElem? (i := 1) rfl)
theorem lw_2_2 : Cond.fieldLink RX11 27 "AwardLine" "reader" "LAwardLine$Reader;" ∈ LW := LWr_2 _ (List.mem_of_getElem? (i := 2) rfl)
theorem lw_2_3 : Cond.classLink RX11 31 RX8 ∈ LW := LWr_2 _ (List.mem_of_getElem? (i := 3) rfl)
theorem lw_2_4 : Cond.instantiable RX8 7 ∈ LW := LWr_2 _ (List.mem_of_getElem? (i := 4) rfl)
theorem lw_2_5 : Cond.initialized RX8 ∈ LW := LWr_2 _ (List.mem_of_getElem? (i := 5) rfl)
theorem lw_2_6 : Cond.fieldLink RX11 34 "AwardLine" "terms" "LAwardLine$Terms;" ∈ LW := LWr_2 _ (List.mem_of_getElem? (i := 6) rfl)
theorem lw_2_7 : Cond.fieldLink RX11 38 "AwardLine" "spare" "LAwardLine$Terms;" ∈ LW := LWr_2 _ (List.mem_of_getElem? (i := 7) rfl)
theorem lw_2_8 : Cond.fieldLink RX11 41 "AwardLine" "land" "LAwardLine$Land;" ∈ LW := LWr_2 _ (List.mem_of_getElem? (i := 8) rfl)
theorem lw_2_9 : Cond.fieldLink RX11 45 "AwardLine" "notes" "LAwardLine$Notes;" ∈ LW := LWr_2 _ (List.mem_of_getElem? (i := 9) rfl)
theorem lw_2_10 : Cond.fieldLink RX11 49 "AwardLine" "census" "LAwardLine$Census;" ∈ LW := LWr_2 _ (List.mem_of_getElem? (i := 10) rfl)
theorem lw_2_11 : Cond.classLink RX11 53 RX1 ∈ LW := LWr_2 _ (List.mem_of_getElem? (i := 11) rfl)
theorem lw_2_12 : Cond.instantiable RX1 3 ∈ LW := LWr_2 _ (List.mem_of_getElem? (i := 12) rfl)
theorem lw_2_13 : Cond.initialized RX1 ∈ LW := LWr_2 _ (List.mem_of_getElem? (i := 13) rfl)
theorem lw_2_14 : Cond.fieldLink RX11 56 "AwardLine" "drafts" "LAwardLine$Drafts;" ∈ LW := LWr_2 _ (List.mem_of_getElem? (i := 14) rfl)
theorem lw_2_15 : Cond.classLink RX11 60 RX3 ∈ LW := LWr_2 _ (List.mem_of_getElem? (i := 15) rfl)
theorem lw_2_16 : Cond.instantiable RX3 4 ∈ LW := LWr_2 _ (List.mem_of_getElem? (i := 16) rfl)
theorem lw_2_17 : Cond.initialized RX3 ∈ LW := LWr_2 _ (List.mem_of_getElem? (i := 17) rfl)
theorem lw_2_18 : Cond.fieldLink RX11 65 "AwardLine" "judge" "LAwardLine$Judge;" ∈ LW := LWr_2 _ (List.mem_of_getElem? (i := 18) rfl)
theorem lw_2_19 : Cond.classLink RX11 69 RX10 ∈ LW := LWr_2 _ (List.mem_of_getElem? (i := 19) rfl)
theorem lw_2_20 : Cond.instantiable RX10 11 ∈ LW := LWr_2 _ (List.mem_of_getElem? (i := 20) rfl)
theorem lw_2_21 : Cond.initialized RX10 ∈ LW := LWr_2 _ (List.mem_of_getElem? (i := 21) rfl)
theorem lw_2_22 : Cond.fieldLink RX11 72 "AwardLine" "toll" "LAwardLine$Toll;" ∈ LW := LWr_2 _ (List.mem_of_getElem? (i := 22) rfl)
theorem lw_2_23 : Cond.classLink RX11 76 RX7 ∈ LW := LWr_2 _ (List.mem_of_getElem? (i := 23) rfl)
theorem lw_3_0 : Cond.instantiable RX7 3 ∈ LW := LWr_3 _ (List.mem_of_getElem? (i := 0) rfl)
theorem lw_3_1 : Cond.initialized RX7 ∈ LW := LWr_3 _ (List.mem_of_getElem? (i := 1) rfl)
theorem lw_3_2 : Cond.fieldLink RX11 81 "AwardLine" "rumour" "LAwardLine$Rumour;" ∈ LW := LWr_3 _ (List.mem_of_getElem? (i := 2) rfl)
theorem lw_3_3 : Cond.classLink RX11 85 RX2 ∈ LW := LWr_3 _ (List.mem_of_getElem? (i := 3) rfl)
theorem lw_3_4 : Cond.instantiable RX2 12 ∈ LW := LWr_3 _ (List.mem_of_getElem? (i := 4) rfl)
theorem lw_3_5 : Cond.initialized RX2 ∈ LW := LWr_3 _ (List.mem_of_getElem? (i := 5) rfl)
theorem lw_3_6 : Cond.fieldLink RX11 88 "AwardLine" "exodus" "LAwardLine$Exodus;" ∈ LW := LWr_3 _ (List.mem_of_getElem? (i := 6) rfl)
theorem lw_3_7 : Cond.methodLink RX11 9 yX4_init ∈ LW := LWr_3 _ (List.mem_of_getElem? (i := 7) rfl)
theorem lw_3_8 : Cond.instanceMethod yX4_init ∈ LW := LWr_3 _ (List.mem_of_getElem? (i := 8) rfl)
theorem lw_3_9 : Cond.code yX4_init cX4_init 1 none ∈ LW := LWr_3 _ (List.mem_of_getElem? (i := 9) rfl)
theorem lw_3_10 : Cond.methodLink RX4 3 objectInit ∈ LW := LWr_3 _ (List.mem_of_getElem? (i := 10) rfl)
theorem lw_3_11 : Cond.arrayClass .int ∈ LW := LWr_3 _ (List.mem_of_getElem? (i := 11) rfl)
theorem lw_3_12 : Cond.fieldLink RX4 9 "AwardLine$Land" "districts" "[I" ∈ LW := LWr_3 _ (List.mem_of_getElem? (i := 12) rfl)
theorem lw_3_13 : Cond.fieldLink RX4 15 "AwardLine$Land" "shrines" "[I" ∈ LW := LWr_3 _ (List.mem_of_getElem? (i := 13) rfl)
theorem lw_3_14 : Cond.fieldLink RX4 18 "AwardLine$Land" "headOf" "[I" ∈ LW := LWr_3 _ (List.mem_of_getElem? (i := 14) rfl)
theorem lw_3_15 : Cond.fieldLink RX4 21 "AwardLine$Land" "drinkers" "[I" ∈ LW := LWr_3 _ (List.mem_of_getElem? (i := 15) rfl)
theorem lw_3_16 : Cond.methodLink RX4 24 yX4_lay ∈ LW := LWr_3 _ (List.mem_of_getElem? (i := 16) rfl)
theorem lw_3_17 : Cond.instanceMethod yX4_lay ∈ LW := LWr_3 _ (List.mem_of_getElem? (i := 17) rfl)
theorem lw_3_18 : Cond.selects RX4 yX4_lay yX4_lay ∈ LW := LWr_3 _ (List.mem_of_getElem? (i := 18) rfl)
theorem lw_3_19 : Cond.code yX4_lay cX4_lay 4 none ∈ LW := LWr_3 _ (List.mem_of_getElem? (i := 19) rfl)
theorem lw_3_20 : Cond.fieldLink RX4 28 "AwardLine$Land" "wide" "I" ∈ LW := LWr_3 _ (List.mem_of_getElem? (i := 20) rfl)
theorem lw_3_21 : Cond.fieldLink RX4 32 "AwardLine$Land" "size" "I" ∈ LW := LWr_3 _ (List.mem_of_getElem? (i := 21) rfl)
theorem lw_3_22 : Cond.fieldLink RX4 35 "AwardLine$Land" "all" "I" ∈ LW := LWr_3 _ (List.mem_of_getElem? (i := 22) rfl)
theorem lw_3_23 : Cond.fieldLink RX4 38 "AwardLine$Land" "firstColumn" "I" ∈ LW := LWr_3 _ (List.mem_of_getElem? (i := 23) rfl)
theorem lw_4_0 : Cond.fieldLink RX4 41 "AwardLine$Land" "lastColumn" "I" ∈ LW := LWr_4 _ (List.mem_of_getElem? (i := 0) rfl)
theorem lw_4_1 : Cond.fieldLink RX4 50 "AwardLine$Land" "rails" "I" ∈ LW := LWr_4 _ (List.mem_of_getElem? (i := 1) rfl)
theorem lw_4_2 : Cond.fieldLink RX4 53 "AwardLine$Land" "heads" "I" ∈ LW := LWr_4 _ (List.mem_of_getElem? (i := 2) rfl)
theorem lw_4_3 : Cond.fieldLink RX4 56 "AwardLine$Land" "canals" "I" ∈ LW := LWr_4 _ (List.mem_of_getElem? (i := 3) rfl)
theorem lw_4_4 : Cond.methodLink RX4 44 yJ7_fill_53178 ∈ LW := LWr_4 _ (List.mem_of_getElem? (i := 4) rfl)
theorem lw_4_5 : Cond.static yJ7_fill_53178 ∈ LW := LWr_4 _ (List.mem_of_getElem? (i := 5) rfl)
theorem lw_4_6 : Cond.initialized RJ7 ∈ LW := LWr_4 _ (List.mem_of_getElem? (i := 6) rfl)
theorem lw_4_7 : Cond.code yJ7_fill_53178 cJ7_fill_53178 4 none ∈ LW := LWr_4 _ (List.mem_of_getElem? (i := 7) rfl)
theorem lw_4_8 : Cond.instanceMethod yX5_init ∈ LW := LWr_4 _ (List.mem_of_getElem? (i := 8) rfl)
theorem lw_4_9 : Cond.code yX5_init cX5_init 1 none ∈ LW := LWr_4 _ (List.mem_of_getElem? (i := 9) rfl)
theorem lw_4_10 : Cond.methodLink RX5 3 objectInit ∈ LW := LWr_4 _ (List.mem_of_getElem? (i := 10) rfl)
theorem lw_4_11 : Cond.fieldLink RX5 11 "AwardLine$Notes" "kind" "[I" ∈ LW := LWr_4 _ (List.mem_of_getElem? (i := 11) rfl)
theorem lw_4_12 : Cond.fieldLink RX5 15 "AwardLine$Notes" "subject" "[I" ∈ LW := LWr_4 _ (List.mem_of_getElem? (i := 12) rfl)
theorem lw_4_13 : Cond.fieldLink RX5 18 "AwardLine$Notes" "object" "[I" ∈ LW := LWr_4 _ (List.mem_of_getElem? (i := 13) rfl)
theorem lw_4_14 : Cond.fieldLink RX5 21 "AwardLine$Notes" "third" "[I" ∈ LW := LWr_4 _ (List.mem_of_getElem? (i := 14) rfl)
theorem lw_4_15 : Cond.fieldLink RX5 24 "AwardLine$Notes" "fourth" "[I" ∈ LW := LWr_4 _ (List.mem_of_getElem? (i := 15) rfl)
theorem lw_4_16 : Cond.fieldLink RX5 27 "AwardLine$Notes" "told" "[I" ∈ LW := LWr_4 _ (List.mem_of_getElem? (i := 16) rfl)
theorem lw_4_17 : Cond.arrayClass .boolean ∈ LW := LWr_4 _ (List.mem_of_getElem? (i := 17) rfl)
theorem lw_4_18 : Cond.fieldLink RX5 30 "AwardLine$Notes" "known" "[Z" ∈ LW := LWr_4 _ (List.mem_of_getElem? (i := 18) rfl)
theorem lw_4_19 : Cond.methodLink RX11 15 yX0_init ∈ LW := LWr_4 _ (List.mem_of_getElem? (i := 19) rfl)
theorem lw_4_20 : Cond.instanceMethod yX0_init ∈ LW := LWr_4 _ (List.mem_of_getElem? (i := 20) rfl)
theorem lw_4_21 : Cond.code yX0_init cX0_init 3 none ∈ LW := LWr_4 _ (List.mem_of_getElem? (i := 21) rfl)
theorem lw_4_22 : Cond.methodLink RX0 3 objectInit ∈ LW := LWr_4 _ (List.mem_of_getElem? (i := 22) rfl)
theorem lw_4_23 : Cond.fieldLink RX0 9 "AwardLine$Census" "error" "[I" ∈ LW := LWr_4 _ (List.mem_of_getElem? (i := 23) rfl)
theorem lw_5_0 : Cond.classLink RX0 15 "[[I" ∈ LW := LWr_5 _ (List.mem_of_getElem? (i := 0) rfl)
theorem lw_5_1 : Cond.fieldLink RX0 17 "AwardLine$Census" "least" "[[I" ∈ LW := LWr_5 _ (List.mem_of_getElem? (i := 1) rfl)
theorem lw_5_2 : Cond.fieldLink RX0 20 "AwardLine$Census" "greatest" "[[I" ∈ LW := LWr_5 _ (List.mem_of_getElem? (i := 2) rfl)
theorem lw_5_3 : Cond.fieldLink RX0 23 "AwardLine$Census" "people" "[[I" ∈ LW := LWr_5 _ (List.mem_of_getElem? (i := 3) rfl)
theorem lw_5_4 : Cond.fieldLink RX0 26 "AwardLine$Census" "land" "LAwardLine$Land;" ∈ LW := LWr_5 _ (List.mem_of_getElem? (i := 4) rfl)
theorem lw_5_5 : Cond.fieldLink RX0 30 "AwardLine$Census" "notes" "LAwardLine$Notes;" ∈ LW := LWr_5 _ (List.mem_of_getElem? (i := 5) rfl)
theorem lw_5_6 : Cond.instanceMethod yX6_init ∈ LW := LWr_5 _ (List.mem_of_getElem? (i := 6) rfl)
theorem lw_5_7 : Cond.code yX6_init cX6_init 1 none ∈ LW := LWr_5 _ (List.mem_of_getElem? (i := 7) rfl)
theorem lw_5_8 : Cond.methodLink RX6 3 objectInit ∈ LW := LWr_5 _ (List.mem_of_getElem? (i := 8) rfl)
theorem lw_5_9 : Cond.fieldLink RX6 9 "AwardLine$Reader" "faultPlace" "I" ∈ LW := LWr_5 _ (List.mem_of_getElem? (i := 9) rfl)
theorem lw_5_10 : Cond.fieldLink RX6 15 "AwardLine$Reader" "tape" "[I" ∈ LW := LWr_5 _ (List.mem_of_getElem? (i := 10) rfl)
theorem lw_5_11 : Cond.methodLink RX11 33 yX8_init ∈ LW := LWr_5 _ (List.mem_of_getElem? (i := 11) rfl)
theorem lw_5_12 : Cond.instanceMethod yX8_init ∈ LW := LWr_5 _ (List.mem_of_getElem? (i := 12) rfl)
theorem lw_5_13 : Cond.code yX8_init cX8_init 1 none ∈ LW := LWr_5 _ (List.mem_of_getElem? (i := 13) rfl)
theorem lw_5_14 : Cond.methodLink RX8 3 objectInit ∈ LW := LWr_5 _ (List.mem_of_getElem? (i := 14) rfl)
theorem lw_5_15 : Cond.fieldLink RX8 11 "AwardLine$Terms" "weight" "[I" ∈ LW := LWr_5 _ (List.mem_of_getElem? (i := 15) rfl)
theorem lw_5_16 : Cond.fieldLink RX8 15 "AwardLine$Terms" "knot" "[I" ∈ LW := LWr_5 _ (List.mem_of_getElem? (i := 16) rfl)
theorem lw_5_17 : Cond.fieldLink RX8 18 "AwardLine$Terms" "number" "[I" ∈ LW := LWr_5 _ (List.mem_of_getElem? (i := 17) rfl)
theorem lw_5_18 : Cond.methodLink RX8 21 yX8_clear ∈ LW := LWr_5 _ (List.mem_of_getElem? (i := 18) rfl)
theorem lw_5_19 : Cond.instanceMethod yX8_clear ∈ LW := LWr_5 _ (List.mem_of_getElem? (i := 19) rfl)
theorem lw_5_20 : Cond.selects RX8 yX8_clear yX8_clear ∈ LW := LWr_5 _ (List.mem_of_getElem? (i := 20) rfl)
theorem lw_5_21 : Cond.code yX8_clear cX8_clear 1 none ∈ LW := LWr_5 _ (List.mem_of_getElem? (i := 21) rfl)
theorem lw_5_22 : Cond.fieldLink RX8 24 "AwardLine$Terms" "unit" "I" ∈ LW := LWr_5 _ (List.mem_of_getElem? (i := 22) rfl)
theorem lw_5_23 : Cond.fieldLink RX8 28 "AwardLine$Terms" "fear" "I" ∈ LW := LWr_5 _ (List.mem_of_getElem? (i := 23) rfl)
theorem lw_6_0 : Cond.fieldLink RX8 31 "AwardLine$Terms" "lose" "I" ∈ LW := LWr_6 _ (List.mem_of_getElem? (i := 0) rfl)
theorem lw_6_1 : Cond.fieldLink RX8 34 "AwardLine$Terms" "knots" "I" ∈ LW := LWr_6 _ (List.mem_of_getElem? (i := 1) rfl)
theorem lw_6_2 : Cond.methodLink RX8 37 yJ7_fill_53178 ∈ LW := LWr_6 _ (List.mem_of_getElem? (i := 2) rfl)
theorem lw_6_3 : Cond.instanceMethod yX1_init ∈ LW := LWr_6 _ (List.mem_of_getElem? (i := 3) rfl)
theorem lw_6_4 : Cond.code yX1_init cX1_init 1 none ∈ LW := LWr_6 _ (List.mem_of_getElem? (i := 4) rfl)
theorem lw_6_5 : Cond.methodLink RX1 3 objectInit ∈ LW := LWr_6 _ (List.mem_of_getElem? (i := 5) rfl)
theorem lw_6_6 : Cond.fieldLink RX1 9 "AwardLine$Drafts" "line" "[I" ∈ LW := LWr_6 _ (List.mem_of_getElem? (i := 6) rfl)
theorem lw_6_7 : Cond.fieldLink RX1 15 "AwardLine$Drafts" "day" "[I" ∈ LW := LWr_6 _ (List.mem_of_getElem? (i := 7) rfl)
theorem lw_6_8 : Cond.methodLink RX11 62 yX3_init ∈ LW := LWr_6 _ (List.mem_of_getElem? (i := 8) rfl)
theorem lw_6_9 : Cond.instanceMethod yX3_init ∈ LW := LWr_6 _ (List.mem_of_getElem? (i := 9) rfl)
theorem lw_6_10 : Cond.code yX3_init cX3_init 3 none ∈ LW := LWr_6 _ (List.mem_of_getElem? (i := 10) rfl)
theorem lw_6_11 : Cond.methodLink RX3 3 objectInit ∈ LW := LWr_6 _ (List.mem_of_getElem? (i := 11) rfl)
theorem lw_6_12 : Cond.fieldLink RX3 9 "AwardLine$Judge" "stack" "[J" ∈ LW := LWr_6 _ (List.mem_of_getElem? (i := 12) rfl)
theorem lw_6_13 : Cond.fieldLink RX3 15 "AwardLine$Judge" "land" "LAwardLine$Land;" ∈ LW := LWr_6 _ (List.mem_of_getElem? (i := 13) rfl)
theorem lw_6_14 : Cond.fieldLink RX3 19 "AwardLine$Judge" "census" "LAwardLine$Census;" ∈ LW := LWr_6 _ (List.mem_of_getElem? (i := 14) rfl)
theorem lw_6_15 : Cond.methodLink RX11 71 yX10_init ∈ LW := LWr_6 _ (List.mem_of_getElem? (i := 15) rfl)
theorem lw_6_16 : Cond.instanceMethod yX10_init ∈ LW := LWr_6 _ (List.mem_of_getElem? (i := 16) rfl)
theorem lw_6_17 : Cond.code yX10_init cX10_init 3 none ∈ LW := LWr_6 _ (List.mem_of_getElem? (i := 17) rfl)
theorem lw_6_18 : Cond.methodLink RX10 3 objectInit ∈ LW := LWr_6 _ (List.mem_of_getElem? (i := 18) rfl)
theorem lw_6_19 : Cond.fieldLink RX10 11 "AwardLine$Toll" "restCosts" "[I" ∈ LW := LWr_6 _ (List.mem_of_getElem? (i := 19) rfl)
theorem lw_6_20 : Cond.fieldLink RX10 15 "AwardLine$Toll" "surplus" "[I" ∈ LW := LWr_6 _ (List.mem_of_getElem? (i := 20) rfl)
theorem lw_6_21 : Cond.fieldLink RX10 18 "AwardLine$Toll" "faith" "[I" ∈ LW := LWr_6 _ (List.mem_of_getElem? (i := 21) rfl)
theorem lw_6_22 : Cond.fieldLink RX10 21 "AwardLine$Toll" "company" "[I" ∈ LW := LWr_6 _ (List.mem_of_getElem? (i := 22) rfl)
theorem lw_6_23 : Cond.fieldLink RX10 24 "AwardLine$Toll" "land" "LAwardLine$Land;" ∈ LW := LWr_6 _ (List.mem_of_getElem? (i := 23) rfl)
theorem lw_7_0 : Cond.fieldLink RX10 28 "AwardLine$Toll" "census" "LAwardLine$Census;" ∈ LW := LWr_7 _ (List.mem_of_getElem? (i := 0) rfl)
theorem lw_7_1 : Cond.methodLink RX11 78 yX7_init ∈ LW := LWr_7 _ (List.mem_of_getElem? (i := 1) rfl)
theorem lw_7_2 : Cond.instanceMethod yX7_init ∈ LW := LWr_7 _ (List.mem_of_getElem? (i := 2) rfl)
theorem lw_7_3 : Cond.code yX7_init cX7_init 2 none ∈ LW := LWr_7 _ (List.mem_of_getElem? (i := 3) rfl)
theorem lw_7_4 : Cond.methodLink RX7 3 objectInit ∈ LW := LWr_7 _ (List.mem_of_getElem? (i := 4) rfl)
theorem lw_7_5 : Cond.fieldLink RX7 9 "AwardLine$Rumour" "since" "[I" ∈ LW := LWr_7 _ (List.mem_of_getElem? (i := 5) rfl)
theorem lw_7_6 : Cond.fieldLink RX7 15 "AwardLine$Rumour" "sinceOfAll" "[I" ∈ LW := LWr_7 _ (List.mem_of_getElem? (i := 6) rfl)
theorem lw_7_7 : Cond.fieldLink RX7 18 "AwardLine$Rumour" "notes" "LAwardLine$Notes;" ∈ LW := LWr_7 _ (List.mem_of_getElem? (i := 7) rfl)
theorem lw_7_8 : Cond.methodLink RX11 87 yX2_init ∈ LW := LWr_7 _ (List.mem_of_getElem? (i := 8) rfl)
theorem lw_7_9 : Cond.instanceMethod yX2_init ∈ LW := LWr_7 _ (List.mem_of_getElem? (i := 9) rfl)
theorem lw_7_10 : Cond.code yX2_init cX2_init 3 none ∈ LW := LWr_7 _ (List.mem_of_getElem? (i := 10) rfl)
theorem lw_7_11 : Cond.methodLink RX2 3 objectInit ∈ LW := LWr_7 _ (List.mem_of_getElem? (i := 11) rfl)
theorem lw_7_12 : Cond.fieldLink RX2 9 "AwardLine$Exodus" "candidate" "[I" ∈ LW := LWr_7 _ (List.mem_of_getElem? (i := 12) rfl)
theorem lw_7_13 : Cond.classLink RX2 15 "[[I" ∈ LW := LWr_7 _ (List.mem_of_getElem? (i := 13) rfl)
theorem lw_7_14 : Cond.fieldLink RX2 17 "AwardLine$Exodus" "goal" "[[I" ∈ LW := LWr_7 _ (List.mem_of_getElem? (i := 14) rfl)
theorem lw_7_15 : Cond.fieldLink RX2 20 "AwardLine$Exodus" "astray" "[I" ∈ LW := LWr_7 _ (List.mem_of_getElem? (i := 15) rfl)
theorem lw_7_16 : Cond.fieldLink RX2 23 "AwardLine$Exodus" "settled" "[I" ∈ LW := LWr_7 _ (List.mem_of_getElem? (i := 16) rfl)
theorem lw_7_17 : Cond.fieldLink RX2 26 "AwardLine$Exodus" "arriving" "[I" ∈ LW := LWr_7 _ (List.mem_of_getElem? (i := 17) rfl)
theorem lw_7_18 : Cond.fieldLink RX2 29 "AwardLine$Exodus" "land" "LAwardLine$Land;" ∈ LW := LWr_7 _ (List.mem_of_getElem? (i := 18) rfl)
theorem lw_7_19 : Cond.fieldLink RX2 33 "AwardLine$Exodus" "census" "LAwardLine$Census;" ∈ LW := LWr_7 _ (List.mem_of_getElem? (i := 19) rfl)
theorem lw_7_20 : Cond.methodLink RL 20 yX12_init ∈ LW := LWr_7 _ (List.mem_of_getElem? (i := 20) rfl)
theorem lw_7_21 : Cond.instanceMethod yX12_init ∈ LW := LWr_7 _ (List.mem_of_getElem? (i := 21) rfl)
theorem lw_7_22 : Cond.code yX12_init cX12_init 1 none ∈ LW := LWr_7 _ (List.mem_of_getElem? (i := 22) rfl)
theorem lw_7_23 : Cond.methodLink RX12 1 objectInit ∈ LW := LWr_7 _ (List.mem_of_getElem? (i := 23) rfl)
theorem lw_8_0 : Cond.fieldLink RX12 7 "AwardLineModel" "tape" "[I" ∈ LW := LWr_8 _ (List.mem_of_getElem? (i := 0) rfl)
theorem lw_8_1 : Cond.fieldLink RX12 13 "AwardLineModel" "knotSort" "[I" ∈ LW := LWr_8 _ (List.mem_of_getElem? (i := 1) rfl)
theorem lw_8_2 : Cond.fieldLink RX12 16 "AwardLineModel" "knotValue" "[I" ∈ LW := LWr_8 _ (List.mem_of_getElem? (i := 2) rfl)
theorem lw_8_3 : Cond.fieldLink RX12 19 "AwardLineModel" "rule" "[I" ∈ LW := LWr_8 _ (List.mem_of_getElem? (i := 3) rfl)
theorem lw_8_4 : Cond.fieldLink RX12 22 "AwardLineModel" "lastPlace" "I" ∈ LW := LWr_8 _ (List.mem_of_getElem? (i := 4) rfl)
theorem lw_8_5 : Cond.fieldLink RX12 26 "AwardLineModel" "pile" "[I" ∈ LW := LWr_8 _ (List.mem_of_getElem? (i := 5) rfl)
theorem lw_8_6 : Cond.fieldLink RX12 29 "AwardLineModel" "names" "[J" ∈ LW := LWr_8 _ (List.mem_of_getElem? (i := 6) rfl)
theorem lw_8_7 : Cond.fieldLink RX12 33 "AwardLineModel" "worked" "[J" ∈ LW := LWr_8 _ (List.mem_of_getElem? (i := 7) rfl)
theorem lw_8_8 : Cond.fieldLink RX12 36 "AwardLineModel" "district" "[I" ∈ LW := LWr_8 _ (List.mem_of_getElem? (i := 8) rfl)
theorem lw_8_9 : Cond.fieldLink RX12 39 "AwardLineModel" "shrine" "[I" ∈ LW := LWr_8 _ (List.mem_of_getElem? (i := 9) rfl)
theorem lw_8_10 : Cond.fieldLink RX12 42 "AwardLineModel" "rail" "[Z" ∈ LW := LWr_8 _ (List.mem_of_getElem? (i := 10) rfl)
theorem lw_8_11 : Cond.fieldLink RX12 46 "AwardLineModel" "err" "[I" ∈ LW := LWr_8 _ (List.mem_of_getElem? (i := 11) rfl)
theorem lw_8_12 : Cond.fieldLink RX12 49 "AwardLineModel" "canal" "[I" ∈ LW := LWr_8 _ (List.mem_of_getElem? (i := 12) rfl)
theorem lw_8_13 : Cond.fieldLink RX12 52 "AwardLineModel" "drinkers" "[I" ∈ LW := LWr_8 _ (List.mem_of_getElem? (i := 13) rfl)
theorem lw_8_14 : Cond.fieldLink RX12 55 "AwardLineModel" "draftLine" "[I" ∈ LW := LWr_8 _ (List.mem_of_getElem? (i := 14) rfl)
theorem lw_8_15 : Cond.fieldLink RX12 58 "AwardLineModel" "draftDay" "[I" ∈ LW := LWr_8 _ (List.mem_of_getElem? (i := 15) rfl)
theorem lw_8_16 : Cond.fieldLink RX12 61 "AwardLineModel" "candidate" "[I" ∈ LW := LWr_8 _ (List.mem_of_getElem? (i := 16) rfl)
theorem lw_8_17 : Cond.fieldLink RX12 64 "AwardLineModel" "kind" "[I" ∈ LW := LWr_8 _ (List.mem_of_getElem? (i := 17) rfl)
theorem lw_8_18 : Cond.fieldLink RX12 67 "AwardLineModel" "noteTold" "[I" ∈ LW := LWr_8 _ (List.mem_of_getElem? (i := 18) rfl)
theorem lw_8_19 : Cond.fieldLink RX12 70 "AwardLineModel" "one" "[I" ∈ LW := LWr_8 _ (List.mem_of_getElem? (i := 19) rfl)
theorem lw_8_20 : Cond.fieldLink RX12 73 "AwardLineModel" "two" "[I" ∈ LW := LWr_8 _ (List.mem_of_getElem? (i := 20) rfl)
theorem lw_8_21 : Cond.fieldLink RX12 76 "AwardLineModel" "three" "[I" ∈ LW := LWr_8 _ (List.mem_of_getElem? (i := 21) rfl)
theorem lw_8_22 : Cond.fieldLink RX12 79 "AwardLineModel" "four" "[I" ∈ LW := LWr_8 _ (List.mem_of_getElem? (i := 22) rfl)
theorem lw_8_23 : Cond.fieldLink RX12 82 "AwardLineModel" "isStruck" "[Z" ∈ LW := LWr_8 _ (List.mem_of_getElem? (i := 23) rfl)
theorem lw_9_0 : Cond.fieldLink RX12 85 "AwardLineModel" "counts" "[Z" ∈ LW := LWr_9 _ (List.mem_of_getElem? (i := 0) rfl)
theorem lw_9_1 : Cond.fieldLink RX12 88 "AwardLineModel" "people" "[I" ∈ LW := LWr_9 _ (List.mem_of_getElem? (i := 1) rfl)
theorem lw_9_2 : Cond.fieldLink RX12 91 "AwardLineModel" "lean" "[I" ∈ LW := LWr_9 _ (List.mem_of_getElem? (i := 2) rfl)
theorem lw_9_3 : Cond.fieldLink RX12 94 "AwardLineModel" "from" "[I" ∈ LW := LWr_9 _ (List.mem_of_getElem? (i := 3) rfl)
theorem lw_9_4 : Cond.fieldLink RX12 97 "AwardLineModel" "there" "[I" ∈ LW := LWr_9 _ (List.mem_of_getElem? (i := 4) rfl)
theorem lw_9_5 : Cond.fieldLink RX12 100 "AwardLineModel" "then" "[I" ∈ LW := LWr_9 _ (List.mem_of_getElem? (i := 5) rfl)
theorem lw_9_6 : Cond.fieldLink RX12 103 "AwardLineModel" "steps" "[I" ∈ LW := LWr_9 _ (List.mem_of_getElem? (i := 6) rfl)
theorem lw_9_7 : Cond.methodLink RX12 106 yX12_lays ∈ LW := LWr_9 _ (List.mem_of_getElem? (i := 7) rfl)
theorem lw_9_8 : Cond.instanceMethod yX12_lays ∈ LW := LWr_9 _ (List.mem_of_getElem? (i := 8) rfl)
theorem lw_9_9 : Cond.selects RX12 yX12_lays yX12_lays ∈ LW := LWr_9 _ (List.mem_of_getElem? (i := 9) rfl)
theorem lw_9_10 : Cond.code yX12_lays cX12_lays 4 none ∈ LW := LWr_9 _ (List.mem_of_getElem? (i := 10) rfl)
theorem lw_9_11 : Cond.fieldLink RX12 269 "AwardLineModel" "wide" "I" ∈ LW := LWr_9 _ (List.mem_of_getElem? (i := 11) rfl)
theorem lw_9_12 : Cond.fieldLink RX12 272 "AwardLineModel" "high" "I" ∈ LW := LWr_9 _ (List.mem_of_getElem? (i := 12) rfl)
theorem lw_9_13 : Cond.fieldLink RX12 275 "AwardLineModel" "canals" "I" ∈ LW := LWr_9 _ (List.mem_of_getElem? (i := 13) rfl)
theorem lw_9_14 : Cond.fieldLink RX12 278 "AwardLineModel" "drafts" "I" ∈ LW := LWr_9 _ (List.mem_of_getElem? (i := 14) rfl)
theorem lw_9_15 : Cond.fieldLink RX12 281 "AwardLineModel" "candidates" "I" ∈ LW := LWr_9 _ (List.mem_of_getElem? (i := 15) rfl)
theorem lw_9_16 : Cond.fieldLink RX12 284 "AwardLineModel" "notes" "I" ∈ LW := LWr_9 _ (List.mem_of_getElem? (i := 16) rfl)
theorem lw_9_17 : Cond.methodLink RL 21 yX11_feed ∈ LW := LWr_9 _ (List.mem_of_getElem? (i := 17) rfl)
theorem lw_9_18 : Cond.instanceMethod yX11_feed ∈ LW := LWr_9 _ (List.mem_of_getElem? (i := 18) rfl)
theorem lw_9_19 : Cond.selects RX11 yX11_feed yX11_feed ∈ LW := LWr_9 _ (List.mem_of_getElem? (i := 19) rfl)
theorem lw_9_20 : Cond.code yX11_feed cX11_feed 6 (some .int) ∈ LW := LWr_9 _ (List.mem_of_getElem? (i := 20) rfl)
theorem lw_9_21 : Cond.fieldLink RX11 100 "AwardLine$Reader" "held" "I" ∈ LW := LWr_9 _ (List.mem_of_getElem? (i := 21) rfl)
theorem lw_9_22 : Cond.methodLink RX11 92 yX6_hasRoom ∈ LW := LWr_9 _ (List.mem_of_getElem? (i := 22) rfl)
theorem lw_9_23 : Cond.instanceMethod yX6_hasRoom ∈ LW := LWr_9 _ (List.mem_of_getElem? (i := 23) rfl)
theorem lw_10_0 : Cond.selects RX6 yX6_hasRoom yX6_hasRoom ∈ LW := LWr_10 _ (List.mem_of_getElem? (i := 0) rfl)
theorem lw_10_1 : Cond.code yX6_hasRoom cX6_hasRoom 1 (some .boolean) ∈ LW := LWr_10 _ (List.mem_of_getElem? (i := 1) rfl)
theorem lw_10_2 : Cond.fieldLink RX6 19 "AwardLine$Reader" "held" "I" ∈ LW := LWr_10 _ (List.mem_of_getElem? (i := 2) rfl)
theorem lw_10_3 : Cond.methodLink RX11 96 yX6_store ∈ LW := LWr_10 _ (List.mem_of_getElem? (i := 3) rfl)
theorem lw_10_4 : Cond.instanceMethod yX6_store ∈ LW := LWr_10 _ (List.mem_of_getElem? (i := 4) rfl)
theorem lw_10_5 : Cond.selects RX6 yX6_store yX6_store ∈ LW := LWr_10 _ (List.mem_of_getElem? (i := 5) rfl)
theorem lw_10_6 : Cond.code yX6_store cX6_store 3 none ∈ LW := LWr_10 _ (List.mem_of_getElem? (i := 6) rfl)
theorem lw_10_7 : Cond.methodLink RL 25 yX12_feed ∈ LW := LWr_10 _ (List.mem_of_getElem? (i := 7) rfl)
theorem lw_10_8 : Cond.instanceMethod yX12_feed ∈ LW := LWr_10 _ (List.mem_of_getElem? (i := 8) rfl)
theorem lw_10_9 : Cond.selects RX12 yX12_feed yX12_feed ∈ LW := LWr_10 _ (List.mem_of_getElem? (i := 9) rfl)
theorem lw_10_10 : Cond.code yX12_feed cX12_feed 8 (some .int) ∈ LW := LWr_10 _ (List.mem_of_getElem? (i := 10) rfl)
theorem lw_10_11 : Cond.fieldLink RX12 110 "AwardLineModel" "thrown" "I" ∈ LW := LWr_10 _ (List.mem_of_getElem? (i := 11) rfl)
theorem lw_10_12 : Cond.fieldLink RX12 113 "AwardLineModel" "taped" "I" ∈ LW := LWr_10 _ (List.mem_of_getElem? (i := 12) rfl)
theorem lw_10_13 : Cond.methodLink RL 26 yX11_terms ∈ LW := LWr_10 _ (List.mem_of_getElem? (i := 13) rfl)
theorem lw_10_14 : Cond.instanceMethod yX11_terms ∈ LW := LWr_10 _ (List.mem_of_getElem? (i := 14) rfl)
theorem lw_10_15 : Cond.selects RX11 yX11_terms yX11_terms ∈ LW := LWr_10 _ (List.mem_of_getElem? (i := 15) rfl)
theorem lw_10_16 : Cond.code yX11_terms cX11_terms 4 (some .int) ∈ LW := LWr_10 _ (List.mem_of_getElem? (i := 16) rfl)
theorem lw_10_17 : Cond.methodLink RX11 103 yX6_read ∈ LW := LWr_10 _ (List.mem_of_getElem? (i := 17) rfl)
theorem lw_10_18 : Cond.instanceMethod yX6_read ∈ LW := LWr_10 _ (List.mem_of_getElem? (i := 18) rfl)
theorem lw_10_19 : Cond.selects RX6 yX6_read yX6_read ∈ LW := LWr_10 _ (List.mem_of_getElem? (i := 19) rfl)
theorem lw_10_20 : Cond.code yX6_read cX6_read 4 (some .int) ∈ LW := LWr_10 _ (List.mem_of_getElem? (i := 20) rfl)
theorem lw_10_21 : Cond.fieldLink RX6 22 "AwardLine$Reader" "into" "LAwardLine$Terms;" ∈ LW := LWr_10 _ (List.mem_of_getElem? (i := 21) rfl)
theorem lw_10_22 : Cond.methodLink RX6 31 Lib.Math.min.name ∈ LW := LWr_10 _ (List.mem_of_getElem? (i := 22) rfl)
theorem lw_10_23 : Cond.static Lib.Math.min.name ∈ LW := LWr_10 _ (List.mem_of_getElem? (i := 23) rfl)
theorem lw_11_0 : Cond.initialized "java/lang/Math" ∈ LW := LWr_11 _ (List.mem_of_getElem? (i := 0) rfl)
theorem lw_11_1 : Cond.code Lib.Math.min.name Lib.Math.min.code 2 (some .int) ∈ LW := LWr_11 _ (List.mem_of_getElem? (i := 1) rfl)
theorem lw_11_2 : Cond.fieldLink RX6 37 "AwardLine$Reader" "length" "I" ∈ LW := LWr_11 _ (List.mem_of_getElem? (i := 2) rfl)
theorem lw_11_3 : Cond.fieldLink RX6 40 "AwardLine$Reader" "at" "I" ∈ LW := LWr_11 _ (List.mem_of_getElem? (i := 3) rfl)
theorem lw_11_4 : Cond.fieldLink RX6 43 "AwardLine$Reader" "fault" "I" ∈ LW := LWr_11 _ (List.mem_of_getElem? (i := 4) rfl)
theorem lw_11_5 : Cond.fieldLink RX6 46 "AwardLine$Reader" "knotsRead" "I" ∈ LW := LWr_11 _ (List.mem_of_getElem? (i := 5) rfl)
theorem lw_11_6 : Cond.fieldLink RX6 49 "AwardLine$Reader" "linesTold" "I" ∈ LW := LWr_11 _ (List.mem_of_getElem? (i := 6) rfl)
theorem lw_11_7 : Cond.fieldLink RX6 55 "AwardLine$Reader" "token" "I" ∈ LW := LWr_11 _ (List.mem_of_getElem? (i := 7) rfl)
theorem lw_11_8 : Cond.methodLink RX6 26 yX8_clear ∈ LW := LWr_11 _ (List.mem_of_getElem? (i := 8) rfl)
theorem lw_11_9 : Cond.methodLink RX6 52 yX6_advance ∈ LW := LWr_11 _ (List.mem_of_getElem? (i := 9) rfl)
theorem lw_11_10 : Cond.instanceMethod yX6_advance ∈ LW := LWr_11 _ (List.mem_of_getElem? (i := 10) rfl)
theorem lw_11_11 : Cond.selects RX6 yX6_advance yX6_advance ∈ LW := LWr_11 _ (List.mem_of_getElem? (i := 11) rfl)
theorem lw_11_12 : Cond.code yX6_advance cX6_advance 1 none ∈ LW := LWr_11 _ (List.mem_of_getElem? (i := 12) rfl)
theorem lw_11_13 : Cond.fieldLink RX6 68 "AwardLine$Reader" "place" "I" ∈ LW := LWr_11 _ (List.mem_of_getElem? (i := 13) rfl)
theorem lw_11_14 : Cond.methodLink RX6 139 yX6_isLetter ∈ LW := LWr_11 _ (List.mem_of_getElem? (i := 14) rfl)
theorem lw_11_15 : Cond.static yX6_isLetter ∈ LW := LWr_11 _ (List.mem_of_getElem? (i := 15) rfl)
theorem lw_11_16 : Cond.code yX6_isLetter cX6_isLetter 1 (some .boolean) ∈ LW := LWr_11 _ (List.mem_of_getElem? (i := 16) rfl)
theorem lw_11_17 : Cond.methodLink RX6 142 yX6_readWord ∈ LW := LWr_11 _ (List.mem_of_getElem? (i := 17) rfl)
theorem lw_11_18 : Cond.instanceMethod yX6_readWord ∈ LW := LWr_11 _ (List.mem_of_getElem? (i := 18) rfl)
theorem lw_11_19 : Cond.selects RX6 yX6_readWord yX6_readWord ∈ LW := LWr_11 _ (List.mem_of_getElem? (i := 19) rfl)
theorem lw_11_20 : Cond.code yX6_readWord cX6_readWord 1 none ∈ LW := LWr_11 _ (List.mem_of_getElem? (i := 20) rfl)
theorem lw_11_21 : Cond.methodLink RX6 155 yX6_wordBetween ∈ LW := LWr_11 _ (List.mem_of_getElem? (i := 21) rfl)
theorem lw_11_22 : Cond.instanceMethod yX6_wordBetween ∈ LW := LWr_11 _ (List.mem_of_getElem? (i := 22) rfl)
theorem lw_11_23 : Cond.selects RX6 yX6_wordBetween yX6_wordBetween ∈ LW := LWr_11 _ (List.mem_of_getElem? (i := 23) rfl)
theorem lw_12_0 : Cond.code yX6_wordBetween cX6_wordBetween 8 (some .int) ∈ LW := LWr_12 _ (List.mem_of_getElem? (i := 0) rfl)
theorem lw_12_1 : Cond.methodLink RX6 160 yJ0_length_8abf5 ∈ LW := LWr_12 _ (List.mem_of_getElem? (i := 1) rfl)
theorem lw_12_2 : Cond.instanceMethod yJ0_length_8abf5 ∈ LW := LWr_12 _ (List.mem_of_getElem? (i := 2) rfl)
theorem lw_12_3 : Cond.selects RJ0 yJ0_length_8abf5 yJ0_length_8abf5 ∈ LW := LWr_12 _ (List.mem_of_getElem? (i := 3) rfl)
theorem lw_12_4 : Cond.initialized RJ0 ∈ LW := LWr_12 _ (List.mem_of_getElem? (i := 4) rfl)
theorem lw_12_5 : Cond.code yJ0_length_8abf5 cJ0_length_8abf5 1 (some .int) ∈ LW := LWr_12 _ (List.mem_of_getElem? (i := 5) rfl)
theorem lw_12_6 : Cond.fieldLink RJ0 9 "java/lang/String" "value" "[B" ∈ LW := LWr_12 _ (List.mem_of_getElem? (i := 6) rfl)
theorem lw_12_7 : Cond.methodLink RJ0 335 yJ0_coder_7d493 ∈ LW := LWr_12 _ (List.mem_of_getElem? (i := 7) rfl)
theorem lw_12_8 : Cond.instanceMethod yJ0_coder_7d493 ∈ LW := LWr_12 _ (List.mem_of_getElem? (i := 8) rfl)
theorem lw_12_9 : Cond.selects RJ0 yJ0_coder_7d493 yJ0_coder_7d493 ∈ LW := LWr_12 _ (List.mem_of_getElem? (i := 9) rfl)
theorem lw_12_10 : Cond.code yJ0_coder_7d493 cJ0_coder_7d493 1 (some .byte) ∈ LW := LWr_12 _ (List.mem_of_getElem? (i := 10) rfl)
theorem lw_12_11 : Cond.fieldLink RJ0 38 "java/lang/String" "COMPACT_STRINGS" "Z" ∈ LW := LWr_12 _ (List.mem_of_getElem? (i := 11) rfl)
theorem lw_12_12 : Cond.fieldLink RJ0 15 "java/lang/String" "coder" "B" ∈ LW := LWr_12 _ (List.mem_of_getElem? (i := 12) rfl)
theorem lw_12_13 : Cond.methodLink RX6 165 yJ0_charAt_5068e ∈ LW := LWr_12 _ (List.mem_of_getElem? (i := 13) rfl)
theorem lw_12_14 : Cond.instanceMethod yJ0_charAt_5068e ∈ LW := LWr_12 _ (List.mem_of_getElem? (i := 14) rfl)
theorem lw_12_15 : Cond.selects RJ0 yJ0_charAt_5068e yJ0_charAt_5068e ∈ LW := LWr_12 _ (List.mem_of_getElem? (i := 15) rfl)
theorem lw_12_16 : Cond.code yJ0_charAt_5068e cJ0_charAt_5068e 2 (some .char) ∈ LW := LWr_12 _ (List.mem_of_getElem? (i := 16) rfl)
theorem lw_12_17 : Cond.methodLink RJ0 492 yJ0_isLatin1_aae02 ∈ LW := LWr_12 _ (List.mem_of_getElem? (i := 17) rfl)
theorem lw_12_18 : Cond.instanceMethod yJ0_isLatin1_aae02 ∈ LW := LWr_12 _ (List.mem_of_getElem? (i := 18) rfl)
theorem lw_12_19 : Cond.selects RJ0 yJ0_isLatin1_aae02 yJ0_isLatin1_aae02 ∈ LW := LWr_12 _ (List.mem_of_getElem? (i := 19) rfl)
theorem lw_12_20 : Cond.code yJ0_isLatin1_aae02 cJ0_isLatin1_aae02 1 (some .boolean) ∈ LW := LWr_12 _ (List.mem_of_getElem? (i := 20) rfl)
theorem lw_12_21 : Cond.methodLink RJ0 495 yJ1_charAt_3b067 ∈ LW := LWr_12 _ (List.mem_of_getElem? (i := 21) rfl)
theorem lw_12_22 : Cond.static yJ1_charAt_3b067 ∈ LW := LWr_12 _ (List.mem_of_getElem? (i := 22) rfl)
theorem lw_12_23 : Cond.initialized RJ1 ∈ LW := LWr_12 _ (List.mem_of_getElem? (i := 23) rfl)
theorem lw_13_0 : Cond.code yJ1_charAt_3b067 cJ1_charAt_3b067 2 (some .char) ∈ LW := LWr_13 _ (List.mem_of_getElem? (i := 0) rfl)
theorem lw_13_1 : Cond.methodLink RJ1 9 yJ0_checkIndex_df160 ∈ LW := LWr_13 _ (List.mem_of_getElem? (i := 1) rfl)
theorem lw_13_2 : Cond.static yJ0_checkIndex_df160 ∈ LW := LWr_13 _ (List.mem_of_getElem? (i := 2) rfl)
theorem lw_13_3 : Cond.code yJ0_checkIndex_df160 cJ0_checkIndex_df160 2 none ∈ LW := LWr_13 _ (List.mem_of_getElem? (i := 3) rfl)
theorem lw_13_4 : Cond.fieldLink RJ0 1053 "jdk/internal/util/Preconditions" "SIOOBE_FORMATTER" "Ljava/util/function/BiFunction;" ∈ LW := LWr_13 _ (List.mem_of_getElem? (i := 4) rfl)
theorem lw_13_5 : Cond.methodLink RJ0 1059 yJ3_checkIndex_8e157 ∈ LW := LWr_13 _ (List.mem_of_getElem? (i := 5) rfl)
theorem lw_13_6 : Cond.static yJ3_checkIndex_8e157 ∈ LW := LWr_13 _ (List.mem_of_getElem? (i := 6) rfl)
theorem lw_13_7 : Cond.initialized RJ3 ∈ LW := LWr_13 _ (List.mem_of_getElem? (i := 7) rfl)
theorem lw_13_8 : Cond.code yJ3_checkIndex_8e157 cJ3_checkIndex_8e157 3 (some .int) ∈ LW := LWr_13 _ (List.mem_of_getElem? (i := 8) rfl)
theorem lw_13_9 : Cond.methodLink RJ0 498 yJ2_charAt_3b067 ∈ LW := LWr_13 _ (List.mem_of_getElem? (i := 9) rfl)
theorem lw_13_10 : Cond.static yJ2_charAt_3b067 ∈ LW := LWr_13 _ (List.mem_of_getElem? (i := 10) rfl)
theorem lw_13_11 : Cond.initialized RJ2 ∈ LW := LWr_13 _ (List.mem_of_getElem? (i := 11) rfl)
theorem lw_13_12 : Cond.code yJ2_charAt_3b067 cJ2_charAt_3b067 2 (some .char) ∈ LW := LWr_13 _ (List.mem_of_getElem? (i := 12) rfl)
theorem lw_13_13 : Cond.methodLink RJ2 67 yJ2_checkIndex_2214a ∈ LW := LWr_13 _ (List.mem_of_getElem? (i := 13) rfl)
theorem lw_13_14 : Cond.static yJ2_checkIndex_2214a ∈ LW := LWr_13 _ (List.mem_of_getElem? (i := 14) rfl)
theorem lw_13_15 : Cond.code yJ2_checkIndex_2214a cJ2_checkIndex_2214a 2 none ∈ LW := LWr_13 _ (List.mem_of_getElem? (i := 15) rfl)
theorem lw_13_16 : Cond.methodLink RJ2 48 yJ2_length_9d52b ∈ LW := LWr_13 _ (List.mem_of_getElem? (i := 16) rfl)
theorem lw_13_17 : Cond.static yJ2_length_9d52b ∈ LW := LWr_13 _ (List.mem_of_getElem? (i := 17) rfl)
theorem lw_13_18 : Cond.code yJ2_length_9d52b cJ2_length_9d52b 1 (some .int) ∈ LW := LWr_13 _ (List.mem_of_getElem? (i := 18) rfl)
theorem lw_13_19 : Cond.methodLink RJ2 414 yJ0_checkIndex_df160 ∈ LW := LWr_13 _ (List.mem_of_getElem? (i := 19) rfl)
theorem lw_13_20 : Cond.methodLink RJ2 71 yJ2_getChar_3b067 ∈ LW := LWr_13 _ (List.mem_of_getElem? (i := 20) rfl)
theorem lw_13_21 : Cond.static yJ2_getChar_3b067 ∈ LW := LWr_13 _ (List.mem_of_getElem? (i := 21) rfl)
theorem lw_13_22 : Cond.code yJ2_getChar_3b067 cJ2_getChar_3b067 2 (some .char) ∈ LW := LWr_13 _ (List.mem_of_getElem? (i := 22) rfl)
theorem lw_13_23 : Cond.fieldLink RJ2 44 "java/lang/StringUTF16" "$assertionsDisabled" "Z" ∈ LW := LWr_13 _ (List.mem_of_getElem? (i := 23) rfl)
theorem lw_14_0 : Cond.fieldLink RJ2 59 "java/lang/StringUTF16" "HI_BYTE_SHIFT" "I" ∈ LW := LWr_14 _ (List.mem_of_getElem? (i := 0) rfl)
theorem lw_14_1 : Cond.fieldLink RJ2 63 "java/lang/StringUTF16" "LO_BYTE_SHIFT" "I" ∈ LW := LWr_14 _ (List.mem_of_getElem? (i := 1) rfl)
theorem lw_14_2 : Cond.methodLink RX6 145 yX6_isDigit ∈ LW := LWr_14 _ (List.mem_of_getElem? (i := 2) rfl)
theorem lw_14_3 : Cond.static yX6_isDigit ∈ LW := LWr_14 _ (List.mem_of_getElem? (i := 3) rfl)
theorem lw_14_4 : Cond.code yX6_isDigit cX6_isDigit 1 (some .boolean) ∈ LW := LWr_14 _ (List.mem_of_getElem? (i := 4) rfl)
theorem lw_14_5 : Cond.methodLink RX6 148 yX6_readNumber ∈ LW := LWr_14 _ (List.mem_of_getElem? (i := 5) rfl)
theorem lw_14_6 : Cond.instanceMethod yX6_readNumber ∈ LW := LWr_14 _ (List.mem_of_getElem? (i := 6) rfl)
theorem lw_14_7 : Cond.selects RX6 yX6_readNumber yX6_readNumber ∈ LW := LWr_14 _ (List.mem_of_getElem? (i := 7) rfl)
theorem lw_14_8 : Cond.code yX6_readNumber cX6_readNumber 1 none ∈ LW := LWr_14 _ (List.mem_of_getElem? (i := 8) rfl)
theorem lw_14_9 : Cond.fieldLink RX6 111 "AwardLine$Reader" "number" "I" ∈ LW := LWr_14 _ (List.mem_of_getElem? (i := 9) rfl)
theorem lw_14_10 : Cond.methodLink RX6 151 yX6_readSign ∈ LW := LWr_14 _ (List.mem_of_getElem? (i := 10) rfl)
theorem lw_14_11 : Cond.instanceMethod yX6_readSign ∈ LW := LWr_14 _ (List.mem_of_getElem? (i := 11) rfl)
theorem lw_14_12 : Cond.selects RX6 yX6_readSign yX6_readSign ∈ LW := LWr_14 _ (List.mem_of_getElem? (i := 12) rfl)
theorem lw_14_13 : Cond.code yX6_readSign cX6_readSign 2 none ∈ LW := LWr_14 _ (List.mem_of_getElem? (i := 13) rfl)
theorem lw_14_14 : Cond.methodLink RX6 169 yX6_follows ∈ LW := LWr_14 _ (List.mem_of_getElem? (i := 14) rfl)
theorem lw_14_15 : Cond.instanceMethod yX6_follows ∈ LW := LWr_14 _ (List.mem_of_getElem? (i := 15) rfl)
theorem lw_14_16 : Cond.selects RX6 yX6_follows yX6_follows ∈ LW := LWr_14 _ (List.mem_of_getElem? (i := 16) rfl)
theorem lw_14_17 : Cond.code yX6_follows cX6_follows 2 (some .boolean) ∈ LW := LWr_14 _ (List.mem_of_getElem? (i := 17) rfl)
theorem lw_14_18 : Cond.methodLink RX6 60 yX6_lineOfTerms ∈ LW := LWr_14 _ (List.mem_of_getElem? (i := 18) rfl)
theorem lw_14_19 : Cond.instanceMethod yX6_lineOfTerms ∈ LW := LWr_14 _ (List.mem_of_getElem? (i := 19) rfl)
theorem lw_14_20 : Cond.selects RX6 yX6_lineOfTerms yX6_lineOfTerms ∈ LW := LWr_14 _ (List.mem_of_getElem? (i := 20) rfl)
theorem lw_14_21 : Cond.code yX6_lineOfTerms cX6_lineOfTerms 1 (some .boolean) ∈ LW := LWr_14 _ (List.mem_of_getElem? (i := 21) rfl)
theorem lw_14_22 : Cond.methodLink RX6 74 yX6_once ∈ LW := LWr_14 _ (List.mem_of_getElem? (i := 22) rfl)
theorem lw_14_23 : Cond.instanceMethod yX6_once ∈ LW := LWr_14 _ (List.mem_of_getElem? (i := 23) rfl)
theorem lw_15_0 : Cond.selects RX6 yX6_once yX6_once ∈ LW := LWr_15 _ (List.mem_of_getElem? (i := 0) rfl)
theorem lw_15_1 : Cond.code yX6_once cX6_once 2 (some .boolean) ∈ LW := LWr_15 _ (List.mem_of_getElem? (i := 1) rfl)
theorem lw_15_2 : Cond.methodLink RX6 71 yX6_refuse ∈ LW := LWr_15 _ (List.mem_of_getElem? (i := 2) rfl)
theorem lw_15_3 : Cond.instanceMethod yX6_refuse ∈ LW := LWr_15 _ (List.mem_of_getElem? (i := 3) rfl)
theorem lw_15_4 : Cond.selects RX6 yX6_refuse yX6_refuse ∈ LW := LWr_15 _ (List.mem_of_getElem? (i := 4) rfl)
theorem lw_15_5 : Cond.code yX6_refuse cX6_refuse 2 (some .boolean) ∈ LW := LWr_15 _ (List.mem_of_getElem? (i := 5) rfl)
theorem lw_15_6 : Cond.methodLink RX6 77 yX6_unitLine ∈ LW := LWr_15 _ (List.mem_of_getElem? (i := 6) rfl)
theorem lw_15_7 : Cond.instanceMethod yX6_unitLine ∈ LW := LWr_15 _ (List.mem_of_getElem? (i := 7) rfl)
theorem lw_15_8 : Cond.selects RX6 yX6_unitLine yX6_unitLine ∈ LW := LWr_15 _ (List.mem_of_getElem? (i := 8) rfl)
theorem lw_15_9 : Cond.code yX6_unitLine cX6_unitLine 1 (some .boolean) ∈ LW := LWr_15 _ (List.mem_of_getElem? (i := 9) rfl)
theorem lw_15_10 : Cond.fieldLink RX6 93 "AwardLine$Terms" "unit" "I" ∈ LW := LWr_15 _ (List.mem_of_getElem? (i := 10) rfl)
theorem lw_15_11 : Cond.methodLink RX6 80 yX6_row ∈ LW := LWr_15 _ (List.mem_of_getElem? (i := 11) rfl)
theorem lw_15_12 : Cond.instanceMethod yX6_row ∈ LW := LWr_15 _ (List.mem_of_getElem? (i := 12) rfl)
theorem lw_15_13 : Cond.selects RX6 yX6_row yX6_row ∈ LW := LWr_15 _ (List.mem_of_getElem? (i := 13) rfl)
theorem lw_15_14 : Cond.code yX6_row cX6_row 6 (some .boolean) ∈ LW := LWr_15 _ (List.mem_of_getElem? (i := 14) rfl)
theorem lw_15_15 : Cond.methodLink RX6 114 yX6_negated ∈ LW := LWr_15 _ (List.mem_of_getElem? (i := 15) rfl)
theorem lw_15_16 : Cond.instanceMethod yX6_negated ∈ LW := LWr_15 _ (List.mem_of_getElem? (i := 16) rfl)
theorem lw_15_17 : Cond.selects RX6 yX6_negated yX6_negated ∈ LW := LWr_15 _ (List.mem_of_getElem? (i := 17) rfl)
theorem lw_15_18 : Cond.methodLink RX6 117 yX6_part ∈ LW := LWr_15 _ (List.mem_of_getElem? (i := 18) rfl)
theorem lw_15_19 : Cond.instanceMethod yX6_part ∈ LW := LWr_15 _ (List.mem_of_getElem? (i := 19) rfl)
theorem lw_15_20 : Cond.selects RX6 yX6_part yX6_part ∈ LW := LWr_15 _ (List.mem_of_getElem? (i := 20) rfl)
theorem lw_15_21 : Cond.methodLink RX6 120 yX6_rankOf ∈ LW := LWr_15 _ (List.mem_of_getElem? (i := 21) rfl)
theorem lw_15_22 : Cond.static yX6_rankOf ∈ LW := LWr_15 _ (List.mem_of_getElem? (i := 22) rfl)
theorem lw_15_23 : Cond.code yX6_rankOf cX6_rankOf 1 (some .int) ∈ LW := LWr_15 _ (List.mem_of_getElem? (i := 23) rfl)
theorem lw_16_0 : Cond.methodLink RX6 124 yX6_claimKnot ∈ LW := LWr_16 _ (List.mem_of_getElem? (i := 0) rfl)
theorem lw_16_1 : Cond.instanceMethod yX6_claimKnot ∈ LW := LWr_16 _ (List.mem_of_getElem? (i := 1) rfl)
theorem lw_16_2 : Cond.selects RX6 yX6_claimKnot yX6_claimKnot ∈ LW := LWr_16 _ (List.mem_of_getElem? (i := 2) rfl)
theorem lw_16_3 : Cond.code yX6_claimKnot cX6_claimKnot 1 (some .boolean) ∈ LW := LWr_16 _ (List.mem_of_getElem? (i := 3) rfl)
theorem lw_16_4 : Cond.methodLink RX6 127 yX6_emit ∈ LW := LWr_16 _ (List.mem_of_getElem? (i := 4) rfl)
theorem lw_16_5 : Cond.instanceMethod yX6_emit ∈ LW := LWr_16 _ (List.mem_of_getElem? (i := 5) rfl)
theorem lw_16_6 : Cond.selects RX6 yX6_emit yX6_emit ∈ LW := LWr_16 _ (List.mem_of_getElem? (i := 6) rfl)
theorem lw_16_7 : Cond.code yX6_emit cX6_emit 3 none ∈ LW := LWr_16 _ (List.mem_of_getElem? (i := 7) rfl)
theorem lw_16_8 : Cond.fieldLink RX6 131 "AwardLine$Terms" "knots" "I" ∈ LW := LWr_16 _ (List.mem_of_getElem? (i := 8) rfl)
theorem lw_16_9 : Cond.fieldLink RX6 134 "AwardLine$Terms" "knot" "[I" ∈ LW := LWr_16 _ (List.mem_of_getElem? (i := 9) rfl)
theorem lw_16_10 : Cond.fieldLink RX6 137 "AwardLine$Terms" "number" "[I" ∈ LW := LWr_16 _ (List.mem_of_getElem? (i := 10) rfl)
theorem lw_16_11 : Cond.code yX6_negated cX6_negated 4 (some .boolean) ∈ LW := LWr_16 _ (List.mem_of_getElem? (i := 11) rfl)
theorem lw_16_12 : Cond.code yX6_part cX6_part 5 (some .boolean) ∈ LW := LWr_16 _ (List.mem_of_getElem? (i := 12) rfl)
theorem lw_16_13 : Cond.methodLink RX6 64 yX6_pass ∈ LW := LWr_16 _ (List.mem_of_getElem? (i := 13) rfl)
theorem lw_16_14 : Cond.instanceMethod yX6_pass ∈ LW := LWr_16 _ (List.mem_of_getElem? (i := 14) rfl)
theorem lw_16_15 : Cond.selects RX6 yX6_pass yX6_pass ∈ LW := LWr_16 _ (List.mem_of_getElem? (i := 15) rfl)
theorem lw_16_16 : Cond.code yX6_pass cX6_pass 2 (some .boolean) ∈ LW := LWr_16 _ (List.mem_of_getElem? (i := 16) rfl)
theorem lw_16_17 : Cond.methodLink RX6 84 yX6_fearLine ∈ LW := LWr_16 _ (List.mem_of_getElem? (i := 17) rfl)
theorem lw_16_18 : Cond.instanceMethod yX6_fearLine ∈ LW := LWr_16 _ (List.mem_of_getElem? (i := 18) rfl)
theorem lw_16_19 : Cond.selects RX6 yX6_fearLine yX6_fearLine ∈ LW := LWr_16 _ (List.mem_of_getElem? (i := 19) rfl)
theorem lw_16_20 : Cond.code yX6_fearLine cX6_fearLine 2 (some .boolean) ∈ LW := LWr_16 _ (List.mem_of_getElem? (i := 20) rfl)
theorem lw_16_21 : Cond.fieldLink RX6 99 "AwardLine$Reader" "amountRead" "I" ∈ LW := LWr_16 _ (List.mem_of_getElem? (i := 21) rfl)
theorem lw_16_22 : Cond.fieldLink RX6 102 "AwardLine$Terms" "fear" "I" ∈ LW := LWr_16 _ (List.mem_of_getElem? (i := 22) rfl)
theorem lw_16_23 : Cond.methodLink RX6 96 yX6_amount ∈ LW := LWr_16 _ (List.mem_of_getElem? (i := 23) rfl)
theorem lw_17_0 : Cond.instanceMethod yX6_amount ∈ LW := LWr_17 _ (List.mem_of_getElem? (i := 0) rfl)
theorem lw_17_1 : Cond.selects RX6 yX6_amount yX6_amount ∈ LW := LWr_17 _ (List.mem_of_getElem? (i := 1) rfl)
theorem lw_17_2 : Cond.code yX6_amount cX6_amount 2 (some .boolean) ∈ LW := LWr_17 _ (List.mem_of_getElem? (i := 2) rfl)
theorem lw_17_3 : Cond.methodLink RX6 87 yX6_loseLine ∈ LW := LWr_17 _ (List.mem_of_getElem? (i := 3) rfl)
theorem lw_17_4 : Cond.instanceMethod yX6_loseLine ∈ LW := LWr_17 _ (List.mem_of_getElem? (i := 4) rfl)
theorem lw_17_5 : Cond.selects RX6 yX6_loseLine yX6_loseLine ∈ LW := LWr_17 _ (List.mem_of_getElem? (i := 5) rfl)
theorem lw_17_6 : Cond.code yX6_loseLine cX6_loseLine 2 (some .boolean) ∈ LW := LWr_17 _ (List.mem_of_getElem? (i := 6) rfl)
theorem lw_17_7 : Cond.fieldLink RX6 105 "AwardLine$Terms" "lose" "I" ∈ LW := LWr_17 _ (List.mem_of_getElem? (i := 7) rfl)
theorem lw_17_8 : Cond.methodLink RX6 90 yX6_weighLine ∈ LW := LWr_17 _ (List.mem_of_getElem? (i := 8) rfl)
theorem lw_17_9 : Cond.instanceMethod yX6_weighLine ∈ LW := LWr_17 _ (List.mem_of_getElem? (i := 9) rfl)
theorem lw_17_10 : Cond.selects RX6 yX6_weighLine yX6_weighLine ∈ LW := LWr_17 _ (List.mem_of_getElem? (i := 10) rfl)
theorem lw_17_11 : Cond.code yX6_weighLine cX6_weighLine 3 (some .boolean) ∈ LW := LWr_17 _ (List.mem_of_getElem? (i := 11) rfl)
theorem lw_17_12 : Cond.fieldLink RX6 108 "AwardLine$Terms" "weight" "[I" ∈ LW := LWr_17 _ (List.mem_of_getElem? (i := 12) rfl)
theorem lw_17_13 : Cond.methodLink RL 30 yX12_terms ∈ LW := LWr_17 _ (List.mem_of_getElem? (i := 13) rfl)
theorem lw_17_14 : Cond.instanceMethod yX12_terms ∈ LW := LWr_17 _ (List.mem_of_getElem? (i := 14) rfl)
theorem lw_17_15 : Cond.selects RX12 yX12_terms yX12_terms ∈ LW := LWr_17 _ (List.mem_of_getElem? (i := 15) rfl)
theorem lw_17_16 : Cond.code yX12_terms cX12_terms 3 (some .int) ∈ LW := LWr_17 _ (List.mem_of_getElem? (i := 16) rfl)
theorem lw_17_17 : Cond.fieldLink RX12 119 "AwardLineModel" "size" "I" ∈ LW := LWr_17 _ (List.mem_of_getElem? (i := 17) rfl)
theorem lw_17_18 : Cond.fieldLink RX12 116 "AwardLineModel" "at" "I" ∈ LW := LWr_17 _ (List.mem_of_getElem? (i := 18) rfl)
theorem lw_17_19 : Cond.fieldLink RX12 156 "AwardLineModel" "fault" "I" ∈ LW := LWr_17 _ (List.mem_of_getElem? (i := 19) rfl)
theorem lw_17_20 : Cond.fieldLink RX12 159 "AwardLineModel" "faultPlace" "I" ∈ LW := LWr_17 _ (List.mem_of_getElem? (i := 20) rfl)
theorem lw_17_21 : Cond.fieldLink RX12 191 "AwardLineModel" "counted" "I" ∈ LW := LWr_17 _ (List.mem_of_getElem? (i := 21) rfl)
theorem lw_17_22 : Cond.fieldLink RX12 194 "AwardLineModel" "knotNew" "I" ∈ LW := LWr_17 _ (List.mem_of_getElem? (i := 22) rfl)
theorem lw_17_23 : Cond.fieldLink RX12 188 "AwardLineModel" "lines" "I" ∈ LW := LWr_17 _ (List.mem_of_getElem? (i := 23) rfl)
theorem lw_18_0 : Cond.fieldLink RX12 169 "AwardLineModel" "told" "I" ∈ LW := LWr_18 _ (List.mem_of_getElem? (i := 0) rfl)
theorem lw_18_1 : Cond.fieldLink RX12 129 "AwardLineModel" "sort" "I" ∈ LW := LWr_18 _ (List.mem_of_getElem? (i := 1) rfl)
theorem lw_18_2 : Cond.fieldLink RX12 232 "AwardLineModel" "lastFault" "I" ∈ LW := LWr_18 _ (List.mem_of_getElem? (i := 2) rfl)
theorem lw_18_3 : Cond.fieldLink RX12 235 "AwardLineModel" "knotMany" "I" ∈ LW := LWr_18 _ (List.mem_of_getElem? (i := 3) rfl)
theorem lw_18_4 : Cond.fieldLink RX12 238 "AwardLineModel" "hasFirst" "Z" ∈ LW := LWr_18 _ (List.mem_of_getElem? (i := 4) rfl)
theorem lw_18_5 : Cond.fieldLink RX12 242 "AwardLineModel" "knots" "I" ∈ LW := LWr_18 _ (List.mem_of_getElem? (i := 5) rfl)
theorem lw_18_6 : Cond.methodLink RX12 166 yX12_next ∈ LW := LWr_18 _ (List.mem_of_getElem? (i := 6) rfl)
theorem lw_18_7 : Cond.instanceMethod yX12_next ∈ LW := LWr_18 _ (List.mem_of_getElem? (i := 7) rfl)
theorem lw_18_8 : Cond.selects RX12 yX12_next yX12_next ∈ LW := LWr_18 _ (List.mem_of_getElem? (i := 8) rfl)
theorem lw_18_9 : Cond.code yX12_next cX12_next 2 none ∈ LW := LWr_18 _ (List.mem_of_getElem? (i := 9) rfl)
theorem lw_18_10 : Cond.fieldLink RX12 126 "AwardLineModel" "place" "I" ∈ LW := LWr_18 _ (List.mem_of_getElem? (i := 10) rfl)
theorem lw_18_11 : Cond.fieldLink RX12 139 "AwardLineModel" "value" "I" ∈ LW := LWr_18 _ (List.mem_of_getElem? (i := 11) rfl)
theorem lw_18_12 : Cond.methodLink RX12 122 yX12_here ∈ LW := LWr_18 _ (List.mem_of_getElem? (i := 12) rfl)
theorem lw_18_13 : Cond.instanceMethod yX12_here ∈ LW := LWr_18 _ (List.mem_of_getElem? (i := 13) rfl)
theorem lw_18_14 : Cond.selects RX12 yX12_here yX12_here ∈ LW := LWr_18 _ (List.mem_of_getElem? (i := 14) rfl)
theorem lw_18_15 : Cond.code yX12_here cX12_here 1 (some .int) ∈ LW := LWr_18 _ (List.mem_of_getElem? (i := 15) rfl)
theorem lw_18_16 : Cond.methodLink RX12 132 yX12_isSmall ∈ LW := LWr_18 _ (List.mem_of_getElem? (i := 16) rfl)
theorem lw_18_17 : Cond.static yX12_isSmall ∈ LW := LWr_18 _ (List.mem_of_getElem? (i := 17) rfl)
theorem lw_18_18 : Cond.code yX12_isSmall cX12_isSmall 1 (some .boolean) ∈ LW := LWr_18 _ (List.mem_of_getElem? (i := 18) rfl)
theorem lw_18_19 : Cond.methodLink RX12 136 yX12_word ∈ LW := LWr_18 _ (List.mem_of_getElem? (i := 19) rfl)
theorem lw_18_20 : Cond.instanceMethod yX12_word ∈ LW := LWr_18 _ (List.mem_of_getElem? (i := 20) rfl)
theorem lw_18_21 : Cond.selects RX12 yX12_word yX12_word ∈ LW := LWr_18 _ (List.mem_of_getElem? (i := 21) rfl)
theorem lw_18_22 : Cond.code yX12_word cX12_word 4 (some .int) ∈ LW := LWr_18 _ (List.mem_of_getElem? (i := 22) rfl)
theorem lw_18_23 : Cond.methodLink RX12 147 yJ0_length_8abf5 ∈ LW := LWr_18 _ (List.mem_of_getElem? (i := 23) rfl)
theorem lw_19_0 : Cond.methodLink RX12 152 yJ0_charAt_5068e ∈ LW := LWr_19 _ (List.mem_of_getElem? (i := 0) rfl)
theorem lw_19_1 : Cond.methodLink RX12 142 yX12_isDigit ∈ LW := LWr_19 _ (List.mem_of_getElem? (i := 1) rfl)
theorem lw_19_2 : Cond.static yX12_isDigit ∈ LW := LWr_19 _ (List.mem_of_getElem? (i := 2) rfl)
theorem lw_19_3 : Cond.code yX12_isDigit cX12_isDigit 1 (some .boolean) ∈ LW := LWr_19 _ (List.mem_of_getElem? (i := 3) rfl)
theorem lw_19_4 : Cond.methodLink RX12 229 yX12_line ∈ LW := LWr_19 _ (List.mem_of_getElem? (i := 4) rfl)
theorem lw_19_5 : Cond.instanceMethod yX12_line ∈ LW := LWr_19 _ (List.mem_of_getElem? (i := 5) rfl)
theorem lw_19_6 : Cond.selects RX12 yX12_line yX12_line ∈ LW := LWr_19 _ (List.mem_of_getElem? (i := 6) rfl)
theorem lw_19_7 : Cond.code yX12_line cX12_line 3 none ∈ LW := LWr_19 _ (List.mem_of_getElem? (i := 7) rfl)
theorem lw_19_8 : Cond.methodLink RX12 162 yX12_wrong ∈ LW := LWr_19 _ (List.mem_of_getElem? (i := 8) rfl)
theorem lw_19_9 : Cond.instanceMethod yX12_wrong ∈ LW := LWr_19 _ (List.mem_of_getElem? (i := 9) rfl)
theorem lw_19_10 : Cond.selects RX12 yX12_wrong yX12_wrong ∈ LW := LWr_19 _ (List.mem_of_getElem? (i := 10) rfl)
theorem lw_19_11 : Cond.code yX12_wrong cX12_wrong 2 none ∈ LW := LWr_19 _ (List.mem_of_getElem? (i := 11) rfl)
theorem lw_19_12 : Cond.methodLink RX12 172 yX12_once ∈ LW := LWr_19 _ (List.mem_of_getElem? (i := 12) rfl)
theorem lw_19_13 : Cond.instanceMethod yX12_once ∈ LW := LWr_19 _ (List.mem_of_getElem? (i := 13) rfl)
theorem lw_19_14 : Cond.selects RX12 yX12_once yX12_once ∈ LW := LWr_19 _ (List.mem_of_getElem? (i := 14) rfl)
theorem lw_19_15 : Cond.code yX12_once cX12_once 3 (some .boolean) ∈ LW := LWr_19 _ (List.mem_of_getElem? (i := 15) rfl)
theorem lw_19_16 : Cond.methodLink RX12 176 yX12_number ∈ LW := LWr_19 _ (List.mem_of_getElem? (i := 16) rfl)
theorem lw_19_17 : Cond.instanceMethod yX12_number ∈ LW := LWr_19 _ (List.mem_of_getElem? (i := 17) rfl)
theorem lw_19_18 : Cond.selects RX12 yX12_number yX12_number ∈ LW := LWr_19 _ (List.mem_of_getElem? (i := 18) rfl)
theorem lw_19_19 : Cond.code yX12_number cX12_number 3 none ∈ LW := LWr_19 _ (List.mem_of_getElem? (i := 19) rfl)
theorem lw_19_20 : Cond.methodLink RX12 179 yX12_unit ∈ LW := LWr_19 _ (List.mem_of_getElem? (i := 20) rfl)
theorem lw_19_21 : Cond.instanceMethod yX12_unit ∈ LW := LWr_19 _ (List.mem_of_getElem? (i := 21) rfl)
theorem lw_19_22 : Cond.selects RX12 yX12_unit yX12_unit ∈ LW := LWr_19 _ (List.mem_of_getElem? (i := 22) rfl)
theorem lw_19_23 : Cond.code yX12_unit cX12_unit 1 none ∈ LW := LWr_19 _ (List.mem_of_getElem? (i := 23) rfl)
theorem lw_20_0 : Cond.methodLink RX12 182 yX12_expression ∈ LW := LWr_20 _ (List.mem_of_getElem? (i := 0) rfl)
theorem lw_20_1 : Cond.instanceMethod yX12_expression ∈ LW := LWr_20 _ (List.mem_of_getElem? (i := 1) rfl)
theorem lw_20_2 : Cond.selects RX12 yX12_expression yX12_expression ∈ LW := LWr_20 _ (List.mem_of_getElem? (i := 2) rfl)
theorem lw_20_3 : Cond.code yX12_expression cX12_expression 4 none ∈ LW := LWr_20 _ (List.mem_of_getElem? (i := 3) rfl)
theorem lw_20_4 : Cond.fieldLink RX12 197 "AwardLineModel" "piled" "I" ∈ LW := LWr_20 _ (List.mem_of_getElem? (i := 4) rfl)
theorem lw_20_5 : Cond.fieldLink RX12 207 "AwardLineModel" "open" "I" ∈ LW := LWr_20 _ (List.mem_of_getElem? (i := 5) rfl)
theorem lw_20_6 : Cond.methodLink RX12 210 yX12_operand ∈ LW := LWr_20 _ (List.mem_of_getElem? (i := 6) rfl)
theorem lw_20_7 : Cond.instanceMethod yX12_operand ∈ LW := LWr_20 _ (List.mem_of_getElem? (i := 7) rfl)
theorem lw_20_8 : Cond.selects RX12 yX12_operand yX12_operand ∈ LW := LWr_20 _ (List.mem_of_getElem? (i := 8) rfl)
theorem lw_20_9 : Cond.code yX12_operand cX12_operand 2 (some .boolean) ∈ LW := LWr_20 _ (List.mem_of_getElem? (i := 9) rfl)
theorem lw_20_10 : Cond.methodLink RX12 223 yX12_knot ∈ LW := LWr_20 _ (List.mem_of_getElem? (i := 10) rfl)
theorem lw_20_11 : Cond.instanceMethod yX12_knot ∈ LW := LWr_20 _ (List.mem_of_getElem? (i := 11) rfl)
theorem lw_20_12 : Cond.selects RX12 yX12_knot yX12_knot ∈ LW := LWr_20 _ (List.mem_of_getElem? (i := 12) rfl)
theorem lw_20_13 : Cond.code yX12_knot cX12_knot 1 none ∈ LW := LWr_20 _ (List.mem_of_getElem? (i := 13) rfl)
theorem lw_20_14 : Cond.methodLink RX12 204 yX12_out ∈ LW := LWr_20 _ (List.mem_of_getElem? (i := 14) rfl)
theorem lw_20_15 : Cond.instanceMethod yX12_out ∈ LW := LWr_20 _ (List.mem_of_getElem? (i := 15) rfl)
theorem lw_20_16 : Cond.selects RX12 yX12_out yX12_out ∈ LW := LWr_20 _ (List.mem_of_getElem? (i := 16) rfl)
theorem lw_20_17 : Cond.code yX12_out cX12_out 3 none ∈ LW := LWr_20 _ (List.mem_of_getElem? (i := 17) rfl)
theorem lw_20_18 : Cond.methodLink RX12 185 yX12_isSign ∈ LW := LWr_20 _ (List.mem_of_getElem? (i := 18) rfl)
theorem lw_20_19 : Cond.instanceMethod yX12_isSign ∈ LW := LWr_20 _ (List.mem_of_getElem? (i := 19) rfl)
theorem lw_20_20 : Cond.selects RX12 yX12_isSign yX12_isSign ∈ LW := LWr_20 _ (List.mem_of_getElem? (i := 20) rfl)
theorem lw_20_21 : Cond.code yX12_isSign cX12_isSign 2 (some .boolean) ∈ LW := LWr_20 _ (List.mem_of_getElem? (i := 21) rfl)
theorem lw_20_22 : Cond.methodLink RX12 226 yX12_waits ∈ LW := LWr_20 _ (List.mem_of_getElem? (i := 22) rfl)
theorem lw_20_23 : Cond.instanceMethod yX12_waits ∈ LW := LWr_20 _ (List.mem_of_getElem? (i := 23) rfl)
theorem lw_21_0 : Cond.selects RX12 yX12_waits yX12_waits ∈ LW := LWr_21 _ (List.mem_of_getElem? (i := 0) rfl)
theorem lw_21_1 : Cond.code yX12_waits cX12_waits 2 none ∈ LW := LWr_21 _ (List.mem_of_getElem? (i := 1) rfl)
theorem lw_21_2 : Cond.methodLink RX12 200 yX12_bind ∈ LW := LWr_21 _ (List.mem_of_getElem? (i := 2) rfl)
theorem lw_21_3 : Cond.static yX12_bind ∈ LW := LWr_21 _ (List.mem_of_getElem? (i := 3) rfl)
theorem lw_21_4 : Cond.code yX12_bind cX12_bind 1 (some .int) ∈ LW := LWr_21 _ (List.mem_of_getElem? (i := 4) rfl)
theorem lw_21_5 : Cond.methodLink RX12 214 yX12_between ∈ LW := LWr_21 _ (List.mem_of_getElem? (i := 5) rfl)
theorem lw_21_6 : Cond.instanceMethod yX12_between ∈ LW := LWr_21 _ (List.mem_of_getElem? (i := 6) rfl)
theorem lw_21_7 : Cond.selects RX12 yX12_between yX12_between ∈ LW := LWr_21 _ (List.mem_of_getElem? (i := 7) rfl)
theorem lw_21_8 : Cond.code yX12_between cX12_between 1 (some .int) ∈ LW := LWr_21 _ (List.mem_of_getElem? (i := 8) rfl)
theorem lw_21_9 : Cond.methodLink RX12 217 yX12_sign ∈ LW := LWr_21 _ (List.mem_of_getElem? (i := 9) rfl)
theorem lw_21_10 : Cond.instanceMethod yX12_sign ∈ LW := LWr_21 _ (List.mem_of_getElem? (i := 10) rfl)
theorem lw_21_11 : Cond.selects RX12 yX12_sign yX12_sign ∈ LW := LWr_21 _ (List.mem_of_getElem? (i := 11) rfl)
theorem lw_21_12 : Cond.code yX12_sign cX12_sign 2 none ∈ LW := LWr_21 _ (List.mem_of_getElem? (i := 12) rfl)
theorem lw_21_13 : Cond.methodLink RX12 220 yX12_pour ∈ LW := LWr_21 _ (List.mem_of_getElem? (i := 13) rfl)
theorem lw_21_14 : Cond.instanceMethod yX12_pour ∈ LW := LWr_21 _ (List.mem_of_getElem? (i := 14) rfl)
theorem lw_21_15 : Cond.selects RX12 yX12_pour yX12_pour ∈ LW := LWr_21 _ (List.mem_of_getElem? (i := 15) rfl)
theorem lw_21_16 : Cond.code yX12_pour cX12_pour 2 none ∈ LW := LWr_21 _ (List.mem_of_getElem? (i := 16) rfl)
theorem lw_21_17 : Cond.methodLink RL 31 yX11_fault ∈ LW := LWr_21 _ (List.mem_of_getElem? (i := 17) rfl)
theorem lw_21_18 : Cond.instanceMethod yX11_fault ∈ LW := LWr_21 _ (List.mem_of_getElem? (i := 18) rfl)
theorem lw_21_19 : Cond.selects RX11 yX11_fault yX11_fault ∈ LW := LWr_21 _ (List.mem_of_getElem? (i := 19) rfl)
theorem lw_21_20 : Cond.code yX11_fault cX11_fault 2 (some .int) ∈ LW := LWr_21 _ (List.mem_of_getElem? (i := 20) rfl)
theorem lw_21_21 : Cond.fieldLink RX11 107 "AwardLine$Reader" "fault" "I" ∈ LW := LWr_21 _ (List.mem_of_getElem? (i := 21) rfl)
theorem lw_21_22 : Cond.fieldLink RX11 110 "AwardLine$Reader" "faultPlace" "I" ∈ LW := LWr_21 _ (List.mem_of_getElem? (i := 22) rfl)
theorem lw_21_23 : Cond.methodLink RL 34 yX12_fault ∈ LW := LWr_21 _ (List.mem_of_getElem? (i := 23) rfl)
theorem lw_22_0 : Cond.instanceMethod yX12_fault ∈ LW := LWr_22 _ (List.mem_of_getElem? (i := 0) rfl)
theorem lw_22_1 : Cond.selects RX12 yX12_fault yX12_fault ∈ LW := LWr_22 _ (List.mem_of_getElem? (i := 1) rfl)
theorem lw_22_2 : Cond.code yX12_fault cX12_fault 2 (some .int) ∈ LW := LWr_22 _ (List.mem_of_getElem? (i := 2) rfl)
theorem lw_22_3 : Cond.methodLink RL 35 yX11_land ∈ LW := LWr_22 _ (List.mem_of_getElem? (i := 3) rfl)
theorem lw_22_4 : Cond.instanceMethod yX11_land ∈ LW := LWr_22 _ (List.mem_of_getElem? (i := 4) rfl)
theorem lw_22_5 : Cond.selects RX11 yX11_land yX11_land ∈ LW := LWr_22 _ (List.mem_of_getElem? (i := 5) rfl)
theorem lw_22_6 : Cond.code yX11_land cX11_land 3 (some .boolean) ∈ LW := LWr_22 _ (List.mem_of_getElem? (i := 6) rfl)
theorem lw_22_7 : Cond.fieldLink RX11 117 "AwardLine$Notes" "held" "I" ∈ LW := LWr_22 _ (List.mem_of_getElem? (i := 7) rfl)
theorem lw_22_8 : Cond.fieldLink RX11 118 "AwardLine$Drafts" "held" "I" ∈ LW := LWr_22 _ (List.mem_of_getElem? (i := 8) rfl)
theorem lw_22_9 : Cond.fieldLink RX11 119 "AwardLine$Exodus" "candidates" "I" ∈ LW := LWr_22 _ (List.mem_of_getElem? (i := 9) rfl)
theorem lw_22_10 : Cond.methodLink RX11 113 yX4_lay ∈ LW := LWr_22 _ (List.mem_of_getElem? (i := 10) rfl)
theorem lw_22_11 : Cond.methodLink RL 39 yX12_land ∈ LW := LWr_22 _ (List.mem_of_getElem? (i := 11) rfl)
theorem lw_22_12 : Cond.instanceMethod yX12_land ∈ LW := LWr_22 _ (List.mem_of_getElem? (i := 12) rfl)
theorem lw_22_13 : Cond.selects RX12 yX12_land yX12_land ∈ LW := LWr_22 _ (List.mem_of_getElem? (i := 13) rfl)
theorem lw_22_14 : Cond.code yX12_land cX12_land 3 (some .boolean) ∈ LW := LWr_22 _ (List.mem_of_getElem? (i := 14) rfl)
theorem lw_22_15 : Cond.methodLink RL 40 yX11_days ∈ LW := LWr_22 _ (List.mem_of_getElem? (i := 15) rfl)
theorem lw_22_16 : Cond.instanceMethod yX11_days ∈ LW := LWr_22 _ (List.mem_of_getElem? (i := 16) rfl)
theorem lw_22_17 : Cond.selects RX11 yX11_days yX11_days ∈ LW := LWr_22 _ (List.mem_of_getElem? (i := 17) rfl)
theorem lw_22_18 : Cond.code yX11_days cX11_days 2 (some .int) ∈ LW := LWr_22 _ (List.mem_of_getElem? (i := 18) rfl)
theorem lw_22_19 : Cond.methodLink RL 43 yX12_days ∈ LW := LWr_22 _ (List.mem_of_getElem? (i := 19) rfl)
theorem lw_22_20 : Cond.instanceMethod yX12_days ∈ LW := LWr_22 _ (List.mem_of_getElem? (i := 20) rfl)
theorem lw_22_21 : Cond.selects RX12 yX12_days yX12_days ∈ LW := LWr_22 _ (List.mem_of_getElem? (i := 21) rfl)
theorem lw_22_22 : Cond.code yX12_days cX12_days 2 (some .int) ∈ LW := LWr_22 _ (List.mem_of_getElem? (i := 22) rfl)
theorem lw_22_23 : Cond.fieldLink RX12 290 "AwardLineModel" "today" "I" ∈ LW := LWr_22 _ (List.mem_of_getElem? (i := 23) rfl)
theorem lw_23_0 : Cond.methodLink RL 44 yX11_village ∈ LW := LWr_23 _ (List.mem_of_getElem? (i := 0) rfl)
theorem lw_23_1 : Cond.instanceMethod yX11_village ∈ LW := LWr_23 _ (List.mem_of_getElem? (i := 1) rfl)
theorem lw_23_2 : Cond.selects RX11 yX11_village yX11_village ∈ LW := LWr_23 _ (List.mem_of_getElem? (i := 2) rfl)
theorem lw_23_3 : Cond.code yX11_village cX11_village 5 (some .boolean) ∈ LW := LWr_23 _ (List.mem_of_getElem? (i := 3) rfl)
theorem lw_23_4 : Cond.methodLink RX11 122 yX4_has ∈ LW := LWr_23 _ (List.mem_of_getElem? (i := 4) rfl)
theorem lw_23_5 : Cond.instanceMethod yX4_has ∈ LW := LWr_23 _ (List.mem_of_getElem? (i := 5) rfl)
theorem lw_23_6 : Cond.selects RX4 yX4_has yX4_has ∈ LW := LWr_23 _ (List.mem_of_getElem? (i := 6) rfl)
theorem lw_23_7 : Cond.code yX4_has cX4_has 2 (some .boolean) ∈ LW := LWr_23 _ (List.mem_of_getElem? (i := 7) rfl)
theorem lw_23_8 : Cond.methodLink RX11 126 yX11_isSide ∈ LW := LWr_23 _ (List.mem_of_getElem? (i := 8) rfl)
theorem lw_23_9 : Cond.static yX11_isSide ∈ LW := LWr_23 _ (List.mem_of_getElem? (i := 9) rfl)
theorem lw_23_10 : Cond.code yX11_isSide cX11_isSide 1 (some .boolean) ∈ LW := LWr_23 _ (List.mem_of_getElem? (i := 10) rfl)
theorem lw_23_11 : Cond.methodLink RX11 129 yX4_describe ∈ LW := LWr_23 _ (List.mem_of_getElem? (i := 11) rfl)
theorem lw_23_12 : Cond.instanceMethod yX4_describe ∈ LW := LWr_23 _ (List.mem_of_getElem? (i := 12) rfl)
theorem lw_23_13 : Cond.selects RX4 yX4_describe yX4_describe ∈ LW := LWr_23 _ (List.mem_of_getElem? (i := 13) rfl)
theorem lw_23_14 : Cond.code yX4_describe cX4_describe 7 none ∈ LW := LWr_23 _ (List.mem_of_getElem? (i := 14) rfl)
theorem lw_23_15 : Cond.methodLink RL 48 yX12_village ∈ LW := LWr_23 _ (List.mem_of_getElem? (i := 15) rfl)
theorem lw_23_16 : Cond.instanceMethod yX12_village ∈ LW := LWr_23 _ (List.mem_of_getElem? (i := 16) rfl)
theorem lw_23_17 : Cond.selects RX12 yX12_village yX12_village ∈ LW := LWr_23 _ (List.mem_of_getElem? (i := 17) rfl)
theorem lw_23_18 : Cond.code yX12_village cX12_village 5 (some .boolean) ∈ LW := LWr_23 _ (List.mem_of_getElem? (i := 18) rfl)
theorem lw_23_19 : Cond.methodLink RX12 293 yX12_isVillage ∈ LW := LWr_23 _ (List.mem_of_getElem? (i := 19) rfl)
theorem lw_23_20 : Cond.instanceMethod yX12_isVillage ∈ LW := LWr_23 _ (List.mem_of_getElem? (i := 20) rfl)
theorem lw_23_21 : Cond.selects RX12 yX12_isVillage yX12_isVillage ∈ LW := LWr_23 _ (List.mem_of_getElem? (i := 21) rfl)
theorem lw_23_22 : Cond.code yX12_isVillage cX12_isVillage 2 (some .boolean) ∈ LW := LWr_23 _ (List.mem_of_getElem? (i := 22) rfl)
theorem lw_23_23 : Cond.methodLink RX12 287 yX12_cells ∈ LW := LWr_23 _ (List.mem_of_getElem? (i := 23) rfl)
theorem lw_24_0 : Cond.instanceMethod yX12_cells ∈ LW := LWr_24 _ (List.mem_of_getElem? (i := 0) rfl)
theorem lw_24_1 : Cond.selects RX12 yX12_cells yX12_cells ∈ LW := LWr_24 _ (List.mem_of_getElem? (i := 1) rfl)
theorem lw_24_2 : Cond.code yX12_cells cX12_cells 1 (some .int) ∈ LW := LWr_24 _ (List.mem_of_getElem? (i := 2) rfl)
theorem lw_24_3 : Cond.methodLink RL 49 yX11_errs ∈ LW := LWr_24 _ (List.mem_of_getElem? (i := 3) rfl)
theorem lw_24_4 : Cond.instanceMethod yX11_errs ∈ LW := LWr_24 _ (List.mem_of_getElem? (i := 4) rfl)
theorem lw_24_5 : Cond.selects RX11 yX11_errs yX11_errs ∈ LW := LWr_24 _ (List.mem_of_getElem? (i := 5) rfl)
theorem lw_24_6 : Cond.code yX11_errs cX11_errs 3 (some .boolean) ∈ LW := LWr_24 _ (List.mem_of_getElem? (i := 6) rfl)
theorem lw_24_7 : Cond.fieldLink RX11 136 "AwardLine$Census" "error" "[I" ∈ LW := LWr_24 _ (List.mem_of_getElem? (i := 7) rfl)
theorem lw_24_8 : Cond.methodLink RX11 133 yX11_isHand ∈ LW := LWr_24 _ (List.mem_of_getElem? (i := 8) rfl)
theorem lw_24_9 : Cond.static yX11_isHand ∈ LW := LWr_24 _ (List.mem_of_getElem? (i := 9) rfl)
theorem lw_24_10 : Cond.code yX11_isHand cX11_isHand 1 (some .boolean) ∈ LW := LWr_24 _ (List.mem_of_getElem? (i := 10) rfl)
theorem lw_24_11 : Cond.methodLink RL 52 yX12_errs ∈ LW := LWr_24 _ (List.mem_of_getElem? (i := 11) rfl)
theorem lw_24_12 : Cond.instanceMethod yX12_errs ∈ LW := LWr_24 _ (List.mem_of_getElem? (i := 12) rfl)
theorem lw_24_13 : Cond.selects RX12 yX12_errs yX12_errs ∈ LW := LWr_24 _ (List.mem_of_getElem? (i := 13) rfl)
theorem lw_24_14 : Cond.code yX12_errs cX12_errs 3 (some .boolean) ∈ LW := LWr_24 _ (List.mem_of_getElem? (i := 14) rfl)
theorem lw_24_15 : Cond.methodLink RL 53 yX11_count ∈ LW := LWr_24 _ (List.mem_of_getElem? (i := 15) rfl)
theorem lw_24_16 : Cond.instanceMethod yX11_count ∈ LW := LWr_24 _ (List.mem_of_getElem? (i := 16) rfl)
theorem lw_24_17 : Cond.selects RX11 yX11_count yX11_count ∈ LW := LWr_24 _ (List.mem_of_getElem? (i := 17) rfl)
theorem lw_24_18 : Cond.code yX11_count cX11_count 5 (some .int) ∈ LW := LWr_24 _ (List.mem_of_getElem? (i := 18) rfl)
theorem lw_24_19 : Cond.methodLink RX11 140 yX11_isCount ∈ LW := LWr_24 _ (List.mem_of_getElem? (i := 19) rfl)
theorem lw_24_20 : Cond.static yX11_isCount ∈ LW := LWr_24 _ (List.mem_of_getElem? (i := 20) rfl)
theorem lw_24_21 : Cond.code yX11_isCount cX11_isCount 1 (some .boolean) ∈ LW := LWr_24 _ (List.mem_of_getElem? (i := 21) rfl)
theorem lw_24_22 : Cond.methodLink RX11 143 yX5_add ∈ LW := LWr_24 _ (List.mem_of_getElem? (i := 22) rfl)
theorem lw_24_23 : Cond.instanceMethod yX5_add ∈ LW := LWr_24 _ (List.mem_of_getElem? (i := 23) rfl)
theorem lw_25_0 : Cond.selects RX5 yX5_add yX5_add ∈ LW := LWr_25 _ (List.mem_of_getElem? (i := 0) rfl)
theorem lw_25_1 : Cond.code yX5_add cX5_add 7 (some .int) ∈ LW := LWr_25 _ (List.mem_of_getElem? (i := 1) rfl)
theorem lw_25_2 : Cond.fieldLink RX5 34 "AwardLine$Notes" "held" "I" ∈ LW := LWr_25 _ (List.mem_of_getElem? (i := 2) rfl)
theorem lw_25_3 : Cond.methodLink RL 57 yX12_count ∈ LW := LWr_25 _ (List.mem_of_getElem? (i := 3) rfl)
theorem lw_25_4 : Cond.instanceMethod yX12_count ∈ LW := LWr_25 _ (List.mem_of_getElem? (i := 4) rfl)
theorem lw_25_5 : Cond.selects RX12 yX12_count yX12_count ∈ LW := LWr_25 _ (List.mem_of_getElem? (i := 5) rfl)
theorem lw_25_6 : Cond.code yX12_count cX12_count 5 (some .int) ∈ LW := LWr_25 _ (List.mem_of_getElem? (i := 6) rfl)
theorem lw_25_7 : Cond.methodLink RX12 296 yX12_noted ∈ LW := LWr_25 _ (List.mem_of_getElem? (i := 7) rfl)
theorem lw_25_8 : Cond.instanceMethod yX12_noted ∈ LW := LWr_25 _ (List.mem_of_getElem? (i := 8) rfl)
theorem lw_25_9 : Cond.selects RX12 yX12_noted yX12_noted ∈ LW := LWr_25 _ (List.mem_of_getElem? (i := 9) rfl)
theorem lw_25_10 : Cond.code yX12_noted cX12_noted 6 (some .int) ∈ LW := LWr_25 _ (List.mem_of_getElem? (i := 10) rfl)
theorem lw_25_11 : Cond.methodLink RL 58 yX11_note ∈ LW := LWr_25 _ (List.mem_of_getElem? (i := 11) rfl)
theorem lw_25_12 : Cond.instanceMethod yX11_note ∈ LW := LWr_25 _ (List.mem_of_getElem? (i := 12) rfl)
theorem lw_25_13 : Cond.selects RX11 yX11_note yX11_note ∈ LW := LWr_25 _ (List.mem_of_getElem? (i := 13) rfl)
theorem lw_25_14 : Cond.code yX11_note cX11_note 6 (some .int) ∈ LW := LWr_25 _ (List.mem_of_getElem? (i := 14) rfl)
theorem lw_25_15 : Cond.fieldLink RX11 151 "AwardLine$Drafts" "day" "[I" ∈ LW := LWr_25 _ (List.mem_of_getElem? (i := 15) rfl)
theorem lw_25_16 : Cond.methodLink RX11 147 yX11_isPerson ∈ LW := LWr_25 _ (List.mem_of_getElem? (i := 16) rfl)
theorem lw_25_17 : Cond.static yX11_isPerson ∈ LW := LWr_25 _ (List.mem_of_getElem? (i := 17) rfl)
theorem lw_25_18 : Cond.code yX11_isPerson cX11_isPerson 1 (some .boolean) ∈ LW := LWr_25 _ (List.mem_of_getElem? (i := 18) rfl)
theorem lw_25_19 : Cond.methodLink RX11 150 yX1_has ∈ LW := LWr_25 _ (List.mem_of_getElem? (i := 19) rfl)
theorem lw_25_20 : Cond.instanceMethod yX1_has ∈ LW := LWr_25 _ (List.mem_of_getElem? (i := 20) rfl)
theorem lw_25_21 : Cond.selects RX1 yX1_has yX1_has ∈ LW := LWr_25 _ (List.mem_of_getElem? (i := 21) rfl)
theorem lw_25_22 : Cond.code yX1_has cX1_has 2 (some .boolean) ∈ LW := LWr_25 _ (List.mem_of_getElem? (i := 22) rfl)
theorem lw_25_23 : Cond.fieldLink RX1 18 "AwardLine$Drafts" "held" "I" ∈ LW := LWr_25 _ (List.mem_of_getElem? (i := 23) rfl)
theorem lw_26_0 : Cond.methodLink RL 61 yX12_note ∈ LW := LWr_26 _ (List.mem_of_getElem? (i := 0) rfl)
theorem lw_26_1 : Cond.instanceMethod yX12_note ∈ LW := LWr_26 _ (List.mem_of_getElem? (i := 1) rfl)
theorem lw_26_2 : Cond.selects RX12 yX12_note yX12_note ∈ LW := LWr_26 _ (List.mem_of_getElem? (i := 2) rfl)
theorem lw_26_3 : Cond.code yX12_note cX12_note 5 (some .int) ∈ LW := LWr_26 _ (List.mem_of_getElem? (i := 3) rfl)
theorem lw_26_4 : Cond.methodLink RX12 300 yX12_isPerson ∈ LW := LWr_26 _ (List.mem_of_getElem? (i := 4) rfl)
theorem lw_26_5 : Cond.static yX12_isPerson ∈ LW := LWr_26 _ (List.mem_of_getElem? (i := 5) rfl)
theorem lw_26_6 : Cond.code yX12_isPerson cX12_isPerson 1 (some .boolean) ∈ LW := LWr_26 _ (List.mem_of_getElem? (i := 6) rfl)
theorem lw_26_7 : Cond.methodLink RX12 303 yX12_isDraft ∈ LW := LWr_26 _ (List.mem_of_getElem? (i := 7) rfl)
theorem lw_26_8 : Cond.instanceMethod yX12_isDraft ∈ LW := LWr_26 _ (List.mem_of_getElem? (i := 8) rfl)
theorem lw_26_9 : Cond.selects RX12 yX12_isDraft yX12_isDraft ∈ LW := LWr_26 _ (List.mem_of_getElem? (i := 9) rfl)
theorem lw_26_10 : Cond.code yX12_isDraft cX12_isDraft 2 (some .boolean) ∈ LW := LWr_26 _ (List.mem_of_getElem? (i := 10) rfl)
theorem lw_26_11 : Cond.methodLink RL 62 yX11_strike ∈ LW := LWr_26 _ (List.mem_of_getElem? (i := 11) rfl)
theorem lw_26_12 : Cond.instanceMethod yX11_strike ∈ LW := LWr_26 _ (List.mem_of_getElem? (i := 12) rfl)
theorem lw_26_13 : Cond.selects RX11 yX11_strike yX11_strike ∈ LW := LWr_26 _ (List.mem_of_getElem? (i := 13) rfl)
theorem lw_26_14 : Cond.code yX11_strike cX11_strike 2 (some .int) ∈ LW := LWr_26 _ (List.mem_of_getElem? (i := 14) rfl)
theorem lw_26_15 : Cond.methodLink RX11 154 yX5_has ∈ LW := LWr_26 _ (List.mem_of_getElem? (i := 15) rfl)
theorem lw_26_16 : Cond.instanceMethod yX5_has ∈ LW := LWr_26 _ (List.mem_of_getElem? (i := 16) rfl)
theorem lw_26_17 : Cond.selects RX5 yX5_has yX5_has ∈ LW := LWr_26 _ (List.mem_of_getElem? (i := 17) rfl)
theorem lw_26_18 : Cond.code yX5_has cX5_has 2 (some .boolean) ∈ LW := LWr_26 _ (List.mem_of_getElem? (i := 18) rfl)
theorem lw_26_19 : Cond.methodLink RL 65 yX12_strike ∈ LW := LWr_26 _ (List.mem_of_getElem? (i := 19) rfl)
theorem lw_26_20 : Cond.instanceMethod yX12_strike ∈ LW := LWr_26 _ (List.mem_of_getElem? (i := 20) rfl)
theorem lw_26_21 : Cond.selects RX12 yX12_strike yX12_strike ∈ LW := LWr_26 _ (List.mem_of_getElem? (i := 21) rfl)
theorem lw_26_22 : Cond.code yX12_strike cX12_strike 2 (some .int) ∈ LW := LWr_26 _ (List.mem_of_getElem? (i := 22) rfl)
theorem lw_26_23 : Cond.methodLink RL 66 yX11_span ∈ LW := LWr_26 _ (List.mem_of_getElem? (i := 23) rfl)
theorem lw_27_0 : Cond.instanceMethod yX11_span ∈ LW := LWr_27 _ (List.mem_of_getElem? (i := 0) rfl)
theorem lw_27_1 : Cond.selects RX11 yX11_span yX11_span ∈ LW := LWr_27 _ (List.mem_of_getElem? (i := 1) rfl)
theorem lw_27_2 : Cond.code yX11_span cX11_span 7 (some .int) ∈ LW := LWr_27 _ (List.mem_of_getElem? (i := 2) rfl)
theorem lw_27_3 : Cond.fieldLink RX11 161 "AwardLine$Census" "people" "[[I" ∈ LW := LWr_27 _ (List.mem_of_getElem? (i := 3) rfl)
theorem lw_27_4 : Cond.fieldLink RX11 165 "AwardLine$Census" "least" "[[I" ∈ LW := LWr_27 _ (List.mem_of_getElem? (i := 4) rfl)
theorem lw_27_5 : Cond.fieldLink RX11 168 "AwardLine$Census" "greatest" "[[I" ∈ LW := LWr_27 _ (List.mem_of_getElem? (i := 5) rfl)
theorem lw_27_6 : Cond.methodLink RX11 155 yX11_isDay ∈ LW := LWr_27 _ (List.mem_of_getElem? (i := 6) rfl)
theorem lw_27_7 : Cond.static yX11_isDay ∈ LW := LWr_27 _ (List.mem_of_getElem? (i := 7) rfl)
theorem lw_27_8 : Cond.code yX11_isDay cX11_isDay 1 (some .boolean) ∈ LW := LWr_27 _ (List.mem_of_getElem? (i := 8) rfl)
theorem lw_27_9 : Cond.methodLink RX11 158 yX0_take ∈ LW := LWr_27 _ (List.mem_of_getElem? (i := 9) rfl)
theorem lw_27_10 : Cond.instanceMethod yX0_take ∈ LW := LWr_27 _ (List.mem_of_getElem? (i := 10) rfl)
theorem lw_27_11 : Cond.selects RX0 yX0_take yX0_take ∈ LW := LWr_27 _ (List.mem_of_getElem? (i := 11) rfl)
theorem lw_27_12 : Cond.code yX0_take cX0_take 4 none ∈ LW := LWr_27 _ (List.mem_of_getElem? (i := 12) rfl)
theorem lw_27_13 : Cond.constant RX0 46 (1000000) ∈ LW := LWr_27 _ (List.mem_of_getElem? (i := 13) rfl)
theorem lw_27_14 : Cond.fieldLink RX0 47 "AwardLine$Notes" "held" "I" ∈ LW := LWr_27 _ (List.mem_of_getElem? (i := 14) rfl)
theorem lw_27_15 : Cond.fieldLink RX0 55 "AwardLine$Notes" "object" "[I" ∈ LW := LWr_27 _ (List.mem_of_getElem? (i := 15) rfl)
theorem lw_27_16 : Cond.fieldLink RX0 64 "AwardLine$Notes" "subject" "[I" ∈ LW := LWr_27 _ (List.mem_of_getElem? (i := 16) rfl)
theorem lw_27_17 : Cond.fieldLink RX0 67 "AwardLine$Notes" "third" "[I" ∈ LW := LWr_27 _ (List.mem_of_getElem? (i := 17) rfl)
theorem lw_27_18 : Cond.fieldLink RX0 74 "AwardLine$Notes" "fourth" "[I" ∈ LW := LWr_27 _ (List.mem_of_getElem? (i := 18) rfl)
theorem lw_27_19 : Cond.fieldLink RX0 77 "AwardLine$Land" "size" "I" ∈ LW := LWr_27 _ (List.mem_of_getElem? (i := 19) rfl)
theorem lw_27_20 : Cond.methodLink RX0 34 yX5_sift ∈ LW := LWr_27 _ (List.mem_of_getElem? (i := 20) rfl)
theorem lw_27_21 : Cond.instanceMethod yX5_sift ∈ LW := LWr_27 _ (List.mem_of_getElem? (i := 21) rfl)
theorem lw_27_22 : Cond.selects RX5 yX5_sift yX5_sift ∈ LW := LWr_27 _ (List.mem_of_getElem? (i := 22) rfl)
theorem lw_27_23 : Cond.code yX5_sift cX5_sift 3 none ∈ LW := LWr_27 _ (List.mem_of_getElem? (i := 23) rfl)
theorem lw_28_0 : Cond.methodLink RX5 38 yX5_isKnown ∈ LW := LWr_28 _ (List.mem_of_getElem? (i := 0) rfl)
theorem lw_28_1 : Cond.instanceMethod yX5_isKnown ∈ LW := LWr_28 _ (List.mem_of_getElem? (i := 1) rfl)
theorem lw_28_2 : Cond.selects RX5 yX5_isKnown yX5_isKnown ∈ LW := LWr_28 _ (List.mem_of_getElem? (i := 2) rfl)
theorem lw_28_3 : Cond.code yX5_isKnown cX5_isKnown 3 (some .boolean) ∈ LW := LWr_28 _ (List.mem_of_getElem? (i := 3) rfl)
theorem lw_28_4 : Cond.methodLink RX5 42 yX5_has ∈ LW := LWr_28 _ (List.mem_of_getElem? (i := 4) rfl)
theorem lw_28_5 : Cond.methodLink RX0 40 yJ7_fill_53178 ∈ LW := LWr_28 _ (List.mem_of_getElem? (i := 5) rfl)
theorem lw_28_6 : Cond.methodLink RX0 51 yX5_isKnown ∈ LW := LWr_28 _ (List.mem_of_getElem? (i := 6) rfl)
theorem lw_28_7 : Cond.methodLink RX0 58 yX4_has ∈ LW := LWr_28 _ (List.mem_of_getElem? (i := 7) rfl)
theorem lw_28_8 : Cond.methodLink RX0 70 yX0_narrow ∈ LW := LWr_28 _ (List.mem_of_getElem? (i := 8) rfl)
theorem lw_28_9 : Cond.instanceMethod yX0_narrow ∈ LW := LWr_28 _ (List.mem_of_getElem? (i := 9) rfl)
theorem lw_28_10 : Cond.selects RX0 yX0_narrow yX0_narrow ∈ LW := LWr_28 _ (List.mem_of_getElem? (i := 10) rfl)
theorem lw_28_11 : Cond.code yX0_narrow cX0_narrow 7 none ∈ LW := LWr_28 _ (List.mem_of_getElem? (i := 11) rfl)
theorem lw_28_12 : Cond.methodLink RX0 88 Lib.Math.max.name ∈ LW := LWr_28 _ (List.mem_of_getElem? (i := 12) rfl)
theorem lw_28_13 : Cond.static Lib.Math.max.name ∈ LW := LWr_28 _ (List.mem_of_getElem? (i := 13) rfl)
theorem lw_28_14 : Cond.code Lib.Math.max.name Lib.Math.max.code 2 (some .int) ∈ LW := LWr_28 _ (List.mem_of_getElem? (i := 14) rfl)
theorem lw_28_15 : Cond.methodLink RX0 93 Lib.Math.min.name ∈ LW := LWr_28 _ (List.mem_of_getElem? (i := 15) rfl)
theorem lw_28_16 : Cond.static yX11_shareUp ∈ LW := LWr_28 _ (List.mem_of_getElem? (i := 16) rfl)
theorem lw_28_17 : Cond.code yX11_shareUp cX11_shareUp 2 (some .int) ∈ LW := LWr_28 _ (List.mem_of_getElem? (i := 17) rfl)
theorem lw_28_18 : Cond.methodLink RX0 80 yX0_close ∈ LW := LWr_28 _ (List.mem_of_getElem? (i := 18) rfl)
theorem lw_28_19 : Cond.instanceMethod yX0_close ∈ LW := LWr_28 _ (List.mem_of_getElem? (i := 19) rfl)
theorem lw_28_20 : Cond.selects RX0 yX0_close yX0_close ∈ LW := LWr_28 _ (List.mem_of_getElem? (i := 20) rfl)
theorem lw_28_21 : Cond.code yX0_close cX0_close 5 none ∈ LW := LWr_28 _ (List.mem_of_getElem? (i := 21) rfl)
theorem lw_28_22 : Cond.methodLink RL 69 yX12_span ∈ LW := LWr_28 _ (List.mem_of_getElem? (i := 22) rfl)
theorem lw_28_23 : Cond.instanceMethod yX12_span ∈ LW := LWr_28 _ (List.mem_of_getElem? (i := 23) rfl)
theorem lw_29_0 : Cond.selects RX12 yX12_span yX12_span ∈ LW := LWr_29 _ (List.mem_of_getElem? (i := 0) rfl)
theorem lw_29_1 : Cond.code yX12_span cX12_span 6 (some .int) ∈ LW := LWr_29 _ (List.mem_of_getElem? (i := 1) rfl)
theorem lw_29_2 : Cond.fieldLink RX12 306 "AwardLineModel" "spanLow" "I" ∈ LW := LWr_29 _ (List.mem_of_getElem? (i := 2) rfl)
theorem lw_29_3 : Cond.fieldLink RX12 309 "AwardLineModel" "spanHigh" "I" ∈ LW := LWr_29 _ (List.mem_of_getElem? (i := 3) rfl)
theorem lw_29_4 : Cond.methodLink RX12 325 yX12_isDay ∈ LW := LWr_29 _ (List.mem_of_getElem? (i := 4) rfl)
theorem lw_29_5 : Cond.static yX12_isDay ∈ LW := LWr_29 _ (List.mem_of_getElem? (i := 5) rfl)
theorem lw_29_6 : Cond.code yX12_isDay cX12_isDay 1 (some .boolean) ∈ LW := LWr_29 _ (List.mem_of_getElem? (i := 6) rfl)
theorem lw_29_7 : Cond.methodLink RX12 319 yX12_knowsNotes ∈ LW := LWr_29 _ (List.mem_of_getElem? (i := 7) rfl)
theorem lw_29_8 : Cond.instanceMethod yX12_knowsNotes ∈ LW := LWr_29 _ (List.mem_of_getElem? (i := 8) rfl)
theorem lw_29_9 : Cond.selects RX12 yX12_knowsNotes yX12_knowsNotes ∈ LW := LWr_29 _ (List.mem_of_getElem? (i := 9) rfl)
theorem lw_29_10 : Cond.code yX12_knowsNotes cX12_knowsNotes 3 none ∈ LW := LWr_29 _ (List.mem_of_getElem? (i := 10) rfl)
theorem lw_29_11 : Cond.methodLink RX12 322 yX12_spans ∈ LW := LWr_29 _ (List.mem_of_getElem? (i := 11) rfl)
theorem lw_29_12 : Cond.instanceMethod yX12_spans ∈ LW := LWr_29 _ (List.mem_of_getElem? (i := 12) rfl)
theorem lw_29_13 : Cond.selects RX12 yX12_spans yX12_spans ∈ LW := LWr_29 _ (List.mem_of_getElem? (i := 13) rfl)
theorem lw_29_14 : Cond.code yX12_spans cX12_spans 8 (some .boolean) ∈ LW := LWr_29 _ (List.mem_of_getElem? (i := 14) rfl)
theorem lw_29_15 : Cond.methodLink RX12 312 Lib.Math.max.name ∈ LW := LWr_29 _ (List.mem_of_getElem? (i := 15) rfl)
theorem lw_29_16 : Cond.methodLink RX12 316 Lib.Math.min.name ∈ LW := LWr_29 _ (List.mem_of_getElem? (i := 16) rfl)
theorem lw_29_17 : Cond.methodLink RL 70 yX11_canal ∈ LW := LWr_29 _ (List.mem_of_getElem? (i := 17) rfl)
theorem lw_29_18 : Cond.instanceMethod yX11_canal ∈ LW := LWr_29 _ (List.mem_of_getElem? (i := 18) rfl)
theorem lw_29_19 : Cond.selects RX11 yX11_canal yX11_canal ∈ LW := LWr_29 _ (List.mem_of_getElem? (i := 19) rfl)
theorem lw_29_20 : Cond.code yX11_canal cX11_canal 2 (some .int) ∈ LW := LWr_29 _ (List.mem_of_getElem? (i := 20) rfl)
theorem lw_29_21 : Cond.methodLink RX11 171 yX4_dig ∈ LW := LWr_29 _ (List.mem_of_getElem? (i := 21) rfl)
theorem lw_29_22 : Cond.instanceMethod yX4_dig ∈ LW := LWr_29 _ (List.mem_of_getElem? (i := 22) rfl)
theorem lw_29_23 : Cond.selects RX4 yX4_dig yX4_dig ∈ LW := LWr_29 _ (List.mem_of_getElem? (i := 23) rfl)
theorem lw_30_0 : Cond.code yX4_dig cX4_dig 2 (some .int) ∈ LW := LWr_30 _ (List.mem_of_getElem? (i := 0) rfl)
theorem lw_30_1 : Cond.methodLink RL 73 yX12_canal ∈ LW := LWr_30 _ (List.mem_of_getElem? (i := 1) rfl)
theorem lw_30_2 : Cond.instanceMethod yX12_canal ∈ LW := LWr_30 _ (List.mem_of_getElem? (i := 2) rfl)
theorem lw_30_3 : Cond.selects RX12 yX12_canal yX12_canal ∈ LW := LWr_30 _ (List.mem_of_getElem? (i := 3) rfl)
theorem lw_30_4 : Cond.code yX12_canal cX12_canal 2 (some .int) ∈ LW := LWr_30 _ (List.mem_of_getElem? (i := 4) rfl)
theorem lw_30_5 : Cond.methodLink RL 74 yX11_drinks ∈ LW := LWr_30 _ (List.mem_of_getElem? (i := 5) rfl)
theorem lw_30_6 : Cond.instanceMethod yX11_drinks ∈ LW := LWr_30 _ (List.mem_of_getElem? (i := 6) rfl)
theorem lw_30_7 : Cond.selects RX11 yX11_drinks yX11_drinks ∈ LW := LWr_30 _ (List.mem_of_getElem? (i := 7) rfl)
theorem lw_30_8 : Cond.code yX11_drinks cX11_drinks 3 (some .int) ∈ LW := LWr_30 _ (List.mem_of_getElem? (i := 8) rfl)
theorem lw_30_9 : Cond.fieldLink RX11 175 "AwardLine$Land" "canals" "I" ∈ LW := LWr_30 _ (List.mem_of_getElem? (i := 9) rfl)
theorem lw_30_10 : Cond.methodLink RX11 178 yX4_lead ∈ LW := LWr_30 _ (List.mem_of_getElem? (i := 10) rfl)
theorem lw_30_11 : Cond.instanceMethod yX4_lead ∈ LW := LWr_30 _ (List.mem_of_getElem? (i := 11) rfl)
theorem lw_30_12 : Cond.selects RX4 yX4_lead yX4_lead ∈ LW := LWr_30 _ (List.mem_of_getElem? (i := 12) rfl)
theorem lw_30_13 : Cond.code yX4_lead cX4_lead 4 (some .int) ∈ LW := LWr_30 _ (List.mem_of_getElem? (i := 13) rfl)
theorem lw_30_14 : Cond.methodLink RX4 59 yJ6_bitCount_0f7a4 ∈ LW := LWr_30 _ (List.mem_of_getElem? (i := 14) rfl)
theorem lw_30_15 : Cond.static yJ6_bitCount_0f7a4 ∈ LW := LWr_30 _ (List.mem_of_getElem? (i := 15) rfl)
theorem lw_30_16 : Cond.initialized RJ6 ∈ LW := LWr_30 _ (List.mem_of_getElem? (i := 16) rfl)
theorem lw_30_17 : Cond.code yJ6_bitCount_0f7a4 cJ6_bitCount_0f7a4 1 (some .int) ∈ LW := LWr_30 _ (List.mem_of_getElem? (i := 17) rfl)
theorem lw_30_18 : Cond.constant RJ6 265 (1431655765) ∈ LW := LWr_30 _ (List.mem_of_getElem? (i := 18) rfl)
theorem lw_30_19 : Cond.constant RJ6 266 (858993459) ∈ LW := LWr_30 _ (List.mem_of_getElem? (i := 19) rfl)
theorem lw_30_20 : Cond.constant RJ6 267 (252645135) ∈ LW := LWr_30 _ (List.mem_of_getElem? (i := 20) rfl)
theorem lw_30_21 : Cond.methodLink RL 77 yX12_drinks ∈ LW := LWr_30 _ (List.mem_of_getElem? (i := 21) rfl)
theorem lw_30_22 : Cond.instanceMethod yX12_drinks ∈ LW := LWr_30 _ (List.mem_of_getElem? (i := 22) rfl)
theorem lw_30_23 : Cond.selects RX12 yX12_drinks yX12_drinks ∈ LW := LWr_30 _ (List.mem_of_getElem? (i := 23) rfl)
theorem lw_31_0 : Cond.code yX12_drinks cX12_drinks 4 (some .int) ∈ LW := LWr_31 _ (List.mem_of_getElem? (i := 0) rfl)
theorem lw_31_1 : Cond.methodLink RL 78 yX11_given ∈ LW := LWr_31 _ (List.mem_of_getElem? (i := 1) rfl)
theorem lw_31_2 : Cond.instanceMethod yX11_given ∈ LW := LWr_31 _ (List.mem_of_getElem? (i := 2) rfl)
theorem lw_31_3 : Cond.selects RX11 yX11_given yX11_given ∈ LW := LWr_31 _ (List.mem_of_getElem? (i := 3) rfl)
theorem lw_31_4 : Cond.code yX11_given cX11_given 2 (some .int) ∈ LW := LWr_31 _ (List.mem_of_getElem? (i := 4) rfl)
theorem lw_31_5 : Cond.fieldLink RX11 182 "AwardLine$Terms" "unit" "I" ∈ LW := LWr_31 _ (List.mem_of_getElem? (i := 5) rfl)
theorem lw_31_6 : Cond.methodLink RX11 185 yX3_award ∈ LW := LWr_31 _ (List.mem_of_getElem? (i := 6) rfl)
theorem lw_31_7 : Cond.instanceMethod yX3_award ∈ LW := LWr_31 _ (List.mem_of_getElem? (i := 7) rfl)
theorem lw_31_8 : Cond.selects RX3 yX3_award yX3_award ∈ LW := LWr_31 _ (List.mem_of_getElem? (i := 8) rfl)
theorem lw_31_9 : Cond.code yX3_award cX3_award 7 (some .int) ∈ LW := LWr_31 _ (List.mem_of_getElem? (i := 9) rfl)
theorem lw_31_10 : Cond.fieldLink RX3 25 "AwardLine$Land" "all" "I" ∈ LW := LWr_31 _ (List.mem_of_getElem? (i := 10) rfl)
theorem lw_31_11 : Cond.fieldLink RX3 35 "AwardLine$Land" "size" "I" ∈ LW := LWr_31 _ (List.mem_of_getElem? (i := 11) rfl)
theorem lw_31_12 : Cond.fieldLink RX3 38 "AwardLine$Land" "districts" "[I" ∈ LW := LWr_31 _ (List.mem_of_getElem? (i := 12) rfl)
theorem lw_31_13 : Cond.methodLink RX3 31 yX3_holds ∈ LW := LWr_31 _ (List.mem_of_getElem? (i := 13) rfl)
theorem lw_31_14 : Cond.instanceMethod yX3_holds ∈ LW := LWr_31 _ (List.mem_of_getElem? (i := 14) rfl)
theorem lw_31_15 : Cond.selects RX3 yX3_holds yX3_holds ∈ LW := LWr_31 _ (List.mem_of_getElem? (i := 15) rfl)
theorem lw_31_16 : Cond.code yX3_holds cX3_holds 6 (some .boolean) ∈ LW := LWr_31 _ (List.mem_of_getElem? (i := 16) rfl)
theorem lw_31_17 : Cond.fieldLink RX3 42 "AwardLine$Terms" "knots" "I" ∈ LW := LWr_31 _ (List.mem_of_getElem? (i := 17) rfl)
theorem lw_31_18 : Cond.fieldLink RX3 49 "AwardLine$Judge" "error" "Z" ∈ LW := LWr_31 _ (List.mem_of_getElem? (i := 18) rfl)
theorem lw_31_19 : Cond.fieldLink RX3 53 "AwardLine$Terms" "knot" "[I" ∈ LW := LWr_31 _ (List.mem_of_getElem? (i := 19) rfl)
theorem lw_31_20 : Cond.fieldLink RX3 66 "AwardLine$Terms" "number" "[I" ∈ LW := LWr_31 _ (List.mem_of_getElem? (i := 20) rfl)
theorem lw_31_21 : Cond.methodLink RX3 45 yX3_peopleIn ∈ LW := LWr_31 _ (List.mem_of_getElem? (i := 21) rfl)
theorem lw_31_22 : Cond.instanceMethod yX3_peopleIn ∈ LW := LWr_31 _ (List.mem_of_getElem? (i := 22) rfl)
theorem lw_31_23 : Cond.selects RX3 yX3_peopleIn yX3_peopleIn ∈ LW := LWr_31 _ (List.mem_of_getElem? (i := 23) rfl)
theorem lw_32_0 : Cond.code yX3_peopleIn cX3_peopleIn 6 (some .long) ∈ LW := LWr_32 _ (List.mem_of_getElem? (i := 0) rfl)
theorem lw_32_1 : Cond.fieldLink RX3 76 "AwardLine$Census" "people" "[[I" ∈ LW := LWr_32 _ (List.mem_of_getElem? (i := 1) rfl)
theorem lw_32_2 : Cond.methodLink RX3 58 yX3_truth ∈ LW := LWr_32 _ (List.mem_of_getElem? (i := 2) rfl)
theorem lw_32_3 : Cond.static yX3_truth ∈ LW := LWr_32 _ (List.mem_of_getElem? (i := 3) rfl)
theorem lw_32_4 : Cond.code yX3_truth cX3_truth 1 (some .long) ∈ LW := LWr_32 _ (List.mem_of_getElem? (i := 4) rfl)
theorem lw_32_5 : Cond.methodLink RX3 62 yX3_isOperand ∈ LW := LWr_32 _ (List.mem_of_getElem? (i := 5) rfl)
theorem lw_32_6 : Cond.static yX3_isOperand ∈ LW := LWr_32 _ (List.mem_of_getElem? (i := 6) rfl)
theorem lw_32_7 : Cond.code yX3_isOperand cX3_isOperand 1 (some .boolean) ∈ LW := LWr_32 _ (List.mem_of_getElem? (i := 7) rfl)
theorem lw_32_8 : Cond.methodLink RX3 69 yX3_named ∈ LW := LWr_32 _ (List.mem_of_getElem? (i := 8) rfl)
theorem lw_32_9 : Cond.instanceMethod yX3_named ∈ LW := LWr_32 _ (List.mem_of_getElem? (i := 9) rfl)
theorem lw_32_10 : Cond.selects RX3 yX3_named yX3_named ∈ LW := LWr_32 _ (List.mem_of_getElem? (i := 10) rfl)
theorem lw_32_11 : Cond.code yX3_named cX3_named 3 (some .long) ∈ LW := LWr_32 _ (List.mem_of_getElem? (i := 11) rfl)
theorem lw_32_12 : Cond.fieldLink RX3 82 "AwardLine$Land" "shrines" "[I" ∈ LW := LWr_32 _ (List.mem_of_getElem? (i := 12) rfl)
theorem lw_32_13 : Cond.fieldLink RX3 91 "AwardLine$Land" "rails" "I" ∈ LW := LWr_32 _ (List.mem_of_getElem? (i := 13) rfl)
theorem lw_32_14 : Cond.fieldLink RX3 94 "AwardLine$Land" "heads" "I" ∈ LW := LWr_32 _ (List.mem_of_getElem? (i := 14) rfl)
theorem lw_32_15 : Cond.methodLink RX3 85 yJ6_bitCount_0f7a4 ∈ LW := LWr_32 _ (List.mem_of_getElem? (i := 15) rfl)
theorem lw_32_16 : Cond.methodLink RX3 72 yX3_worked ∈ LW := LWr_32 _ (List.mem_of_getElem? (i := 16) rfl)
theorem lw_32_17 : Cond.instanceMethod yX3_worked ∈ LW := LWr_32 _ (List.mem_of_getElem? (i := 17) rfl)
theorem lw_32_18 : Cond.selects RX3 yX3_worked yX3_worked ∈ LW := LWr_32 _ (List.mem_of_getElem? (i := 18) rfl)
theorem lw_32_19 : Cond.code yX3_worked cX3_worked 6 (some .long) ∈ LW := LWr_32 _ (List.mem_of_getElem? (i := 19) rfl)
theorem lw_32_20 : Cond.methodLink RX3 97 yX3_bounded ∈ LW := LWr_32 _ (List.mem_of_getElem? (i := 20) rfl)
theorem lw_32_21 : Cond.instanceMethod yX3_bounded ∈ LW := LWr_32 _ (List.mem_of_getElem? (i := 21) rfl)
theorem lw_32_22 : Cond.selects RX3 yX3_bounded yX3_bounded ∈ LW := LWr_32 _ (List.mem_of_getElem? (i := 22) rfl)
theorem lw_32_23 : Cond.code yX3_bounded cX3_bounded 3 (some .long) ∈ LW := LWr_32 _ (List.mem_of_getElem? (i := 23) rfl)
theorem lw_33_0 : Cond.constantLong RX3 108 (1000000000000) ∈ LW := LWr_33 _ (List.mem_of_getElem? (i := 0) rfl)
theorem lw_33_1 : Cond.constantLong RX3 110 (-1000000000000) ∈ LW := LWr_33 _ (List.mem_of_getElem? (i := 1) rfl)
theorem lw_33_2 : Cond.methodLink RX3 101 yX3_product ∈ LW := LWr_33 _ (List.mem_of_getElem? (i := 2) rfl)
theorem lw_33_3 : Cond.instanceMethod yX3_product ∈ LW := LWr_33 _ (List.mem_of_getElem? (i := 3) rfl)
theorem lw_33_4 : Cond.selects RX3 yX3_product yX3_product ∈ LW := LWr_33 _ (List.mem_of_getElem? (i := 4) rfl)
theorem lw_33_5 : Cond.code yX3_product cX3_product 5 (some .long) ∈ LW := LWr_33 _ (List.mem_of_getElem? (i := 5) rfl)
theorem lw_33_6 : Cond.methodLink RX3 112 Lib.MathLoose.abs_long.x ∈ LW := LWr_33 _ (List.mem_of_getElem? (i := 6) rfl)
theorem lw_33_7 : Cond.static Lib.MathLoose.abs_long.x ∈ LW := LWr_33 _ (List.mem_of_getElem? (i := 7) rfl)
theorem lw_33_8 : Cond.code Lib.MathLoose.abs_long.x Lib.MathLoose.abs_long.code 2 (some .long) ∈ LW := LWr_33 _ (List.mem_of_getElem? (i := 8) rfl)
theorem lw_33_9 : Cond.methodLink RX3 105 yX3_quotient ∈ LW := LWr_33 _ (List.mem_of_getElem? (i := 9) rfl)
theorem lw_33_10 : Cond.instanceMethod yX3_quotient ∈ LW := LWr_33 _ (List.mem_of_getElem? (i := 10) rfl)
theorem lw_33_11 : Cond.selects RX3 yX3_quotient yX3_quotient ∈ LW := LWr_33 _ (List.mem_of_getElem? (i := 11) rfl)
theorem lw_33_12 : Cond.code yX3_quotient cX3_quotient 5 (some .long) ∈ LW := LWr_33 _ (List.mem_of_getElem? (i := 12) rfl)
theorem lw_33_13 : Cond.methodLink RL 81 yX12_given ∈ LW := LWr_33 _ (List.mem_of_getElem? (i := 13) rfl)
theorem lw_33_14 : Cond.instanceMethod yX12_given ∈ LW := LWr_33 _ (List.mem_of_getElem? (i := 14) rfl)
theorem lw_33_15 : Cond.selects RX12 yX12_given yX12_given ∈ LW := LWr_33 _ (List.mem_of_getElem? (i := 15) rfl)
theorem lw_33_16 : Cond.code yX12_given cX12_given 2 (some .int) ∈ LW := LWr_33 _ (List.mem_of_getElem? (i := 16) rfl)
theorem lw_33_17 : Cond.methodLink RX12 340 yX12_reckons ∈ LW := LWr_33 _ (List.mem_of_getElem? (i := 17) rfl)
theorem lw_33_18 : Cond.instanceMethod yX12_reckons ∈ LW := LWr_33 _ (List.mem_of_getElem? (i := 18) rfl)
theorem lw_33_19 : Cond.selects RX12 yX12_reckons yX12_reckons ∈ LW := LWr_33 _ (List.mem_of_getElem? (i := 19) rfl)
theorem lw_33_20 : Cond.code yX12_reckons cX12_reckons 4 none ∈ LW := LWr_33 _ (List.mem_of_getElem? (i := 20) rfl)
theorem lw_33_21 : Cond.methodLink RX12 343 yX12_givenBy ∈ LW := LWr_33 _ (List.mem_of_getElem? (i := 21) rfl)
theorem lw_33_22 : Cond.instanceMethod yX12_givenBy ∈ LW := LWr_33 _ (List.mem_of_getElem? (i := 22) rfl)
theorem lw_33_23 : Cond.selects RX12 yX12_givenBy yX12_givenBy ∈ LW := LWr_33 _ (List.mem_of_getElem? (i := 23) rfl)
theorem lw_34_0 : Cond.code yX12_givenBy cX12_givenBy 5 (some .int) ∈ LW := LWr_34 _ (List.mem_of_getElem? (i := 0) rfl)
theorem lw_34_1 : Cond.constantLong RX12 332 (-1) ∈ LW := LWr_34 _ (List.mem_of_getElem? (i := 1) rfl)
theorem lw_34_2 : Cond.methodLink RX12 328 yX12_isOfUnit ∈ LW := LWr_34 _ (List.mem_of_getElem? (i := 2) rfl)
theorem lw_34_3 : Cond.instanceMethod yX12_isOfUnit ∈ LW := LWr_34 _ (List.mem_of_getElem? (i := 3) rfl)
theorem lw_34_4 : Cond.selects RX12 yX12_isOfUnit yX12_isOfUnit ∈ LW := LWr_34 _ (List.mem_of_getElem? (i := 4) rfl)
theorem lw_34_5 : Cond.code yX12_isOfUnit cX12_isOfUnit 4 (some .boolean) ∈ LW := LWr_34 _ (List.mem_of_getElem? (i := 5) rfl)
theorem lw_34_6 : Cond.methodLink RX12 252 yX12_is ∈ LW := LWr_34 _ (List.mem_of_getElem? (i := 6) rfl)
theorem lw_34_7 : Cond.static yX12_is ∈ LW := LWr_34 _ (List.mem_of_getElem? (i := 7) rfl)
theorem lw_34_8 : Cond.code yX12_is cX12_is 1 (some .long) ∈ LW := LWr_34 _ (List.mem_of_getElem? (i := 8) rfl)
theorem lw_34_9 : Cond.methodLink RX12 334 yX12_isHead ∈ LW := LWr_34 _ (List.mem_of_getElem? (i := 9) rfl)
theorem lw_34_10 : Cond.instanceMethod yX12_isHead ∈ LW := LWr_34 _ (List.mem_of_getElem? (i := 10) rfl)
theorem lw_34_11 : Cond.selects RX12 yX12_isHead yX12_isHead ∈ LW := LWr_34 _ (List.mem_of_getElem? (i := 11) rfl)
theorem lw_34_12 : Cond.code yX12_isHead cX12_isHead 3 (some .boolean) ∈ LW := LWr_34 _ (List.mem_of_getElem? (i := 12) rfl)
theorem lw_34_13 : Cond.methodLink RX12 337 yX12_isFirst ∈ LW := LWr_34 _ (List.mem_of_getElem? (i := 13) rfl)
theorem lw_34_14 : Cond.instanceMethod yX12_isFirst ∈ LW := LWr_34 _ (List.mem_of_getElem? (i := 14) rfl)
theorem lw_34_15 : Cond.selects RX12 yX12_isFirst yX12_isFirst ∈ LW := LWr_34 _ (List.mem_of_getElem? (i := 15) rfl)
theorem lw_34_16 : Cond.code yX12_isFirst cX12_isFirst 3 (some .boolean) ∈ LW := LWr_34 _ (List.mem_of_getElem? (i := 16) rfl)
theorem lw_34_17 : Cond.fieldLink RX12 245 "AwardLineModel" "workedMany" "I" ∈ LW := LWr_34 _ (List.mem_of_getElem? (i := 17) rfl)
theorem lw_34_18 : Cond.methodLink RX12 266 yX12_does ∈ LW := LWr_34 _ (List.mem_of_getElem? (i := 18) rfl)
theorem lw_34_19 : Cond.instanceMethod yX12_does ∈ LW := LWr_34 _ (List.mem_of_getElem? (i := 19) rfl)
theorem lw_34_20 : Cond.selects RX12 yX12_does yX12_does ∈ LW := LWr_34 _ (List.mem_of_getElem? (i := 20) rfl)
theorem lw_34_21 : Cond.code yX12_does cX12_does 6 (some .boolean) ∈ LW := LWr_34 _ (List.mem_of_getElem? (i := 21) rfl)
theorem lw_34_22 : Cond.methodLink RX12 260 Lib.MathLoose.abs_long.x ∈ LW := LWr_34 _ (List.mem_of_getElem? (i := 22) rfl)
theorem lw_34_23 : Cond.constantLong RX12 248 (1000000000000) ∈ LW := LWr_34 _ (List.mem_of_getElem? (i := 23) rfl)
theorem lw_35_0 : Cond.methodLink RX12 256 yX12_puts ∈ LW := LWr_35 _ (List.mem_of_getElem? (i := 0) rfl)
theorem lw_35_1 : Cond.instanceMethod yX12_puts ∈ LW := LWr_35 _ (List.mem_of_getElem? (i := 1) rfl)
theorem lw_35_2 : Cond.selects RX12 yX12_puts yX12_puts ∈ LW := LWr_35 _ (List.mem_of_getElem? (i := 2) rfl)
theorem lw_35_3 : Cond.code yX12_puts cX12_puts 3 (some .boolean) ∈ LW := LWr_35 _ (List.mem_of_getElem? (i := 3) rfl)
theorem lw_35_4 : Cond.constantLong RX12 250 (-1000000000000) ∈ LW := LWr_35 _ (List.mem_of_getElem? (i := 4) rfl)
theorem lw_35_5 : Cond.methodLink RL 82 yX11_turned ∈ LW := LWr_35 _ (List.mem_of_getElem? (i := 5) rfl)
theorem lw_35_6 : Cond.instanceMethod yX11_turned ∈ LW := LWr_35 _ (List.mem_of_getElem? (i := 6) rfl)
theorem lw_35_7 : Cond.selects RX11 yX11_turned yX11_turned ∈ LW := LWr_35 _ (List.mem_of_getElem? (i := 7) rfl)
theorem lw_35_8 : Cond.code yX11_turned cX11_turned 3 (some .int) ∈ LW := LWr_35 _ (List.mem_of_getElem? (i := 8) rfl)
theorem lw_35_9 : Cond.methodLink RX11 189 yJ6_bitCount_0f7a4 ∈ LW := LWr_35 _ (List.mem_of_getElem? (i := 9) rfl)
theorem lw_35_10 : Cond.methodLink RL 85 yX12_turned ∈ LW := LWr_35 _ (List.mem_of_getElem? (i := 10) rfl)
theorem lw_35_11 : Cond.instanceMethod yX12_turned ∈ LW := LWr_35 _ (List.mem_of_getElem? (i := 11) rfl)
theorem lw_35_12 : Cond.selects RX12 yX12_turned yX12_turned ∈ LW := LWr_35 _ (List.mem_of_getElem? (i := 12) rfl)
theorem lw_35_13 : Cond.code yX12_turned cX12_turned 3 (some .int) ∈ LW := LWr_35 _ (List.mem_of_getElem? (i := 13) rfl)
theorem lw_35_14 : Cond.methodLink RX12 346 yX12_bits ∈ LW := LWr_35 _ (List.mem_of_getElem? (i := 14) rfl)
theorem lw_35_15 : Cond.static yX12_bits ∈ LW := LWr_35 _ (List.mem_of_getElem? (i := 15) rfl)
theorem lw_35_16 : Cond.code yX12_bits cX12_bits 3 (some .int) ∈ LW := LWr_35 _ (List.mem_of_getElem? (i := 16) rfl)
theorem lw_35_17 : Cond.methodLink RL 86 yX11_draft ∈ LW := LWr_35 _ (List.mem_of_getElem? (i := 17) rfl)
theorem lw_35_18 : Cond.instanceMethod yX11_draft ∈ LW := LWr_35 _ (List.mem_of_getElem? (i := 18) rfl)
theorem lw_35_19 : Cond.selects RX11 yX11_draft yX11_draft ∈ LW := LWr_35 _ (List.mem_of_getElem? (i := 19) rfl)
theorem lw_35_20 : Cond.code yX11_draft cX11_draft 2 (some .int) ∈ LW := LWr_35 _ (List.mem_of_getElem? (i := 20) rfl)
theorem lw_35_21 : Cond.methodLink RX11 194 yX4_isLine ∈ LW := LWr_35 _ (List.mem_of_getElem? (i := 21) rfl)
theorem lw_35_22 : Cond.instanceMethod yX4_isLine ∈ LW := LWr_35 _ (List.mem_of_getElem? (i := 22) rfl)
theorem lw_35_23 : Cond.selects RX4 yX4_isLine yX4_isLine ∈ LW := LWr_35 _ (List.mem_of_getElem? (i := 23) rfl)
theorem lw_36_0 : Cond.code yX4_isLine cX4_isLine 2 (some .boolean) ∈ LW := LWr_36 _ (List.mem_of_getElem? (i := 0) rfl)
theorem lw_36_1 : Cond.methodLink RX11 197 yX1_add ∈ LW := LWr_36 _ (List.mem_of_getElem? (i := 1) rfl)
theorem lw_36_2 : Cond.instanceMethod yX1_add ∈ LW := LWr_36 _ (List.mem_of_getElem? (i := 2) rfl)
theorem lw_36_3 : Cond.selects RX1 yX1_add yX1_add ∈ LW := LWr_36 _ (List.mem_of_getElem? (i := 3) rfl)
theorem lw_36_4 : Cond.code yX1_add cX1_add 3 (some .int) ∈ LW := LWr_36 _ (List.mem_of_getElem? (i := 4) rfl)
theorem lw_36_5 : Cond.methodLink RL 89 yX12_draft ∈ LW := LWr_36 _ (List.mem_of_getElem? (i := 5) rfl)
theorem lw_36_6 : Cond.instanceMethod yX12_draft ∈ LW := LWr_36 _ (List.mem_of_getElem? (i := 6) rfl)
theorem lw_36_7 : Cond.selects RX12 yX12_draft yX12_draft ∈ LW := LWr_36 _ (List.mem_of_getElem? (i := 7) rfl)
theorem lw_36_8 : Cond.code yX12_draft cX12_draft 2 (some .int) ∈ LW := LWr_36 _ (List.mem_of_getElem? (i := 8) rfl)
theorem lw_36_9 : Cond.methodLink RX12 349 yX12_isLine ∈ LW := LWr_36 _ (List.mem_of_getElem? (i := 9) rfl)
theorem lw_36_10 : Cond.instanceMethod yX12_isLine ∈ LW := LWr_36 _ (List.mem_of_getElem? (i := 10) rfl)
theorem lw_36_11 : Cond.selects RX12 yX12_isLine yX12_isLine ∈ LW := LWr_36 _ (List.mem_of_getElem? (i := 11) rfl)
theorem lw_36_12 : Cond.code yX12_isLine cX12_isLine 2 (some .boolean) ∈ LW := LWr_36 _ (List.mem_of_getElem? (i := 12) rfl)
theorem lw_36_13 : Cond.methodLink RL 90 yL_look ∈ LW := LWr_36 _ (List.mem_of_getElem? (i := 13) rfl)
theorem lw_36_14 : Cond.static yL_look ∈ LW := LWr_36 _ (List.mem_of_getElem? (i := 14) rfl)
theorem lw_36_15 : Cond.initialized RL ∈ LW := LWr_36 _ (List.mem_of_getElem? (i := 15) rfl)
theorem lw_36_16 : Cond.codeWith yL_look cL_look 5 (some .int) [(0, 10, 13, 13), (0, 10, 17, 15)] ∈ LW := LWr_36 _ (List.mem_of_getElem? (i := 16) rfl)
theorem lw_36_17 : Cond.classLink RL 13 "java/lang/IndexOutOfBoundsException" ∈ LW := LWr_36 _ (List.mem_of_getElem? (i := 17) rfl)
theorem lw_36_18 : Cond.classLink RL 15 "java/util/NoSuchElementException" ∈ LW := LWr_36 _ (List.mem_of_getElem? (i := 18) rfl)
theorem lw_36_19 : Cond.methodLink RL 7 yX11_look ∈ LW := LWr_36 _ (List.mem_of_getElem? (i := 19) rfl)
theorem lw_36_20 : Cond.instanceMethod yX11_look ∈ LW := LWr_36 _ (List.mem_of_getElem? (i := 20) rfl)
theorem lw_36_21 : Cond.selects RX11 yX11_look yX11_look ∈ LW := LWr_36 _ (List.mem_of_getElem? (i := 21) rfl)
theorem lw_36_22 : Cond.code yX11_look cX11_look 3 (some .int) ∈ LW := LWr_36 _ (List.mem_of_getElem? (i := 22) rfl)
theorem lw_36_23 : Cond.classLink RX11 199 "java/lang/IndexOutOfBoundsException" ∈ LW := LWr_36 _ (List.mem_of_getElem? (i := 23) rfl)
theorem lw_37_0 : Cond.initialized "java/lang/IndexOutOfBoundsException" ∈ LW := LWr_37 _ (List.mem_of_getElem? (i := 0) rfl)
theorem lw_37_1 : Cond.classLink RX11 209 "java/util/NoSuchElementException" ∈ LW := LWr_37 _ (List.mem_of_getElem? (i := 1) rfl)
theorem lw_37_2 : Cond.initialized "java/util/NoSuchElementException" ∈ LW := LWr_37 _ (List.mem_of_getElem? (i := 2) rfl)
theorem lw_37_3 : Cond.fieldLink RX11 206 "AwardLine$Drafts" "line" "[I" ∈ LW := LWr_37 _ (List.mem_of_getElem? (i := 3) rfl)
theorem lw_37_4 : Cond.methodLink RL 95 yX12_look ∈ LW := LWr_37 _ (List.mem_of_getElem? (i := 4) rfl)
theorem lw_37_5 : Cond.instanceMethod yX12_look ∈ LW := LWr_37 _ (List.mem_of_getElem? (i := 5) rfl)
theorem lw_37_6 : Cond.selects RX12 yX12_look yX12_look ∈ LW := LWr_37 _ (List.mem_of_getElem? (i := 6) rfl)
theorem lw_37_7 : Cond.code yX12_look cX12_look 3 (some .int) ∈ LW := LWr_37 _ (List.mem_of_getElem? (i := 7) rfl)
theorem lw_37_8 : Cond.methodLink RL 96 yX12_thrown ∈ LW := LWr_37 _ (List.mem_of_getElem? (i := 8) rfl)
theorem lw_37_9 : Cond.instanceMethod yX12_thrown ∈ LW := LWr_37 _ (List.mem_of_getElem? (i := 9) rfl)
theorem lw_37_10 : Cond.selects RX12 yX12_thrown yX12_thrown ∈ LW := LWr_37 _ (List.mem_of_getElem? (i := 10) rfl)
theorem lw_37_11 : Cond.code yX12_thrown cX12_thrown 1 (some .int) ∈ LW := LWr_37 _ (List.mem_of_getElem? (i := 11) rfl)
theorem lw_37_12 : Cond.methodLink RL 100 yX11_does ∈ LW := LWr_37 _ (List.mem_of_getElem? (i := 12) rfl)
theorem lw_37_13 : Cond.instanceMethod yX11_does ∈ LW := LWr_37 _ (List.mem_of_getElem? (i := 13) rfl)
theorem lw_37_14 : Cond.selects RX11 yX11_does yX11_does ∈ LW := LWr_37 _ (List.mem_of_getElem? (i := 14) rfl)
theorem lw_37_15 : Cond.code yX11_does cX11_does 4 (some .int) ∈ LW := LWr_37 _ (List.mem_of_getElem? (i := 15) rfl)
theorem lw_37_16 : Cond.fieldLink RX11 220 "AwardLine$Land" "all" "I" ∈ LW := LWr_37 _ (List.mem_of_getElem? (i := 16) rfl)
theorem lw_37_17 : Cond.methodLink RX11 214 yX10_wrong ∈ LW := LWr_37 _ (List.mem_of_getElem? (i := 17) rfl)
theorem lw_37_18 : Cond.instanceMethod yX10_wrong ∈ LW := LWr_37 _ (List.mem_of_getElem? (i := 18) rfl)
theorem lw_37_19 : Cond.selects RX10 yX10_wrong yX10_wrong ∈ LW := LWr_37 _ (List.mem_of_getElem? (i := 19) rfl)
theorem lw_37_20 : Cond.code yX10_wrong cX10_wrong 4 (some .int) ∈ LW := LWr_37 _ (List.mem_of_getElem? (i := 20) rfl)
theorem lw_37_21 : Cond.fieldLink RX10 32 "AwardLine$Land" "size" "I" ∈ LW := LWr_37 _ (List.mem_of_getElem? (i := 21) rfl)
theorem lw_37_22 : Cond.fieldLink RX10 38 "AwardLine$Census" "people" "[[I" ∈ LW := LWr_37 _ (List.mem_of_getElem? (i := 22) rfl)
theorem lw_37_23 : Cond.methodLink RX11 217 yX4_pieces ∈ LW := LWr_37 _ (List.mem_of_getElem? (i := 23) rfl)
theorem lw_38_0 : Cond.instanceMethod yX4_pieces ∈ LW := LWr_38 _ (List.mem_of_getElem? (i := 0) rfl)
theorem lw_38_1 : Cond.selects RX4 yX4_pieces yX4_pieces ∈ LW := LWr_38 _ (List.mem_of_getElem? (i := 1) rfl)
theorem lw_38_2 : Cond.code yX4_pieces cX4_pieces 5 (some .int) ∈ LW := LWr_38 _ (List.mem_of_getElem? (i := 2) rfl)
theorem lw_38_3 : Cond.methodLink RX4 68 yX4_firstPiece ∈ LW := LWr_38 _ (List.mem_of_getElem? (i := 3) rfl)
theorem lw_38_4 : Cond.instanceMethod yX4_firstPiece ∈ LW := LWr_38 _ (List.mem_of_getElem? (i := 4) rfl)
theorem lw_38_5 : Cond.selects RX4 yX4_firstPiece yX4_firstPiece ∈ LW := LWr_38 _ (List.mem_of_getElem? (i := 5) rfl)
theorem lw_38_6 : Cond.code yX4_firstPiece cX4_firstPiece 5 (some .int) ∈ LW := LWr_38 _ (List.mem_of_getElem? (i := 6) rfl)
theorem lw_38_7 : Cond.methodLink RX4 65 yX4_beside ∈ LW := LWr_38 _ (List.mem_of_getElem? (i := 7) rfl)
theorem lw_38_8 : Cond.instanceMethod yX4_beside ∈ LW := LWr_38 _ (List.mem_of_getElem? (i := 8) rfl)
theorem lw_38_9 : Cond.selects RX4 yX4_beside yX4_beside ∈ LW := LWr_38 _ (List.mem_of_getElem? (i := 9) rfl)
theorem lw_38_10 : Cond.code yX4_beside cX4_beside 5 (some .int) ∈ LW := LWr_38 _ (List.mem_of_getElem? (i := 10) rfl)
theorem lw_38_11 : Cond.methodLink RX11 223 yX4_cut ∈ LW := LWr_38 _ (List.mem_of_getElem? (i := 11) rfl)
theorem lw_38_12 : Cond.instanceMethod yX4_cut ∈ LW := LWr_38 _ (List.mem_of_getElem? (i := 12) rfl)
theorem lw_38_13 : Cond.selects RX4 yX4_cut yX4_cut ∈ LW := LWr_38 _ (List.mem_of_getElem? (i := 13) rfl)
theorem lw_38_14 : Cond.code yX4_cut cX4_cut 2 (some .int) ∈ LW := LWr_38 _ (List.mem_of_getElem? (i := 14) rfl)
theorem lw_38_15 : Cond.methodLink RX4 71 yX4_pipes ∈ LW := LWr_38 _ (List.mem_of_getElem? (i := 15) rfl)
theorem lw_38_16 : Cond.instanceMethod yX4_pipes ∈ LW := LWr_38 _ (List.mem_of_getElem? (i := 16) rfl)
theorem lw_38_17 : Cond.selects RX4 yX4_pipes yX4_pipes ∈ LW := LWr_38 _ (List.mem_of_getElem? (i := 17) rfl)
theorem lw_38_18 : Cond.code yX4_pipes cX4_pipes 6 (some .int) ∈ LW := LWr_38 _ (List.mem_of_getElem? (i := 18) rfl)
theorem lw_38_19 : Cond.methodLink RX11 226 yX4_severed ∈ LW := LWr_38 _ (List.mem_of_getElem? (i := 19) rfl)
theorem lw_38_20 : Cond.instanceMethod yX4_severed ∈ LW := LWr_38 _ (List.mem_of_getElem? (i := 20) rfl)
theorem lw_38_21 : Cond.selects RX4 yX4_severed yX4_severed ∈ LW := LWr_38 _ (List.mem_of_getElem? (i := 21) rfl)
theorem lw_38_22 : Cond.code yX4_severed cX4_severed 4 (some .int) ∈ LW := LWr_38 _ (List.mem_of_getElem? (i := 22) rfl)
theorem lw_38_23 : Cond.methodLink RX4 75 yX4_tracks ∈ LW := LWr_38 _ (List.mem_of_getElem? (i := 23) rfl)
theorem lw_39_0 : Cond.instanceMethod yX4_tracks ∈ LW := LWr_39 _ (List.mem_of_getElem? (i := 0) rfl)
theorem lw_39_1 : Cond.selects RX4 yX4_tracks yX4_tracks ∈ LW := LWr_39 _ (List.mem_of_getElem? (i := 1) rfl)
theorem lw_39_2 : Cond.code yX4_tracks cX4_tracks 3 (some .int) ∈ LW := LWr_39 _ (List.mem_of_getElem? (i := 2) rfl)
theorem lw_39_3 : Cond.methodLink RX11 229 yX4_desecrated ∈ LW := LWr_39 _ (List.mem_of_getElem? (i := 3) rfl)
theorem lw_39_4 : Cond.instanceMethod yX4_desecrated ∈ LW := LWr_39 _ (List.mem_of_getElem? (i := 4) rfl)
theorem lw_39_5 : Cond.selects RX4 yX4_desecrated yX4_desecrated ∈ LW := LWr_39 _ (List.mem_of_getElem? (i := 5) rfl)
theorem lw_39_6 : Cond.code yX4_desecrated cX4_desecrated 2 (some .int) ∈ LW := LWr_39 _ (List.mem_of_getElem? (i := 6) rfl)
theorem lw_39_7 : Cond.methodLink RX11 232 yX10_harm ∈ LW := LWr_39 _ (List.mem_of_getElem? (i := 7) rfl)
theorem lw_39_8 : Cond.instanceMethod yX10_harm ∈ LW := LWr_39 _ (List.mem_of_getElem? (i := 8) rfl)
theorem lw_39_9 : Cond.selects RX10 yX10_harm yX10_harm ∈ LW := LWr_39 _ (List.mem_of_getElem? (i := 9) rfl)
theorem lw_39_10 : Cond.code yX10_harm cX10_harm 3 (some .int) ∈ LW := LWr_39 _ (List.mem_of_getElem? (i := 10) rfl)
theorem lw_39_11 : Cond.fieldLink RX10 52 "AwardLine$Toll" "ofShrine" "I" ∈ LW := LWr_39 _ (List.mem_of_getElem? (i := 11) rfl)
theorem lw_39_12 : Cond.fieldLink RX10 58 "AwardLine$Toll" "ofRail" "I" ∈ LW := LWr_39 _ (List.mem_of_getElem? (i := 12) rfl)
theorem lw_39_13 : Cond.fieldLink RX10 64 "AwardLine$Toll" "ofWater" "I" ∈ LW := LWr_39 _ (List.mem_of_getElem? (i := 13) rfl)
theorem lw_39_14 : Cond.methodLink RX10 44 yX10_heed ∈ LW := LWr_39 _ (List.mem_of_getElem? (i := 14) rfl)
theorem lw_39_15 : Cond.instanceMethod yX10_heed ∈ LW := LWr_39 _ (List.mem_of_getElem? (i := 15) rfl)
theorem lw_39_16 : Cond.selects RX10 yX10_heed yX10_heed ∈ LW := LWr_39 _ (List.mem_of_getElem? (i := 16) rfl)
theorem lw_39_17 : Cond.code yX10_heed cX10_heed 2 none ∈ LW := LWr_39 _ (List.mem_of_getElem? (i := 17) rfl)
theorem lw_39_18 : Cond.fieldLink RX10 70 "AwardLine$Terms" "weight" "[I" ∈ LW := LWr_39 _ (List.mem_of_getElem? (i := 18) rfl)
theorem lw_39_19 : Cond.methodLink RX10 48 yX10_wrong ∈ LW := LWr_39 _ (List.mem_of_getElem? (i := 19) rfl)
theorem lw_39_20 : Cond.methodLink RX10 55 yX4_desecrated ∈ LW := LWr_39 _ (List.mem_of_getElem? (i := 20) rfl)
theorem lw_39_21 : Cond.methodLink RX10 61 yX4_severed ∈ LW := LWr_39 _ (List.mem_of_getElem? (i := 21) rfl)
theorem lw_39_22 : Cond.methodLink RX10 67 yX4_cut ∈ LW := LWr_39 _ (List.mem_of_getElem? (i := 22) rfl)
theorem lw_39_23 : Cond.methodLink RL 104 yX12_does_ ∈ LW := LWr_39 _ (List.mem_of_getElem? (i := 23) rfl)
theorem lw_40_0 : Cond.instanceMethod yX12_does_ ∈ LW := LWr_40 _ (List.mem_of_getElem? (i := 0) rfl)
theorem lw_40_1 : Cond.selects RX12 yX12_does_ yX12_does_ ∈ LW := LWr_40 _ (List.mem_of_getElem? (i := 1) rfl)
theorem lw_40_2 : Cond.code yX12_does_ cX12_does_ 4 (some .int) ∈ LW := LWr_40 _ (List.mem_of_getElem? (i := 2) rfl)
theorem lw_40_3 : Cond.methodLink RX12 360 yX12_wrongOnes ∈ LW := LWr_40 _ (List.mem_of_getElem? (i := 3) rfl)
theorem lw_40_4 : Cond.instanceMethod yX12_wrongOnes ∈ LW := LWr_40 _ (List.mem_of_getElem? (i := 4) rfl)
theorem lw_40_5 : Cond.selects RX12 yX12_wrongOnes yX12_wrongOnes ∈ LW := LWr_40 _ (List.mem_of_getElem? (i := 5) rfl)
theorem lw_40_6 : Cond.code yX12_wrongOnes cX12_wrongOnes 4 (some .int) ∈ LW := LWr_40 _ (List.mem_of_getElem? (i := 6) rfl)
theorem lw_40_7 : Cond.methodLink RX12 354 yX12_sideOf ∈ LW := LWr_40 _ (List.mem_of_getElem? (i := 7) rfl)
theorem lw_40_8 : Cond.static yX12_sideOf ∈ LW := LWr_40 _ (List.mem_of_getElem? (i := 8) rfl)
theorem lw_40_9 : Cond.code yX12_sideOf cX12_sideOf 2 (some .int) ∈ LW := LWr_40 _ (List.mem_of_getElem? (i := 9) rfl)
theorem lw_40_10 : Cond.methodLink RX12 372 yX12_pieces ∈ LW := LWr_40 _ (List.mem_of_getElem? (i := 10) rfl)
theorem lw_40_11 : Cond.instanceMethod yX12_pieces ∈ LW := LWr_40 _ (List.mem_of_getElem? (i := 11) rfl)
theorem lw_40_12 : Cond.selects RX12 yX12_pieces yX12_pieces ∈ LW := LWr_40 _ (List.mem_of_getElem? (i := 12) rfl)
theorem lw_40_13 : Cond.code yX12_pieces cX12_pieces 6 (some .int) ∈ LW := LWr_40 _ (List.mem_of_getElem? (i := 13) rfl)
theorem lw_40_14 : Cond.methodLink RX12 357 yX12_around ∈ LW := LWr_40 _ (List.mem_of_getElem? (i := 14) rfl)
theorem lw_40_15 : Cond.instanceMethod yX12_around ∈ LW := LWr_40 _ (List.mem_of_getElem? (i := 15) rfl)
theorem lw_40_16 : Cond.selects RX12 yX12_around yX12_around ∈ LW := LWr_40 _ (List.mem_of_getElem? (i := 16) rfl)
theorem lw_40_17 : Cond.code yX12_around cX12_around 4 (some .int) ∈ LW := LWr_40 _ (List.mem_of_getElem? (i := 17) rfl)
theorem lw_40_18 : Cond.methodLink RX12 375 yX12_all ∈ LW := LWr_40 _ (List.mem_of_getElem? (i := 18) rfl)
theorem lw_40_19 : Cond.instanceMethod yX12_all ∈ LW := LWr_40 _ (List.mem_of_getElem? (i := 19) rfl)
theorem lw_40_20 : Cond.selects RX12 yX12_all yX12_all ∈ LW := LWr_40 _ (List.mem_of_getElem? (i := 20) rfl)
theorem lw_40_21 : Cond.code yX12_all cX12_all 1 (some .int) ∈ LW := LWr_40 _ (List.mem_of_getElem? (i := 21) rfl)
theorem lw_40_22 : Cond.methodLink RX12 369 yX12_cutOf ∈ LW := LWr_40 _ (List.mem_of_getElem? (i := 22) rfl)
theorem lw_40_23 : Cond.instanceMethod yX12_cutOf ∈ LW := LWr_40 _ (List.mem_of_getElem? (i := 23) rfl)
theorem lw_41_0 : Cond.selects RX12 yX12_cutOf yX12_cutOf ∈ LW := LWr_41 _ (List.mem_of_getElem? (i := 0) rfl)
theorem lw_41_1 : Cond.code yX12_cutOf cX12_cutOf 5 (some .int) ∈ LW := LWr_41 _ (List.mem_of_getElem? (i := 1) rfl)
theorem lw_41_2 : Cond.methodLink RX12 366 yX12_severed ∈ LW := LWr_41 _ (List.mem_of_getElem? (i := 2) rfl)
theorem lw_41_3 : Cond.instanceMethod yX12_severed ∈ LW := LWr_41 _ (List.mem_of_getElem? (i := 3) rfl)
theorem lw_41_4 : Cond.selects RX12 yX12_severed yX12_severed ∈ LW := LWr_41 _ (List.mem_of_getElem? (i := 4) rfl)
theorem lw_41_5 : Cond.code yX12_severed cX12_severed 4 (some .int) ∈ LW := LWr_41 _ (List.mem_of_getElem? (i := 5) rfl)
theorem lw_41_6 : Cond.methodLink RX12 363 yX12_desecrated ∈ LW := LWr_41 _ (List.mem_of_getElem? (i := 6) rfl)
theorem lw_41_7 : Cond.instanceMethod yX12_desecrated ∈ LW := LWr_41 _ (List.mem_of_getElem? (i := 7) rfl)
theorem lw_41_8 : Cond.selects RX12 yX12_desecrated yX12_desecrated ∈ LW := LWr_41 _ (List.mem_of_getElem? (i := 8) rfl)
theorem lw_41_9 : Cond.code yX12_desecrated cX12_desecrated 4 (some .int) ∈ LW := LWr_41 _ (List.mem_of_getElem? (i := 9) rfl)
theorem lw_41_10 : Cond.methodLink RX12 378 yX12_harm ∈ LW := LWr_41 _ (List.mem_of_getElem? (i := 10) rfl)
theorem lw_41_11 : Cond.instanceMethod yX12_harm ∈ LW := LWr_41 _ (List.mem_of_getElem? (i := 11) rfl)
theorem lw_41_12 : Cond.selects RX12 yX12_harm yX12_harm ∈ LW := LWr_41 _ (List.mem_of_getElem? (i := 12) rfl)
theorem lw_41_13 : Cond.code yX12_harm cX12_harm 2 (some .int) ∈ LW := LWr_41 _ (List.mem_of_getElem? (i := 13) rfl)
theorem lw_41_14 : Cond.methodLink RL 105 yX11_best ∈ LW := LWr_41 _ (List.mem_of_getElem? (i := 14) rfl)
theorem lw_41_15 : Cond.instanceMethod yX11_best ∈ LW := LWr_41 _ (List.mem_of_getElem? (i := 15) rfl)
theorem lw_41_16 : Cond.selects RX11 yX11_best yX11_best ∈ LW := LWr_41 _ (List.mem_of_getElem? (i := 16) rfl)
theorem lw_41_17 : Cond.code yX11_best cX11_best 3 (some .int) ∈ LW := LWr_41 _ (List.mem_of_getElem? (i := 17) rfl)
theorem lw_41_18 : Cond.fieldLink RX11 235 "AwardLine$Land" "size" "I" ∈ LW := LWr_41 _ (List.mem_of_getElem? (i := 18) rfl)
theorem lw_41_19 : Cond.fieldLink RX11 242 "AwardLine$Toll" "bestLine" "I" ∈ LW := LWr_41 _ (List.mem_of_getElem? (i := 19) rfl)
theorem lw_41_20 : Cond.fieldLink RX11 245 "AwardLine$Toll" "bestHarm" "I" ∈ LW := LWr_41 _ (List.mem_of_getElem? (i := 20) rfl)
theorem lw_41_21 : Cond.methodLink RX11 238 yX10_search ∈ LW := LWr_41 _ (List.mem_of_getElem? (i := 21) rfl)
theorem lw_41_22 : Cond.instanceMethod yX10_search ∈ LW := LWr_41 _ (List.mem_of_getElem? (i := 22) rfl)
theorem lw_41_23 : Cond.selects RX10 yX10_search yX10_search ∈ LW := LWr_41 _ (List.mem_of_getElem? (i := 23) rfl)
theorem lw_42_0 : Cond.code yX10_search cX10_search 3 none ∈ LW := LWr_42 _ (List.mem_of_getElem? (i := 0) rfl)
theorem lw_42_1 : Cond.methodLink RX10 79 Lib.Math.min.name ∈ LW := LWr_42 _ (List.mem_of_getElem? (i := 1) rfl)
theorem lw_42_2 : Cond.fieldLink RX10 84 "AwardLine$Toll" "bestLine" "I" ∈ LW := LWr_42 _ (List.mem_of_getElem? (i := 2) rfl)
theorem lw_42_3 : Cond.constant RX10 87 (1000000000) ∈ LW := LWr_42 _ (List.mem_of_getElem? (i := 3) rfl)
theorem lw_42_4 : Cond.fieldLink RX10 88 "AwardLine$Toll" "bestHarm" "I" ∈ LW := LWr_42 _ (List.mem_of_getElem? (i := 4) rfl)
theorem lw_42_5 : Cond.methodLink RX10 75 yX10_ownCost ∈ LW := LWr_42 _ (List.mem_of_getElem? (i := 5) rfl)
theorem lw_42_6 : Cond.instanceMethod yX10_ownCost ∈ LW := LWr_42 _ (List.mem_of_getElem? (i := 6) rfl)
theorem lw_42_7 : Cond.selects RX10 yX10_ownCost yX10_ownCost ∈ LW := LWr_42 _ (List.mem_of_getElem? (i := 7) rfl)
theorem lw_42_8 : Cond.code yX10_ownCost cX10_ownCost 4 (some .int) ∈ LW := LWr_42 _ (List.mem_of_getElem? (i := 8) rfl)
theorem lw_42_9 : Cond.fieldLink RX10 95 "AwardLine$Land" "shrines" "[I" ∈ LW := LWr_42 _ (List.mem_of_getElem? (i := 9) rfl)
theorem lw_42_10 : Cond.methodLink RX10 91 yX10_choose ∈ LW := LWr_42 _ (List.mem_of_getElem? (i := 10) rfl)
theorem lw_42_11 : Cond.instanceMethod yX10_choose ∈ LW := LWr_42 _ (List.mem_of_getElem? (i := 11) rfl)
theorem lw_42_12 : Cond.selects RX10 yX10_choose yX10_choose ∈ LW := LWr_42 _ (List.mem_of_getElem? (i := 12) rfl)
theorem lw_42_13 : Cond.code yX10_choose cX10_choose 11 none ∈ LW := LWr_42 _ (List.mem_of_getElem? (i := 13) rfl)
theorem lw_42_14 : Cond.fieldLink RX10 98 "AwardLine$Land" "all" "I" ∈ LW := LWr_42 _ (List.mem_of_getElem? (i := 14) rfl)
theorem lw_42_15 : Cond.methodLink RX10 101 yX4_tracks ∈ LW := LWr_42 _ (List.mem_of_getElem? (i := 15) rfl)
theorem lw_42_16 : Cond.methodLink RX10 104 yX4_pipes ∈ LW := LWr_42 _ (List.mem_of_getElem? (i := 16) rfl)
theorem lw_42_17 : Cond.methodLink RX10 107 yX4_parted ∈ LW := LWr_42 _ (List.mem_of_getElem? (i := 17) rfl)
theorem lw_42_18 : Cond.instanceMethod yX4_parted ∈ LW := LWr_42 _ (List.mem_of_getElem? (i := 18) rfl)
theorem lw_42_19 : Cond.selects RX4 yX4_parted yX4_parted ∈ LW := LWr_42 _ (List.mem_of_getElem? (i := 19) rfl)
theorem lw_42_20 : Cond.code yX4_parted cX4_parted 6 (some .boolean) ∈ LW := LWr_42 _ (List.mem_of_getElem? (i := 20) rfl)
theorem lw_42_21 : Cond.methodLink RL 108 yX12_best ∈ LW := LWr_42 _ (List.mem_of_getElem? (i := 21) rfl)
theorem lw_42_22 : Cond.instanceMethod yX12_best ∈ LW := LWr_42 _ (List.mem_of_getElem? (i := 22) rfl)
theorem lw_42_23 : Cond.selects RX12 yX12_best yX12_best ∈ LW := LWr_42 _ (List.mem_of_getElem? (i := 23) rfl)
theorem lw_43_0 : Cond.code yX12_best cX12_best 7 (some .int) ∈ LW := LWr_43 _ (List.mem_of_getElem? (i := 0) rfl)
theorem lw_43_1 : Cond.methodLink RL 109 yX11_weights ∈ LW := LWr_43 _ (List.mem_of_getElem? (i := 1) rfl)
theorem lw_43_2 : Cond.instanceMethod yX11_weights ∈ LW := LWr_43 _ (List.mem_of_getElem? (i := 2) rfl)
theorem lw_43_3 : Cond.selects RX11 yX11_weights yX11_weights ∈ LW := LWr_43 _ (List.mem_of_getElem? (i := 3) rfl)
theorem lw_43_4 : Cond.code yX11_weights cX11_weights 3 (some .int) ∈ LW := LWr_43 _ (List.mem_of_getElem? (i := 4) rfl)
theorem lw_43_5 : Cond.methodLink RX11 248 yX10_weigh ∈ LW := LWr_43 _ (List.mem_of_getElem? (i := 5) rfl)
theorem lw_43_6 : Cond.instanceMethod yX10_weigh ∈ LW := LWr_43 _ (List.mem_of_getElem? (i := 6) rfl)
theorem lw_43_7 : Cond.selects RX10 yX10_weigh yX10_weigh ∈ LW := LWr_43 _ (List.mem_of_getElem? (i := 7) rfl)
theorem lw_43_8 : Cond.code yX10_weigh cX10_weigh 5 (some .int) ∈ LW := LWr_43 _ (List.mem_of_getElem? (i := 8) rfl)
theorem lw_43_9 : Cond.methodLink RX10 111 yX4_beside ∈ LW := LWr_43 _ (List.mem_of_getElem? (i := 9) rfl)
theorem lw_43_10 : Cond.methodLink RX10 114 yJ6_bitCount_0f7a4 ∈ LW := LWr_43 _ (List.mem_of_getElem? (i := 10) rfl)
theorem lw_43_11 : Cond.methodLink RX10 119 yX10_gives ∈ LW := LWr_43 _ (List.mem_of_getElem? (i := 11) rfl)
theorem lw_43_12 : Cond.instanceMethod yX10_gives ∈ LW := LWr_43 _ (List.mem_of_getElem? (i := 12) rfl)
theorem lw_43_13 : Cond.selects RX10 yX10_gives yX10_gives ∈ LW := LWr_43 _ (List.mem_of_getElem? (i := 13) rfl)
theorem lw_43_14 : Cond.code yX10_gives cX10_gives 7 (some .boolean) ∈ LW := LWr_43 _ (List.mem_of_getElem? (i := 14) rfl)
theorem lw_43_15 : Cond.methodLink RL 112 yX12_weights ∈ LW := LWr_43 _ (List.mem_of_getElem? (i := 15) rfl)
theorem lw_43_16 : Cond.instanceMethod yX12_weights ∈ LW := LWr_43 _ (List.mem_of_getElem? (i := 16) rfl)
theorem lw_43_17 : Cond.selects RX12 yX12_weights yX12_weights ∈ LW := LWr_43 _ (List.mem_of_getElem? (i := 17) rfl)
theorem lw_43_18 : Cond.code yX12_weights cX12_weights 5 (some .int) ∈ LW := LWr_43 _ (List.mem_of_getElem? (i := 18) rfl)
theorem lw_43_19 : Cond.methodLink RX12 381 yX12_gives ∈ LW := LWr_43 _ (List.mem_of_getElem? (i := 19) rfl)
theorem lw_43_20 : Cond.instanceMethod yX12_gives ∈ LW := LWr_43 _ (List.mem_of_getElem? (i := 20) rfl)
theorem lw_43_21 : Cond.selects RX12 yX12_gives yX12_gives ∈ LW := LWr_43 _ (List.mem_of_getElem? (i := 21) rfl)
theorem lw_43_22 : Cond.code yX12_gives cX12_gives 7 (some .boolean) ∈ LW := LWr_43 _ (List.mem_of_getElem? (i := 22) rfl)
theorem lw_43_23 : Cond.methodLink RL 113 yX11_knows ∈ LW := LWr_43 _ (List.mem_of_getElem? (i := 23) rfl)
theorem lw_44_0 : Cond.instanceMethod yX11_knows ∈ LW := LWr_44 _ (List.mem_of_getElem? (i := 0) rfl)
theorem lw_44_1 : Cond.selects RX11 yX11_knows yX11_knows ∈ LW := LWr_44 _ (List.mem_of_getElem? (i := 1) rfl)
theorem lw_44_2 : Cond.code yX11_knows cX11_knows 4 (some .int) ∈ LW := LWr_44 _ (List.mem_of_getElem? (i := 2) rfl)
theorem lw_44_3 : Cond.fieldLink RX11 257 "AwardLine$Rumour" "since" "[I" ∈ LW := LWr_44 _ (List.mem_of_getElem? (i := 3) rfl)
theorem lw_44_4 : Cond.methodLink RX11 251 yX5_sift ∈ LW := LWr_44 _ (List.mem_of_getElem? (i := 4) rfl)
theorem lw_44_5 : Cond.methodLink RX11 254 yX7_spread ∈ LW := LWr_44 _ (List.mem_of_getElem? (i := 5) rfl)
theorem lw_44_6 : Cond.instanceMethod yX7_spread ∈ LW := LWr_44 _ (List.mem_of_getElem? (i := 6) rfl)
theorem lw_44_7 : Cond.selects RX7 yX7_spread yX7_spread ∈ LW := LWr_44 _ (List.mem_of_getElem? (i := 7) rfl)
theorem lw_44_8 : Cond.code yX7_spread cX7_spread 5 none ∈ LW := LWr_44 _ (List.mem_of_getElem? (i := 8) rfl)
theorem lw_44_9 : Cond.fieldLink RX7 28 "AwardLine$Notes" "held" "I" ∈ LW := LWr_44 _ (List.mem_of_getElem? (i := 9) rfl)
theorem lw_44_10 : Cond.fieldLink RX7 38 "AwardLine$Notes" "subject" "[I" ∈ LW := LWr_44 _ (List.mem_of_getElem? (i := 10) rfl)
theorem lw_44_11 : Cond.fieldLink RX7 41 "AwardLine$Notes" "object" "[I" ∈ LW := LWr_44 _ (List.mem_of_getElem? (i := 11) rfl)
theorem lw_44_12 : Cond.fieldLink RX7 44 "AwardLine$Notes" "third" "[I" ∈ LW := LWr_44 _ (List.mem_of_getElem? (i := 12) rfl)
theorem lw_44_13 : Cond.methodLink RX7 22 yJ7_fill_53178 ∈ LW := LWr_44 _ (List.mem_of_getElem? (i := 13) rfl)
theorem lw_44_14 : Cond.methodLink RX7 34 yX5_isKnown ∈ LW := LWr_44 _ (List.mem_of_getElem? (i := 14) rfl)
theorem lw_44_15 : Cond.methodLink RX7 47 yX7_hears ∈ LW := LWr_44 _ (List.mem_of_getElem? (i := 15) rfl)
theorem lw_44_16 : Cond.instanceMethod yX7_hears ∈ LW := LWr_44 _ (List.mem_of_getElem? (i := 16) rfl)
theorem lw_44_17 : Cond.selects RX7 yX7_hears yX7_hears ∈ LW := LWr_44 _ (List.mem_of_getElem? (i := 17) rfl)
theorem lw_44_18 : Cond.code yX7_hears cX7_hears 3 (some .boolean) ∈ LW := LWr_44 _ (List.mem_of_getElem? (i := 18) rfl)
theorem lw_44_19 : Cond.methodLink RX7 50 yX7_meetAll ∈ LW := LWr_44 _ (List.mem_of_getElem? (i := 19) rfl)
theorem lw_44_20 : Cond.instanceMethod yX7_meetAll ∈ LW := LWr_44 _ (List.mem_of_getElem? (i := 20) rfl)
theorem lw_44_21 : Cond.selects RX7 yX7_meetAll yX7_meetAll ∈ LW := LWr_44 _ (List.mem_of_getElem? (i := 21) rfl)
theorem lw_44_22 : Cond.code yX7_meetAll cX7_meetAll 4 (some .boolean) ∈ LW := LWr_44 _ (List.mem_of_getElem? (i := 22) rfl)
theorem lw_44_23 : Cond.methodLink RX7 54 yX7_tells ∈ LW := LWr_44 _ (List.mem_of_getElem? (i := 23) rfl)
theorem lw_45_0 : Cond.instanceMethod yX7_tells ∈ LW := LWr_45 _ (List.mem_of_getElem? (i := 0) rfl)
theorem lw_45_1 : Cond.selects RX7 yX7_tells yX7_tells ∈ LW := LWr_45 _ (List.mem_of_getElem? (i := 1) rfl)
theorem lw_45_2 : Cond.code yX7_tells cX7_tells 5 (some .boolean) ∈ LW := LWr_45 _ (List.mem_of_getElem? (i := 2) rfl)
theorem lw_45_3 : Cond.methodLink RL 116 yX12_knows ∈ LW := LWr_45 _ (List.mem_of_getElem? (i := 3) rfl)
theorem lw_45_4 : Cond.instanceMethod yX12_knows ∈ LW := LWr_45 _ (List.mem_of_getElem? (i := 4) rfl)
theorem lw_45_5 : Cond.selects RX12 yX12_knows yX12_knows ∈ LW := LWr_45 _ (List.mem_of_getElem? (i := 5) rfl)
theorem lw_45_6 : Cond.code yX12_knows cX12_knows 4 (some .int) ∈ LW := LWr_45 _ (List.mem_of_getElem? (i := 6) rfl)
theorem lw_45_7 : Cond.methodLink RX12 388 yX12_spreads ∈ LW := LWr_45 _ (List.mem_of_getElem? (i := 7) rfl)
theorem lw_45_8 : Cond.instanceMethod yX12_spreads ∈ LW := LWr_45 _ (List.mem_of_getElem? (i := 8) rfl)
theorem lw_45_9 : Cond.selects RX12 yX12_spreads yX12_spreads ∈ LW := LWr_45 _ (List.mem_of_getElem? (i := 9) rfl)
theorem lw_45_10 : Cond.code yX12_spreads cX12_spreads 5 none ∈ LW := LWr_45 _ (List.mem_of_getElem? (i := 10) rfl)
theorem lw_45_11 : Cond.methodLink RX12 385 yX12_tells ∈ LW := LWr_45 _ (List.mem_of_getElem? (i := 11) rfl)
theorem lw_45_12 : Cond.instanceMethod yX12_tells ∈ LW := LWr_45 _ (List.mem_of_getElem? (i := 12) rfl)
theorem lw_45_13 : Cond.selects RX12 yX12_tells yX12_tells ∈ LW := LWr_45 _ (List.mem_of_getElem? (i := 13) rfl)
theorem lw_45_14 : Cond.code yX12_tells cX12_tells 5 (some .boolean) ∈ LW := LWr_45 _ (List.mem_of_getElem? (i := 14) rfl)
theorem lw_45_15 : Cond.methodLink RL 117 yX11_explained ∈ LW := LWr_45 _ (List.mem_of_getElem? (i := 15) rfl)
theorem lw_45_16 : Cond.instanceMethod yX11_explained ∈ LW := LWr_45 _ (List.mem_of_getElem? (i := 16) rfl)
theorem lw_45_17 : Cond.selects RX11 yX11_explained yX11_explained ∈ LW := LWr_45 _ (List.mem_of_getElem? (i := 17) rfl)
theorem lw_45_18 : Cond.code yX11_explained cX11_explained 3 (some .int) ∈ LW := LWr_45 _ (List.mem_of_getElem? (i := 18) rfl)
theorem lw_45_19 : Cond.methodLink RX11 260 yX5_isKnown ∈ LW := LWr_45 _ (List.mem_of_getElem? (i := 19) rfl)
theorem lw_45_20 : Cond.methodLink RX11 264 yX7_explain ∈ LW := LWr_45 _ (List.mem_of_getElem? (i := 20) rfl)
theorem lw_45_21 : Cond.instanceMethod yX7_explain ∈ LW := LWr_45 _ (List.mem_of_getElem? (i := 21) rfl)
theorem lw_45_22 : Cond.selects RX7 yX7_explain yX7_explain ∈ LW := LWr_45 _ (List.mem_of_getElem? (i := 22) rfl)
theorem lw_45_23 : Cond.code yX7_explain cX7_explain 6 (some .int) ∈ LW := LWr_45 _ (List.mem_of_getElem? (i := 23) rfl)
theorem lw_46_0 : Cond.methodLink RX7 58 yX7_spread ∈ LW := LWr_46 _ (List.mem_of_getElem? (i := 0) rfl)
theorem lw_46_1 : Cond.methodLink RL 120 yX12_explained ∈ LW := LWr_46 _ (List.mem_of_getElem? (i := 1) rfl)
theorem lw_46_2 : Cond.instanceMethod yX12_explained ∈ LW := LWr_46 _ (List.mem_of_getElem? (i := 2) rfl)
theorem lw_46_3 : Cond.selects RX12 yX12_explained yX12_explained ∈ LW := LWr_46 _ (List.mem_of_getElem? (i := 3) rfl)
theorem lw_46_4 : Cond.code yX12_explained cX12_explained 3 (some .int) ∈ LW := LWr_46 _ (List.mem_of_getElem? (i := 4) rfl)
theorem lw_46_5 : Cond.methodLink RX12 391 yX12_isSure ∈ LW := LWr_46 _ (List.mem_of_getElem? (i := 5) rfl)
theorem lw_46_6 : Cond.instanceMethod yX12_isSure ∈ LW := LWr_46 _ (List.mem_of_getElem? (i := 6) rfl)
theorem lw_46_7 : Cond.selects RX12 yX12_isSure yX12_isSure ∈ LW := LWr_46 _ (List.mem_of_getElem? (i := 7) rfl)
theorem lw_46_8 : Cond.code yX12_isSure cX12_isSure 3 (some .boolean) ∈ LW := LWr_46 _ (List.mem_of_getElem? (i := 8) rfl)
theorem lw_46_9 : Cond.methodLink RL 121 yX11_through ∈ LW := LWr_46 _ (List.mem_of_getElem? (i := 9) rfl)
theorem lw_46_10 : Cond.instanceMethod yX11_through ∈ LW := LWr_46 _ (List.mem_of_getElem? (i := 10) rfl)
theorem lw_46_11 : Cond.selects RX11 yX11_through yX11_through ∈ LW := LWr_46 _ (List.mem_of_getElem? (i := 11) rfl)
theorem lw_46_12 : Cond.code yX11_through cX11_through 2 (some .int) ∈ LW := LWr_46 _ (List.mem_of_getElem? (i := 12) rfl)
theorem lw_46_13 : Cond.methodLink RX11 267 yX7_carriers ∈ LW := LWr_46 _ (List.mem_of_getElem? (i := 13) rfl)
theorem lw_46_14 : Cond.instanceMethod yX7_carriers ∈ LW := LWr_46 _ (List.mem_of_getElem? (i := 14) rfl)
theorem lw_46_15 : Cond.selects RX7 yX7_carriers yX7_carriers ∈ LW := LWr_46 _ (List.mem_of_getElem? (i := 15) rfl)
theorem lw_46_16 : Cond.code yX7_carriers cX7_carriers 3 (some .int) ∈ LW := LWr_46 _ (List.mem_of_getElem? (i := 16) rfl)
theorem lw_46_17 : Cond.methodLink RX7 62 yX7_hasAct ∈ LW := LWr_46 _ (List.mem_of_getElem? (i := 17) rfl)
theorem lw_46_18 : Cond.instanceMethod yX7_hasAct ∈ LW := LWr_46 _ (List.mem_of_getElem? (i := 18) rfl)
theorem lw_46_19 : Cond.selects RX7 yX7_hasAct yX7_hasAct ∈ LW := LWr_46 _ (List.mem_of_getElem? (i := 19) rfl)
theorem lw_46_20 : Cond.code yX7_hasAct cX7_hasAct 3 (some .boolean) ∈ LW := LWr_46 _ (List.mem_of_getElem? (i := 20) rfl)
theorem lw_46_21 : Cond.methodLink RX7 65 yX7_carriersOf ∈ LW := LWr_46 _ (List.mem_of_getElem? (i := 21) rfl)
theorem lw_46_22 : Cond.instanceMethod yX7_carriersOf ∈ LW := LWr_46 _ (List.mem_of_getElem? (i := 22) rfl)
theorem lw_46_23 : Cond.selects RX7 yX7_carriersOf yX7_carriersOf ∈ LW := LWr_46 _ (List.mem_of_getElem? (i := 23) rfl)
theorem lw_47_0 : Cond.code yX7_carriersOf cX7_carriersOf 4 (some .int) ∈ LW := LWr_47 _ (List.mem_of_getElem? (i := 0) rfl)
theorem lw_47_1 : Cond.methodLink RX7 69 arraycopyName ∈ LW := LWr_47 _ (List.mem_of_getElem? (i := 1) rfl)
theorem lw_47_2 : Cond.native arraycopyName ∈ LW := LWr_47 _ (List.mem_of_getElem? (i := 2) rfl)
theorem lw_47_3 : Cond.static arraycopyName ∈ LW := LWr_47 _ (List.mem_of_getElem? (i := 3) rfl)
theorem lw_47_4 : Cond.initialized "java/lang/System" ∈ LW := LWr_47 _ (List.mem_of_getElem? (i := 4) rfl)
theorem lw_47_5 : Cond.methodLink RX7 75 yX7_losesAct ∈ LW := LWr_47 _ (List.mem_of_getElem? (i := 5) rfl)
theorem lw_47_6 : Cond.instanceMethod yX7_losesAct ∈ LW := LWr_47 _ (List.mem_of_getElem? (i := 6) rfl)
theorem lw_47_7 : Cond.selects RX7 yX7_losesAct yX7_losesAct ∈ LW := LWr_47 _ (List.mem_of_getElem? (i := 7) rfl)
theorem lw_47_8 : Cond.code yX7_losesAct cX7_losesAct 5 (some .boolean) ∈ LW := LWr_47 _ (List.mem_of_getElem? (i := 8) rfl)
theorem lw_47_9 : Cond.methodLink RL 124 yX12_through ∈ LW := LWr_47 _ (List.mem_of_getElem? (i := 9) rfl)
theorem lw_47_10 : Cond.instanceMethod yX12_through ∈ LW := LWr_47 _ (List.mem_of_getElem? (i := 10) rfl)
theorem lw_47_11 : Cond.selects RX12 yX12_through yX12_through ∈ LW := LWr_47 _ (List.mem_of_getElem? (i := 11) rfl)
theorem lw_47_12 : Cond.code yX12_through cX12_through 5 (some .int) ∈ LW := LWr_47 _ (List.mem_of_getElem? (i := 12) rfl)
theorem lw_47_13 : Cond.methodLink RL 125 yX11_candidate ∈ LW := LWr_47 _ (List.mem_of_getElem? (i := 13) rfl)
theorem lw_47_14 : Cond.instanceMethod yX11_candidate ∈ LW := LWr_47 _ (List.mem_of_getElem? (i := 14) rfl)
theorem lw_47_15 : Cond.selects RX11 yX11_candidate yX11_candidate ∈ LW := LWr_47 _ (List.mem_of_getElem? (i := 15) rfl)
theorem lw_47_16 : Cond.code yX11_candidate cX11_candidate 2 (some .int) ∈ LW := LWr_47 _ (List.mem_of_getElem? (i := 16) rfl)
theorem lw_47_17 : Cond.methodLink RX11 271 yX2_addCandidate ∈ LW := LWr_47 _ (List.mem_of_getElem? (i := 17) rfl)
theorem lw_47_18 : Cond.instanceMethod yX2_addCandidate ∈ LW := LWr_47 _ (List.mem_of_getElem? (i := 18) rfl)
theorem lw_47_19 : Cond.selects RX2 yX2_addCandidate yX2_addCandidate ∈ LW := LWr_47 _ (List.mem_of_getElem? (i := 19) rfl)
theorem lw_47_20 : Cond.code yX2_addCandidate cX2_addCandidate 3 (some .int) ∈ LW := LWr_47 _ (List.mem_of_getElem? (i := 20) rfl)
theorem lw_47_21 : Cond.fieldLink RX2 37 "AwardLine$Exodus" "candidates" "I" ∈ LW := LWr_47 _ (List.mem_of_getElem? (i := 21) rfl)
theorem lw_47_22 : Cond.methodLink RL 128 yX12_candidate ∈ LW := LWr_47 _ (List.mem_of_getElem? (i := 22) rfl)
theorem lw_47_23 : Cond.instanceMethod yX12_candidate ∈ LW := LWr_47 _ (List.mem_of_getElem? (i := 23) rfl)
theorem lw_48_0 : Cond.selects RX12 yX12_candidate yX12_candidate ∈ LW := LWr_48 _ (List.mem_of_getElem? (i := 0) rfl)
theorem lw_48_1 : Cond.code yX12_candidate cX12_candidate 3 (some .int) ∈ LW := LWr_48 _ (List.mem_of_getElem? (i := 1) rfl)
theorem lw_48_2 : Cond.methodLink RL 129 yX11_flight ∈ LW := LWr_48 _ (List.mem_of_getElem? (i := 2) rfl)
theorem lw_48_3 : Cond.instanceMethod yX11_flight ∈ LW := LWr_48 _ (List.mem_of_getElem? (i := 3) rfl)
theorem lw_48_4 : Cond.selects RX11 yX11_flight yX11_flight ∈ LW := LWr_48 _ (List.mem_of_getElem? (i := 4) rfl)
theorem lw_48_5 : Cond.code yX11_flight cX11_flight 7 (some .int) ∈ LW := LWr_48 _ (List.mem_of_getElem? (i := 5) rfl)
theorem lw_48_6 : Cond.methodLink RX11 274 yX2_agree ∈ LW := LWr_48 _ (List.mem_of_getElem? (i := 6) rfl)
theorem lw_48_7 : Cond.instanceMethod yX2_agree ∈ LW := LWr_48 _ (List.mem_of_getElem? (i := 7) rfl)
theorem lw_48_8 : Cond.selects RX2 yX2_agree yX2_agree ∈ LW := LWr_48 _ (List.mem_of_getElem? (i := 8) rfl)
theorem lw_48_9 : Cond.code yX2_agree cX2_agree 2 none ∈ LW := LWr_48 _ (List.mem_of_getElem? (i := 9) rfl)
theorem lw_48_10 : Cond.fieldLink RX2 41 "AwardLine$Terms" "fear" "I" ∈ LW := LWr_48 _ (List.mem_of_getElem? (i := 10) rfl)
theorem lw_48_11 : Cond.fieldLink RX2 46 "AwardLine$Exodus" "fear" "I" ∈ LW := LWr_48 _ (List.mem_of_getElem? (i := 11) rfl)
theorem lw_48_12 : Cond.fieldLink RX2 47 "AwardLine$Terms" "lose" "I" ∈ LW := LWr_48 _ (List.mem_of_getElem? (i := 12) rfl)
theorem lw_48_13 : Cond.fieldLink RX2 50 "AwardLine$Exodus" "lose" "I" ∈ LW := LWr_48 _ (List.mem_of_getElem? (i := 13) rfl)
theorem lw_48_14 : Cond.methodLink RX11 277 yX2_tell ∈ LW := LWr_48 _ (List.mem_of_getElem? (i := 14) rfl)
theorem lw_48_15 : Cond.instanceMethod yX2_tell ∈ LW := LWr_48 _ (List.mem_of_getElem? (i := 15) rfl)
theorem lw_48_16 : Cond.selects RX2 yX2_tell yX2_tell ∈ LW := LWr_48 _ (List.mem_of_getElem? (i := 16) rfl)
theorem lw_48_17 : Cond.code yX2_tell cX2_tell 4 (some .int) ∈ LW := LWr_48 _ (List.mem_of_getElem? (i := 17) rfl)
theorem lw_48_18 : Cond.constant RX2 59 (1000000000) ∈ LW := LWr_48 _ (List.mem_of_getElem? (i := 18) rfl)
theorem lw_48_19 : Cond.methodLink RX2 51 yX2_aim ∈ LW := LWr_48 _ (List.mem_of_getElem? (i := 19) rfl)
theorem lw_48_20 : Cond.instanceMethod yX2_aim ∈ LW := LWr_48 _ (List.mem_of_getElem? (i := 20) rfl)
theorem lw_48_21 : Cond.selects RX2 yX2_aim yX2_aim ∈ LW := LWr_48 _ (List.mem_of_getElem? (i := 21) rfl)
theorem lw_48_22 : Cond.code yX2_aim cX2_aim 5 none ∈ LW := LWr_48 _ (List.mem_of_getElem? (i := 22) rfl)
theorem lw_48_23 : Cond.fieldLink RX2 64 "AwardLine$Land" "size" "I" ∈ LW := LWr_48 _ (List.mem_of_getElem? (i := 23) rfl)
theorem lw_49_0 : Cond.fieldLink RX2 69 "AwardLine$Land" "all" "I" ∈ LW := LWr_49 _ (List.mem_of_getElem? (i := 0) rfl)
theorem lw_49_1 : Cond.methodLink RX2 72 yX2_towards ∈ LW := LWr_49 _ (List.mem_of_getElem? (i := 1) rfl)
theorem lw_49_2 : Cond.instanceMethod yX2_towards ∈ LW := LWr_49 _ (List.mem_of_getElem? (i := 2) rfl)
theorem lw_49_3 : Cond.selects RX2 yX2_towards yX2_towards ∈ LW := LWr_49 _ (List.mem_of_getElem? (i := 3) rfl)
theorem lw_49_4 : Cond.code yX2_towards cX2_towards 7 (some .int) ∈ LW := LWr_49 _ (List.mem_of_getElem? (i := 4) rfl)
theorem lw_49_5 : Cond.methodLink RX2 76 yX4_beside ∈ LW := LWr_49 _ (List.mem_of_getElem? (i := 5) rfl)
theorem lw_49_6 : Cond.static yX11_leastOf ∈ LW := LWr_49 _ (List.mem_of_getElem? (i := 6) rfl)
theorem lw_49_7 : Cond.code yX11_leastOf cX11_leastOf 1 (some .int) ∈ LW := LWr_49 _ (List.mem_of_getElem? (i := 7) rfl)
theorem lw_49_8 : Cond.methodLink RX2 55 yX2_guarded ∈ LW := LWr_49 _ (List.mem_of_getElem? (i := 8) rfl)
theorem lw_49_9 : Cond.instanceMethod yX2_guarded ∈ LW := LWr_49 _ (List.mem_of_getElem? (i := 9) rfl)
theorem lw_49_10 : Cond.selects RX2 yX2_guarded yX2_guarded ∈ LW := LWr_49 _ (List.mem_of_getElem? (i := 10) rfl)
theorem lw_49_11 : Cond.code yX2_guarded cX2_guarded 4 (some .int) ∈ LW := LWr_49 _ (List.mem_of_getElem? (i := 11) rfl)
theorem lw_49_12 : Cond.methodLink RX2 60 yX2_walk ∈ LW := LWr_49 _ (List.mem_of_getElem? (i := 12) rfl)
theorem lw_49_13 : Cond.instanceMethod yX2_walk ∈ LW := LWr_49 _ (List.mem_of_getElem? (i := 13) rfl)
theorem lw_49_14 : Cond.selects RX2 yX2_walk yX2_walk ∈ LW := LWr_49 _ (List.mem_of_getElem? (i := 14) rfl)
theorem lw_49_15 : Cond.code yX2_walk cX2_walk 8 (some .int) ∈ LW := LWr_49 _ (List.mem_of_getElem? (i := 15) rfl)
theorem lw_49_16 : Cond.fieldLink RX2 82 "AwardLine$Census" "people" "[[I" ∈ LW := LWr_49 _ (List.mem_of_getElem? (i := 16) rfl)
theorem lw_49_17 : Cond.methodLink RX2 87 yX2_walkOneDay ∈ LW := LWr_49 _ (List.mem_of_getElem? (i := 17) rfl)
theorem lw_49_18 : Cond.instanceMethod yX2_walkOneDay ∈ LW := LWr_49 _ (List.mem_of_getElem? (i := 18) rfl)
theorem lw_49_19 : Cond.selects RX2 yX2_walkOneDay yX2_walkOneDay ∈ LW := LWr_49 _ (List.mem_of_getElem? (i := 19) rfl)
theorem lw_49_20 : Cond.code yX2_walkOneDay cX2_walkOneDay 9 (some .int) ∈ LW := LWr_49 _ (List.mem_of_getElem? (i := 20) rfl)
theorem lw_49_21 : Cond.methodLink RX2 91 yJ7_fill_53178 ∈ LW := LWr_49 _ (List.mem_of_getElem? (i := 21) rfl)
theorem lw_49_22 : Cond.methodLink RX2 97 yX4_has ∈ LW := LWr_49 _ (List.mem_of_getElem? (i := 22) rfl)
theorem lw_49_23 : Cond.methodLink RX11 281 yX2_stillAstray ∈ LW := LWr_49 _ (List.mem_of_getElem? (i := 23) rfl)
theorem lw_50_0 : Cond.instanceMethod yX2_stillAstray ∈ LW := LWr_50 _ (List.mem_of_getElem? (i := 0) rfl)
theorem lw_50_1 : Cond.selects RX2 yX2_stillAstray yX2_stillAstray ∈ LW := LWr_50 _ (List.mem_of_getElem? (i := 1) rfl)
theorem lw_50_2 : Cond.code yX2_stillAstray cX2_stillAstray 3 (some .int) ∈ LW := LWr_50 _ (List.mem_of_getElem? (i := 2) rfl)
theorem lw_50_3 : Cond.methodLink RX11 284 yX2_fullest ∈ LW := LWr_50 _ (List.mem_of_getElem? (i := 3) rfl)
theorem lw_50_4 : Cond.instanceMethod yX2_fullest ∈ LW := LWr_50 _ (List.mem_of_getElem? (i := 4) rfl)
theorem lw_50_5 : Cond.selects RX2 yX2_fullest yX2_fullest ∈ LW := LWr_50 _ (List.mem_of_getElem? (i := 5) rfl)
theorem lw_50_6 : Cond.code yX2_fullest cX2_fullest 3 (some .int) ∈ LW := LWr_50 _ (List.mem_of_getElem? (i := 6) rfl)
theorem lw_50_7 : Cond.methodLink RX2 104 Lib.Math.max.name ∈ LW := LWr_50 _ (List.mem_of_getElem? (i := 7) rfl)
theorem lw_50_8 : Cond.methodLink RL 132 yX12_flight ∈ LW := LWr_50 _ (List.mem_of_getElem? (i := 8) rfl)
theorem lw_50_9 : Cond.instanceMethod yX12_flight ∈ LW := LWr_50 _ (List.mem_of_getElem? (i := 9) rfl)
theorem lw_50_10 : Cond.selects RX12 yX12_flight yX12_flight ∈ LW := LWr_50 _ (List.mem_of_getElem? (i := 10) rfl)
theorem lw_50_11 : Cond.code yX12_flight cX12_flight 9 (some .int) ∈ LW := LWr_50 _ (List.mem_of_getElem? (i := 11) rfl)
theorem lw_50_12 : Cond.fieldLink RX12 400 "AwardLineModel" "lost" "I" ∈ LW := LWr_50 _ (List.mem_of_getElem? (i := 12) rfl)
theorem lw_50_13 : Cond.methodLink RX12 410 yX12_guarded ∈ LW := LWr_50 _ (List.mem_of_getElem? (i := 13) rfl)
theorem lw_50_14 : Cond.instanceMethod yX12_guarded ∈ LW := LWr_50 _ (List.mem_of_getElem? (i := 14) rfl)
theorem lw_50_15 : Cond.selects RX12 yX12_guarded yX12_guarded ∈ LW := LWr_50 _ (List.mem_of_getElem? (i := 15) rfl)
theorem lw_50_16 : Cond.code yX12_guarded cX12_guarded 4 (some .int) ∈ LW := LWr_50 _ (List.mem_of_getElem? (i := 16) rfl)
theorem lw_50_17 : Cond.methodLink RX12 413 yX12_flees ∈ LW := LWr_50 _ (List.mem_of_getElem? (i := 17) rfl)
theorem lw_50_18 : Cond.instanceMethod yX12_flees ∈ LW := LWr_50 _ (List.mem_of_getElem? (i := 18) rfl)
theorem lw_50_19 : Cond.selects RX12 yX12_flees yX12_flees ∈ LW := LWr_50 _ (List.mem_of_getElem? (i := 19) rfl)
theorem lw_50_20 : Cond.code yX12_flees cX12_flees 6 none ∈ LW := LWr_50 _ (List.mem_of_getElem? (i := 20) rfl)
theorem lw_50_21 : Cond.methodLink RX12 403 yX12_paces ∈ LW := LWr_50 _ (List.mem_of_getElem? (i := 21) rfl)
theorem lw_50_22 : Cond.instanceMethod yX12_paces ∈ LW := LWr_50 _ (List.mem_of_getElem? (i := 22) rfl)
theorem lw_50_23 : Cond.selects RX12 yX12_paces yX12_paces ∈ LW := LWr_50 _ (List.mem_of_getElem? (i := 23) rfl)
theorem lw_51_0 : Cond.code yX12_paces cX12_paces 7 none ∈ LW := LWr_51 _ (List.mem_of_getElem? (i := 0) rfl)
theorem lw_51_1 : Cond.methodLink RX12 406 yX12_leaves ∈ LW := LWr_51 _ (List.mem_of_getElem? (i := 1) rfl)
theorem lw_51_2 : Cond.instanceMethod yX12_leaves ∈ LW := LWr_51 _ (List.mem_of_getElem? (i := 2) rfl)
theorem lw_51_3 : Cond.selects RX12 yX12_leaves yX12_leaves ∈ LW := LWr_51 _ (List.mem_of_getElem? (i := 3) rfl)
theorem lw_51_4 : Cond.code yX12_leaves cX12_leaves 7 none ∈ LW := LWr_51 _ (List.mem_of_getElem? (i := 4) rfl)
theorem lw_51_5 : Cond.methodLink RX12 397 yX12_goal ∈ LW := LWr_51 _ (List.mem_of_getElem? (i := 5) rfl)
theorem lw_51_6 : Cond.instanceMethod yX12_goal ∈ LW := LWr_51 _ (List.mem_of_getElem? (i := 6) rfl)
theorem lw_51_7 : Cond.selects RX12 yX12_goal yX12_goal ∈ LW := LWr_51 _ (List.mem_of_getElem? (i := 7) rfl)
theorem lw_51_8 : Cond.code yX12_goal cX12_goal 5 (some .int) ∈ LW := LWr_51 _ (List.mem_of_getElem? (i := 8) rfl)
theorem lw_51_9 : Cond.methodLink RX12 394 yX12_areBeside ∈ LW := LWr_51 _ (List.mem_of_getElem? (i := 9) rfl)
theorem lw_51_10 : Cond.instanceMethod yX12_areBeside ∈ LW := LWr_51 _ (List.mem_of_getElem? (i := 10) rfl)
theorem lw_51_11 : Cond.selects RX12 yX12_areBeside yX12_areBeside ∈ LW := LWr_51 _ (List.mem_of_getElem? (i := 11) rfl)
theorem lw_51_12 : Cond.code yX12_areBeside cX12_areBeside 3 (some .boolean) ∈ LW := LWr_51 _ (List.mem_of_getElem? (i := 12) rfl)
theorem lw_51_13 : Cond.methodLink RX12 352 Lib.Math.abs.name ∈ LW := LWr_51 _ (List.mem_of_getElem? (i := 13) rfl)
theorem lw_51_14 : Cond.static Lib.Math.abs.name ∈ LW := LWr_51 _ (List.mem_of_getElem? (i := 14) rfl)
theorem lw_51_15 : Cond.code Lib.Math.abs.name Lib.Math.abs.code 1 (some .int) ∈ LW := LWr_51 _ (List.mem_of_getElem? (i := 15) rfl)
theorem lw_51_16 : Cond.methodLink RL 133 yX11_guards ∈ LW := LWr_51 _ (List.mem_of_getElem? (i := 16) rfl)
theorem lw_51_17 : Cond.instanceMethod yX11_guards ∈ LW := LWr_51 _ (List.mem_of_getElem? (i := 17) rfl)
theorem lw_51_18 : Cond.selects RX11 yX11_guards yX11_guards ∈ LW := LWr_51 _ (List.mem_of_getElem? (i := 18) rfl)
theorem lw_51_19 : Cond.code yX11_guards cX11_guards 6 (some .int) ∈ LW := LWr_51 _ (List.mem_of_getElem? (i := 19) rfl)
theorem lw_51_20 : Cond.fieldLink RX11 291 "AwardLine$Exodus" "bestGuards" "I" ∈ LW := LWr_51 _ (List.mem_of_getElem? (i := 20) rfl)
theorem lw_51_21 : Cond.fieldLink RX11 294 "AwardLine$Exodus" "bestLost" "I" ∈ LW := LWr_51 _ (List.mem_of_getElem? (i := 21) rfl)
theorem lw_51_22 : Cond.methodLink RX11 287 yX2_place ∈ LW := LWr_51 _ (List.mem_of_getElem? (i := 22) rfl)
theorem lw_51_23 : Cond.instanceMethod yX2_place ∈ LW := LWr_51 _ (List.mem_of_getElem? (i := 23) rfl)
theorem lw_52_0 : Cond.selects RX2 yX2_place yX2_place ∈ LW := LWr_52 _ (List.mem_of_getElem? (i := 0) rfl)
theorem lw_52_1 : Cond.code yX2_place cX2_place 7 none ∈ LW := LWr_52 _ (List.mem_of_getElem? (i := 1) rfl)
theorem lw_52_2 : Cond.fieldLink RX2 109 "AwardLine$Drafts" "held" "I" ∈ LW := LWr_52 _ (List.mem_of_getElem? (i := 2) rfl)
theorem lw_52_3 : Cond.fieldLink RX2 114 "AwardLine$Drafts" "line" "[I" ∈ LW := LWr_52 _ (List.mem_of_getElem? (i := 3) rfl)
theorem lw_52_4 : Cond.fieldLink RX2 117 "AwardLine$Exodus" "bestGuards" "I" ∈ LW := LWr_52 _ (List.mem_of_getElem? (i := 4) rfl)
theorem lw_52_5 : Cond.fieldLink RX2 120 "AwardLine$Exodus" "bestLost" "I" ∈ LW := LWr_52 _ (List.mem_of_getElem? (i := 5) rfl)
theorem lw_52_6 : Cond.methodLink RX2 123 yJ6_bitCount_0f7a4 ∈ LW := LWr_52 _ (List.mem_of_getElem? (i := 6) rfl)
theorem lw_52_7 : Cond.methodLink RX2 128 yX2_tryGuards ∈ LW := LWr_52 _ (List.mem_of_getElem? (i := 7) rfl)
theorem lw_52_8 : Cond.instanceMethod yX2_tryGuards ∈ LW := LWr_52 _ (List.mem_of_getElem? (i := 8) rfl)
theorem lw_52_9 : Cond.selects RX2 yX2_tryGuards yX2_tryGuards ∈ LW := LWr_52 _ (List.mem_of_getElem? (i := 9) rfl)
theorem lw_52_10 : Cond.code yX2_tryGuards cX2_tryGuards 9 none ∈ LW := LWr_52 _ (List.mem_of_getElem? (i := 10) rfl)
theorem lw_52_11 : Cond.methodLink RL 136 yX12_guards ∈ LW := LWr_52 _ (List.mem_of_getElem? (i := 11) rfl)
theorem lw_52_12 : Cond.instanceMethod yX12_guards ∈ LW := LWr_52 _ (List.mem_of_getElem? (i := 12) rfl)
theorem lw_52_13 : Cond.selects RX12 yX12_guards yX12_guards ∈ LW := LWr_52 _ (List.mem_of_getElem? (i := 13) rfl)
theorem lw_52_14 : Cond.code yX12_guards cX12_guards 11 (some .int) ∈ LW := LWr_52 _ (List.mem_of_getElem? (i := 14) rfl)
theorem lw_52_15 : Cond.methodLink RL 137 yX11_counted ∈ LW := LWr_52 _ (List.mem_of_getElem? (i := 15) rfl)
theorem lw_52_16 : Cond.instanceMethod yX11_counted ∈ LW := LWr_52 _ (List.mem_of_getElem? (i := 16) rfl)
theorem lw_52_17 : Cond.selects RX11 yX11_counted yX11_counted ∈ LW := LWr_52 _ (List.mem_of_getElem? (i := 17) rfl)
theorem lw_52_18 : Cond.code yX11_counted cX11_counted 2 (some .int) ∈ LW := LWr_52 _ (List.mem_of_getElem? (i := 18) rfl)
theorem lw_52_19 : Cond.fieldLink RX11 297 "AwardLine$Terms" "knots" "I" ∈ LW := LWr_52 _ (List.mem_of_getElem? (i := 19) rfl)
theorem lw_52_20 : Cond.fieldLink RX11 300 "AwardLine$Terms" "fear" "I" ∈ LW := LWr_52 _ (List.mem_of_getElem? (i := 20) rfl)
theorem lw_52_21 : Cond.fieldLink RX11 303 "AwardLine$Terms" "lose" "I" ∈ LW := LWr_52 _ (List.mem_of_getElem? (i := 21) rfl)
theorem lw_52_22 : Cond.methodLink RL 140 yX12_counted ∈ LW := LWr_52 _ (List.mem_of_getElem? (i := 22) rfl)
theorem lw_52_23 : Cond.instanceMethod yX12_counted ∈ LW := LWr_52 _ (List.mem_of_getElem? (i := 23) rfl)
theorem lw_53_0 : Cond.selects RX12 yX12_counted yX12_counted ∈ LW := LWr_53 _ (List.mem_of_getElem? (i := 0) rfl)
theorem lw_53_1 : Cond.code yX12_counted cX12_counted 2 (some .int) ∈ LW := LWr_53 _ (List.mem_of_getElem? (i := 1) rfl)
