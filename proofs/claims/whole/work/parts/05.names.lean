/-! names of classes and methods, places in bytes, hints: by wip/whole/names10.py -/
def RX0 : String := "PotAndFine$Book"
def TX0 : u_T := fun k => match k with
  | _ => ("PotAndFine$Book", "places", "[I", true)
def tyX0 : Nat → FieldType := fun k => match k with
  | _ => .array .int
theorem nmX0 : ∀ a, a < 1 → ∀ b, b < 1 → a ≠ b → (TX0 a).2.1 ≠ (TX0 b).2.1 := by decide +kernel
theorem tyX0_ok : ∀ k, k < 1 → parseFieldDescriptor (TX0 k).2.2.1 = some (tyX0 k) := by decide +kernel
def RX1 : String := "PotAndFine$Course"
def TX1 : u_T := fun k => match k with
  | 0 => ("PotAndFine$Course", "setup", "LPotAndFine$Setup;", true)
  | 1 => ("PotAndFine$Course", "puts", "[I", true)
  | 2 => ("PotAndFine$Course", "payments", "[I", true)
  | 3 => ("PotAndFine$Course", "losses", "[I", true)
  | 4 => ("PotAndFine$Course", "held", "[J", true)
  | 5 => ("PotAndFine$Course", "pots", "[I", true)
  | 6 => ("PotAndFine$Course", "now", "[I", true)
  | 7 => ("PotAndFine$Course", "nowPot", "I", false)
  | 8 => ("PotAndFine$Course", "nowIn", "I", false)
  | _ => ("PotAndFine$Course", "nowMean", "I", false)
def tyX1 : Nat → FieldType := fun k => match k with
  | 0 => .object "PotAndFine$Setup"
  | 1 => .array .int
  | 2 => .array .int
  | 3 => .array .int
  | 4 => .array .long
  | 5 => .array .int
  | 6 => .array .int
  | 7 => .int
  | 8 => .int
  | _ => .int
theorem nmX1 : ∀ a, a < 10 → ∀ b, b < 10 → a ≠ b → (TX1 a).2.1 ≠ (TX1 b).2.1 := by decide +kernel
theorem tyX1_ok : ∀ k, k < 10 → parseFieldDescriptor (TX1 k).2.2.1 = some (tyX1 k) := by decide +kernel
def RX2 : String := "PotAndFine$Grammar"
def TX2 : u_T := fun k => match k with
  | 0 => ("PotAndFine$Grammar", "letters", "Ljava/lang/String;", true)
  | 1 => ("PotAndFine$Grammar", "digits", "[I", true)
  | 2 => ("PotAndFine$Grammar", "least", "[I", true)
  | 3 => ("PotAndFine$Grammar", "most", "[I", true)
  | 4 => ("PotAndFine$Grammar", "eachOnce", "Z", true)
  | 5 => ("PotAndFine$Grammar", "fewestParts", "I", true)
  | _ => ("PotAndFine$Grammar", "mostParts", "I", true)
def tyX2 : Nat → FieldType := fun k => match k with
  | 0 => .object "java/lang/String"
  | 1 => .array .int
  | 2 => .array .int
  | 3 => .array .int
  | 4 => .boolean
  | 5 => .int
  | _ => .int
theorem nmX2 : ∀ a, a < 7 → ∀ b, b < 7 → a ≠ b → (TX2 a).2.1 ≠ (TX2 b).2.1 := by decide +kernel
theorem tyX2_ok : ∀ k, k < 7 → parseFieldDescriptor (TX2 k).2.2.1 = some (tyX2 k) := by decide +kernel
def RX3 : String := "PotAndFine$Kept"
def TX3 : u_T := fun k => match k with
  | 0 => ("PotAndFine$Kept", "filled", "Z", false)
  | 1 => ("PotAndFine$Kept", "told", "[I", true)
  | 2 => ("PotAndFine$Kept", "out", "[I", true)
  | _ => ("PotAndFine$Kept", "places", "[I", true)
def tyX3 : Nat → FieldType := fun k => match k with
  | 0 => .boolean
  | 1 => .array .int
  | 2 => .array .int
  | _ => .array .int
theorem nmX3 : ∀ a, a < 4 → ∀ b, b < 4 → a ≠ b → (TX3 a).2.1 ≠ (TX3 b).2.1 := by decide +kernel
theorem tyX3_ok : ∀ k, k < 4 → parseFieldDescriptor (TX3 k).2.2.1 = some (tyX3 k) := by decide +kernel
def RX4 : String := "PotAndFine$Setup"
def TX4 : u_T := fun k => match k with
  | 0 => ("PotAndFine$Setup", "rules", "[I", true)
  | 1 => ("PotAndFine$Setup", "size", "I", false)
  | 2 => ("PotAndFine$Setup", "letter", "[I", true)
  | 3 => ("PotAndFine$Setup", "amount", "[I", true)
  | 4 => ("PotAndFine$Setup", "anger", "[I", true)
  | 5 => ("PotAndFine$Setup", "told", "[I", true)
  | _ => ("PotAndFine$Setup", "out", "[I", true)
def tyX4 : Nat → FieldType := fun k => match k with
  | 0 => .array .int
  | 1 => .int
  | 2 => .array .int
  | 3 => .array .int
  | 4 => .array .int
  | 5 => .array .int
  | _ => .array .int
theorem nmX4 : ∀ a, a < 7 → ∀ b, b < 7 → a ≠ b → (TX4 a).2.1 ≠ (TX4 b).2.1 := by decide +kernel
theorem tyX4_ok : ∀ k, k < 7 → parseFieldDescriptor (TX4 k).2.2.1 = some (tyX4 k) := by decide +kernel
def RX5 : String := "PotAndFine$Text"
def TX5 : u_T := fun k => match k with
  | 0 => ("PotAndFine$Text", "bytes", "[I", true)
  | 1 => ("PotAndFine$Text", "length", "I", false)
  | 2 => ("PotAndFine$Text", "letters", "[I", true)
  | 3 => ("PotAndFine$Text", "numbers", "[I", true)
  | _ => ("PotAndFine$Text", "found", "I", false)
def tyX5 : Nat → FieldType := fun k => match k with
  | 0 => .array .int
  | 1 => .int
  | 2 => .array .int
  | 3 => .array .int
  | _ => .int
theorem nmX5 : ∀ a, a < 5 → ∀ b, b < 5 → a ≠ b → (TX5 a).2.1 ≠ (TX5 b).2.1 := by decide +kernel
theorem tyX5_ok : ∀ k, k < 5 → parseFieldDescriptor (TX5 k).2.2.1 = some (tyX5 k) := by decide +kernel
def RX6 : String := "PotAndFine"
def TX6 : u_T := fun k => match k with
  | 0 => ("PotAndFine", "text", "LPotAndFine$Text;", true)
  | 1 => ("PotAndFine", "ruleGrammar", "LPotAndFine$Grammar;", true)
  | 2 => ("PotAndFine", "groupGrammar", "LPotAndFine$Grammar;", true)
  | 3 => ("PotAndFine", "setup", "LPotAndFine$Setup;", true)
  | 4 => ("PotAndFine", "course", "LPotAndFine$Course;", true)
  | 5 => ("PotAndFine", "trialSetup", "LPotAndFine$Setup;", true)
  | 6 => ("PotAndFine", "trial", "LPotAndFine$Course;", true)
  | 7 => ("PotAndFine", "book", "LPotAndFine$Book;", true)
  | 8 => ("PotAndFine", "slots", "[LPotAndFine$Kept;", true)
  | _ => ("PotAndFine", "stale", "Z", false)
def tyX6 : Nat → FieldType := fun k => match k with
  | 0 => .object "PotAndFine$Text"
  | 1 => .object "PotAndFine$Grammar"
  | 2 => .object "PotAndFine$Grammar"
  | 3 => .object "PotAndFine$Setup"
  | 4 => .object "PotAndFine$Course"
  | 5 => .object "PotAndFine$Setup"
  | 6 => .object "PotAndFine$Course"
  | 7 => .object "PotAndFine$Book"
  | 8 => .array (.object "PotAndFine$Kept")
  | _ => .boolean
theorem nmX6 : ∀ a, a < 10 → ∀ b, b < 10 → a ≠ b → (TX6 a).2.1 ≠ (TX6 b).2.1 := by decide +kernel
theorem tyX6_ok : ∀ k, k < 10 → parseFieldDescriptor (TX6 k).2.2.1 = some (tyX6 k) := by decide +kernel
def RX7 : String := "PotAndFineModel"
def TX7 : u_T := fun k => match k with
  | 0 => ("PotAndFineModel", "thrown", "I", false)
  | 1 => ("PotAndFineModel", "text", "[I", true)
  | 2 => ("PotAndFineModel", "textSize", "I", false)
  | 3 => ("PotAndFineModel", "place", "I", false)
  | 4 => ("PotAndFineModel", "of", "[I", true)
  | 5 => ("PotAndFineModel", "readOf", "[I", true)
  | 6 => ("PotAndFineModel", "readParts", "I", false)
  | 7 => ("PotAndFineModel", "people", "I", false)
  | 8 => ("PotAndFineModel", "letter", "[I", true)
  | 9 => ("PotAndFineModel", "less", "[I", true)
  | 10 => ("PotAndFineModel", "anger", "[I", true)
  | 11 => ("PotAndFineModel", "readPeople", "I", false)
  | 12 => ("PotAndFineModel", "readLetter", "[I", true)
  | 13 => ("PotAndFineModel", "readLess", "[I", true)
  | 14 => ("PotAndFineModel", "readAnger", "[I", true)
  | 15 => ("PotAndFineModel", "told", "[I", true)
  | 16 => ("PotAndFineModel", "out", "[I", true)
  | 17 => ("PotAndFineModel", "kept", "[I", true)
  | 18 => ("PotAndFineModel", "keptOut", "[I", true)
  | 19 => ("PotAndFineModel", "keptBook", "[I", true)
  | 20 => ("PotAndFineModel", "isKept", "[Z", true)
  | 21 => ("PotAndFineModel", "book", "[I", true)
  | 22 => ("PotAndFineModel", "who", "[I", true)
  | 23 => ("PotAndFineModel", "many", "I", false)
  | 24 => ("PotAndFineModel", "isPlain", "Z", false)
  | 25 => ("PotAndFineModel", "puts", "[I", true)
  | 26 => ("PotAndFineModel", "fines", "[I", true)
  | 27 => ("PotAndFineModel", "holds", "[J", true)
  | 28 => ("PotAndFineModel", "other", "[J", true)
  | 29 => ("PotAndFineModel", "now", "[I", true)
  | _ => ("PotAndFineModel", "pays", "[I", true)
def tyX7 : Nat → FieldType := fun k => match k with
  | 0 => .int
  | 1 => .array .int
  | 2 => .int
  | 3 => .int
  | 4 => .array .int
  | 5 => .array .int
  | 6 => .int
  | 7 => .int
  | 8 => .array .int
  | 9 => .array .int
  | 10 => .array .int
  | 11 => .int
  | 12 => .array .int
  | 13 => .array .int
  | 14 => .array .int
  | 15 => .array .int
  | 16 => .array .int
  | 17 => .array .int
  | 18 => .array .int
  | 19 => .array .int
  | 20 => .array .boolean
  | 21 => .array .int
  | 22 => .array .int
  | 23 => .int
  | 24 => .boolean
  | 25 => .array .int
  | 26 => .array .int
  | 27 => .array .long
  | 28 => .array .long
  | 29 => .array .int
  | _ => .array .int
theorem nmX7 : ∀ a, a < 31 → ∀ b, b < 31 → a ≠ b → (TX7 a).2.1 ≠ (TX7 b).2.1 := by decide +kernel
theorem tyX7_ok : ∀ k, k < 31 → parseFieldDescriptor (TX7 k).2.2.1 = some (tyX7 k) := by decide +kernel
abbrev vwCl : List vw_C := [(RX0, TX0, 1), (RX1, TX1, 10), (RX2, TX2, 7), (RX3, TX3, 4), (RX4, TX4, 7), (RX5, TX5, 5), (RX6, TX6, 10), (RX7, TX7, 31)]
noncomputable def pnms : List (List MethodName) := [[⟨"PotAndFine$Book", "<init>", "()V"⟩, ⟨"PotAndFine$Book", "toldBy", "(III)I"⟩, ⟨"PotAndFine$Book", "countSlips", "(II)I"⟩, ⟨"PotAndFine$Book", "bestSort", "(I)I"⟩, ⟨"PotAndFine$Book", "countSorts", "(II)I"⟩, ⟨"PotAndFine$Book", "sortNumbered", "(I)I"⟩, ⟨"PotAndFine$Book", "meanOfOthers", "(II)I"⟩, ⟨"PotAndFine$Course", "<init>", "(LPotAndFine$Setup;)V"⟩, ⟨"PotAndFine$Course", "runAll", "()V"⟩, ⟨"PotAndFine$Course", "heldByAll", "(I)J"⟩, ⟨"PotAndFine$Course", "gotBy", "(III)J"⟩, ⟨"PotAndFine$Course", "bestPut", "(II)I"⟩, ⟨"PotAndFine$Course", "isAtRest", "(I)Z"⟩, ⟨"PotAndFine$Course", "putAll", "(I)V"⟩, ⟨"PotAndFine$Course", "usualPut", "(II)I"⟩, ⟨"PotAndFine$Course", "meanOfOthersBefore", "(II)I"⟩],
  [⟨"PotAndFine$Course", "paidToFine", "(II)I"⟩, ⟨"PotAndFine$Course", "paidBy", "(II)I"⟩, ⟨"PotAndFine$Course", "lookAt", "(III)V"⟩, ⟨"PotAndFine$Course", "payAll", "(I)V"⟩, ⟨"PotAndFine$Course", "settleAll", "(I)V"⟩, ⟨"PotAndFine$Course", "lossBetween", "(II)I"⟩, ⟨"PotAndFine$Course", "gotFromPot", "(I)J"⟩, ⟨"PotAndFine$Course", "dueFrom", "(III)I"⟩, ⟨"PotAndFine$Course", "byAnger", "(II)I"⟩, ⟨"PotAndFine$Course", "greatestBeside", "(I)I"⟩, ⟨"PotAndFine$Grammar", "<init>", "(Ljava/lang/String;[I[I[IZII)V"⟩, ⟨"PotAndFine$Kept", "<init>", "()V"⟩, ⟨"PotAndFine$Kept", "fillFrom", "(LPotAndFine$Setup;LPotAndFine$Book;)V"⟩, ⟨"PotAndFine$Kept", "giveBack", "(LPotAndFine$Setup;LPotAndFine$Book;)V"⟩, ⟨"PotAndFine$Setup", "<init>", "()V"⟩, ⟨"PotAndFine$Setup", "takeRuleText", "(LPotAndFine$Text;)V"⟩],
  [⟨"PotAndFine$Setup", "takeGroupText", "(LPotAndFine$Text;)V"⟩, ⟨"PotAndFine$Setup", "canBeAngry", "(I)Z"⟩, ⟨"PotAndFine$Setup", "untell", "()V"⟩, ⟨"PotAndFine$Setup", "takeFrom", "(LPotAndFine$Setup;)V"⟩, ⟨"PotAndFine$Setup", "takeSome", "(LPotAndFine$Setup;I)V"⟩, ⟨"PotAndFine$Setup", "isIn", "(II)Z"⟩, ⟨"PotAndFine$Setup", "countIn", "(I)I"⟩, ⟨"PotAndFine$Setup", "canSpare", "(I)Z"⟩, ⟨"PotAndFine$Text", "<init>", "()V"⟩, ⟨"PotAndFine$Text", "append", "(I)V"⟩, ⟨"PotAndFine$Text", "scan", "(LPotAndFine$Grammar;)I"⟩, ⟨"PotAndFine$Text", "wasFound", "(I)Z"⟩, ⟨"PotAndFine$Text", "scanNumber", "(LPotAndFine$Grammar;III)I"⟩, ⟨"PotAndFine", "<init>", "()V"⟩, ⟨"PotAndFine", "write", "(IJ)I"⟩, ⟨"PotAndFine", "wipe", "()I"⟩],
  [⟨"PotAndFine", "fault", "(Z)I"⟩, ⟨"PotAndFine", "rule", "()I"⟩, ⟨"PotAndFine", "group", "()I"⟩, ⟨"PotAndFine", "ruled", "(I)I"⟩, ⟨"PotAndFine", "person", "(II)I"⟩, ⟨"PotAndFine", "tell", "(III)I"⟩, ⟨"PotAndFine", "send", "(II)I"⟩, ⟨"PotAndFine", "fine", "(I)I"⟩, ⟨"PotAndFine", "put", "(II)I"⟩, ⟨"PotAndFine", "paid", "(III)I"⟩, ⟨"PotAndFine", "pot", "(I)I"⟩, ⟨"PotAndFine", "here", "(I)I"⟩, ⟨"PotAndFine", "holds", "(II)J"⟩, ⟨"PotAndFine", "all", "(IZ)J"⟩, ⟨"PotAndFine", "lost", "(II)I"⟩, ⟨"PotAndFine", "fall", "()I"⟩],
  [⟨"PotAndFine", "pays", "()I"⟩, ⟨"PotAndFine", "vote", "(I)I"⟩, ⟨"PotAndFine", "least", "(II)I"⟩, ⟨"PotAndFine", "leader", "()I"⟩, ⟨"PotAndFine", "led", "()J"⟩, ⟨"PotAndFine", "whom", "()I"⟩, ⟨"PotAndFine", "without", "(I)J"⟩, ⟨"PotAndFine", "part", "()I"⟩, ⟨"PotAndFine", "parted", "()J"⟩, ⟨"PotAndFine", "reply", "(II)I"⟩, ⟨"PotAndFine", "gain", "(III)J"⟩, ⟨"PotAndFine", "rest", "(I)I"⟩, ⟨"PotAndFine", "note", "(III)I"⟩, ⟨"PotAndFine", "would", "(III)I"⟩, ⟨"PotAndFine", "slips", "(II)I"⟩, ⟨"PotAndFine", "sort", "(I)I"⟩],
  [⟨"PotAndFine", "sorts", "(II)I"⟩, ⟨"PotAndFine", "copy", "()I"⟩, ⟨"PotAndFine", "keep", "(I)I"⟩, ⟨"PotAndFine", "again", "(I)I"⟩, ⟨"PotAndFine", "count", "(I)I"⟩, ⟨"PotAndFine", "isPerson", "(I)Z"⟩, ⟨"PotAndFine", "isRound", "(I)Z"⟩, ⟨"PotAndFine", "isSlot", "(I)Z"⟩, ⟨"PotAndFine", "isCoinsOrNone", "(I)Z"⟩, ⟨"PotAndFine", "isBookPerson", "(I)Z"⟩, ⟨"PotAndFine", "isBookRound", "(I)Z"⟩, ⟨"PotAndFine", "isSort", "(I)Z"⟩, ⟨"PotAndFine", "placeOf", "(II)I"⟩, ⟨"PotAndFine", "paymentOf", "(III)I"⟩, ⟨"PotAndFine", "bookPlaceOf", "(II)I"⟩, ⟨"PotAndFine", "countTold", "([I)I"⟩],
  [⟨"PotAndFine", "meanOf", "(II)I"⟩, ⟨"PotAndFine", "ran", "()LPotAndFine$Course;"⟩, ⟨"PotAndFine", "ranWithFine", "(I)LPotAndFine$Course;"⟩, ⟨"PotAndFine", "heldIfLedBy", "(I)J"⟩, ⟨"PotAndFine", "heldIfOut", "(I)J"⟩, ⟨"PotAndFine", "canBeHalved", "()Z"⟩, ⟨"PotAndFine", "isHalf", "(I)Z"⟩, ⟨"PotAndFine", "firstHalf", "()I"⟩, ⟨"PotAndFine", "heldByHalves", "(I)J"⟩, ⟨"PotAndFineModel", "<init>", "()V"⟩, ⟨"PotAndFineModel", "in", "(JJJ)Z"⟩, ⟨"PotAndFineModel", "clear", "()V"⟩, ⟨"PotAndFineModel", "noPerson", "(I)Z"⟩, ⟨"PotAndFineModel", "noRound", "(I)Z"⟩, ⟨"PotAndFineModel", "write", "(IJ)I"⟩, ⟨"PotAndFineModel", "wipe", "()I"⟩],
  [⟨"PotAndFineModel", "figure", "(II)I"⟩, ⟨"PotAndFineModel", "two", "(II)I"⟩, ⟨"PotAndFineModel", "readRule", "()I"⟩, ⟨"PotAndFineModel", "kind", "(I)I"⟩, ⟨"PotAndFineModel", "readGroup", "()I"⟩, ⟨"PotAndFineModel", "fault", "(Z)I"⟩, ⟨"PotAndFineModel", "rule", "()I"⟩, ⟨"PotAndFineModel", "group", "()I"⟩, ⟨"PotAndFineModel", "ruled", "(I)I"⟩, ⟨"PotAndFineModel", "person", "(II)I"⟩, ⟨"PotAndFineModel", "tell", "(III)I"⟩, ⟨"PotAndFineModel", "staying", "()I"⟩, ⟨"PotAndFineModel", "send", "(II)I"⟩, ⟨"PotAndFineModel", "fine", "(I)I"⟩, ⟨"PotAndFineModel", "isIn", "(II)Z"⟩, ⟨"PotAndFineModel", "inMany", "(I)I"⟩],
  [⟨"PotAndFineModel", "bound", "(I)I"⟩, ⟨"PotAndFineModel", "meanOf", "(II)I"⟩, ⟨"PotAndFineModel", "taken", "(II)I"⟩, ⟨"PotAndFineModel", "putOf", "(II)I"⟩, ⟨"PotAndFineModel", "layFines", "(I)V"⟩, ⟨"PotAndFineModel", "nine", "(I)I"⟩, ⟨"PotAndFineModel", "layBy", "(III)V"⟩, ⟨"PotAndFineModel", "gets", "(II)J"⟩, ⟨"PotAndFineModel", "run", "()V"⟩, ⟨"PotAndFineModel", "runAll", "()V"⟩, ⟨"PotAndFineModel", "sumAt", "(I)J"⟩, ⟨"PotAndFineModel", "runBoth", "()V"⟩, ⟨"PotAndFineModel", "otherAt", "(I)J"⟩, ⟨"PotAndFineModel", "put", "(II)I"⟩, ⟨"PotAndFineModel", "paid", "(III)I"⟩, ⟨"PotAndFineModel", "potOf", "(I)I"⟩],
  [⟨"PotAndFineModel", "pot", "(I)I"⟩, ⟨"PotAndFineModel", "here", "(I)I"⟩, ⟨"PotAndFineModel", "holds", "(II)J"⟩, ⟨"PotAndFineModel", "all", "(IZ)J"⟩, ⟨"PotAndFineModel", "lost", "(II)I"⟩, ⟨"PotAndFineModel", "fall", "()I"⟩, ⟨"PotAndFineModel", "pays", "()I"⟩, ⟨"PotAndFineModel", "vote", "(I)I"⟩, ⟨"PotAndFineModel", "least", "(II)I"⟩, ⟨"PotAndFineModel", "leadBy", "(I)J"⟩, ⟨"PotAndFineModel", "findLeader", "()I"⟩, ⟨"PotAndFineModel", "leader", "()I"⟩, ⟨"PotAndFineModel", "led", "()J"⟩, ⟨"PotAndFineModel", "isFew", "(I)Z"⟩, ⟨"PotAndFineModel", "withoutOne", "(I)J"⟩, ⟨"PotAndFineModel", "whom", "()I"⟩],
  [⟨"PotAndFineModel", "without", "(I)J"⟩, ⟨"PotAndFineModel", "halfBy", "(I)J"⟩, ⟨"PotAndFineModel", "bits", "(I)I"⟩, ⟨"PotAndFineModel", "partBy", "(I)J"⟩, ⟨"PotAndFineModel", "findPart", "()I"⟩, ⟨"PotAndFineModel", "noHalves", "()Z"⟩, ⟨"PotAndFineModel", "part", "()I"⟩, ⟨"PotAndFineModel", "parted", "()J"⟩, ⟨"PotAndFineModel", "gainBy", "(III)J"⟩, ⟨"PotAndFineModel", "replyOf", "(II)I"⟩, ⟨"PotAndFineModel", "reply", "(II)I"⟩, ⟨"PotAndFineModel", "gain", "(III)J"⟩, ⟨"PotAndFineModel", "rest", "(I)I"⟩, ⟨"PotAndFineModel", "noPlace", "(II)Z"⟩, ⟨"PotAndFineModel", "note", "(III)I"⟩, ⟨"PotAndFineModel", "noSort", "(I)Z"⟩],
  [⟨"PotAndFineModel", "wouldBe", "(III)I"⟩, ⟨"PotAndFineModel", "would", "(III)I"⟩, ⟨"PotAndFineModel", "slipsOf", "(II)I"⟩, ⟨"PotAndFineModel", "slips", "(II)I"⟩, ⟨"PotAndFineModel", "sort", "(I)I"⟩, ⟨"PotAndFineModel", "sorts", "(II)I"⟩, ⟨"PotAndFineModel", "copy", "()I"⟩, ⟨"PotAndFineModel", "toldMany", "()I"⟩, ⟨"PotAndFineModel", "keep", "(I)I"⟩, ⟨"PotAndFineModel", "again", "(I)I"⟩, ⟨"PotAndFineModel", "count", "(I)I"⟩, ⟨"java/lang/String", "indexOf", "(I)I"⟩, ⟨"java/lang/String", "indexOf", "(II)I"⟩, ⟨"java/lang/String", "isLatin1", "()Z"⟩, ⟨"java/lang/String", "length", "()I"⟩, ⟨"java/lang/String", "coder", "()B"⟩],
  [⟨"java/lang/StringLatin1", "canEncode", "(I)Z"⟩, ⟨"java/lang/StringLatin1", "indexOf", "([BIII)I"⟩, ⟨"java/lang/StringLatin1", "indexOfChar", "([BIII)I"⟩, ⟨"java/lang/Integer", "bitCount", "(I)I"⟩, ⟨"java/util/Arrays", "fill", "([II)V"⟩, ⟨"PotAndFineLaw", "law", "([I)Z"⟩]]
noncomputable def pbys : List (List ByteArray) := [[prog_2_method_1_code, prog_2_method_2_code, prog_2_method_3_code, prog_2_method_4_code, prog_2_method_5_code, prog_2_method_6_code, prog_2_method_7_code, prog_3_method_1_code, prog_3_method_2_code, prog_3_method_3_code, prog_3_method_4_code, prog_3_method_5_code, prog_3_method_6_code, prog_3_method_7_code, prog_3_method_8_code, prog_3_method_9_code],
  [prog_3_method_10_code, prog_3_method_11_code, prog_3_method_12_code, prog_3_method_13_code, prog_3_method_14_code, prog_3_method_15_code, prog_3_method_16_code, prog_3_method_17_code, prog_3_method_18_code, prog_3_method_19_code, prog_4_method_1_code, prog_5_method_1_code, prog_5_method_2_code, prog_5_method_3_code, prog_6_method_1_code, prog_6_method_2_code],
  [prog_6_method_3_code, prog_6_method_4_code, prog_6_method_5_code, prog_6_method_6_code, prog_6_method_7_code, prog_6_method_8_code, prog_6_method_9_code, prog_6_method_10_code, prog_7_method_1_code, prog_7_method_2_code, prog_7_method_3_code, prog_7_method_4_code, prog_7_method_5_code, prog_1_method_1_code, prog_1_method_2_code, prog_1_method_3_code],
  [prog_1_method_4_code, prog_1_method_5_code, prog_1_method_6_code, prog_1_method_7_code, prog_1_method_8_code, prog_1_method_9_code, prog_1_method_10_code, prog_1_method_11_code, prog_1_method_12_code, prog_1_method_13_code, prog_1_method_14_code, prog_1_method_15_code, prog_1_method_16_code, prog_1_method_17_code, prog_1_method_18_code, prog_1_method_19_code],
  [prog_1_method_20_code, prog_1_method_21_code, prog_1_method_22_code, prog_1_method_23_code, prog_1_method_24_code, prog_1_method_25_code, prog_1_method_26_code, prog_1_method_27_code, prog_1_method_28_code, prog_1_method_29_code, prog_1_method_30_code, prog_1_method_31_code, prog_1_method_32_code, prog_1_method_33_code, prog_1_method_34_code, prog_1_method_35_code],
  [prog_1_method_36_code, prog_1_method_37_code, prog_1_method_38_code, prog_1_method_39_code, prog_1_method_40_code, prog_1_method_41_code, prog_1_method_42_code, prog_1_method_43_code, prog_1_method_44_code, prog_1_method_45_code, prog_1_method_46_code, prog_1_method_47_code, prog_1_method_48_code, prog_1_method_49_code, prog_1_method_50_code, prog_1_method_51_code],
  [prog_1_method_52_code, prog_1_method_53_code, prog_1_method_54_code, prog_1_method_55_code, prog_1_method_56_code, prog_1_method_57_code, prog_1_method_58_code, prog_1_method_59_code, prog_1_method_60_code, prog_9_method_1_code, prog_9_method_3_code, prog_9_method_4_code, prog_9_method_5_code, prog_9_method_6_code, prog_9_method_7_code, prog_9_method_8_code],
  [prog_9_method_9_code, prog_9_method_10_code, prog_9_method_11_code, prog_9_method_12_code, prog_9_method_13_code, prog_9_method_14_code, prog_9_method_15_code, prog_9_method_16_code, prog_9_method_17_code, prog_9_method_18_code, prog_9_method_19_code, prog_9_method_20_code, prog_9_method_21_code, prog_9_method_22_code, prog_9_method_23_code, prog_9_method_24_code],
  [prog_9_method_25_code, prog_9_method_26_code, prog_9_method_27_code, prog_9_method_28_code, prog_9_method_29_code, prog_9_method_30_code, prog_9_method_31_code, prog_9_method_32_code, prog_9_method_33_code, prog_9_method_34_code, prog_9_method_35_code, prog_9_method_36_code, prog_9_method_37_code, prog_9_method_38_code, prog_9_method_39_code, prog_9_method_40_code],
  [prog_9_method_41_code, prog_9_method_42_code, prog_9_method_43_code, prog_9_method_44_code, prog_9_method_45_code, prog_9_method_46_code, prog_9_method_47_code, prog_9_method_48_code, prog_9_method_49_code, prog_9_method_50_code, prog_9_method_51_code, prog_9_method_52_code, prog_9_method_53_code, prog_9_method_54_code, prog_9_method_55_code, prog_9_method_56_code],
  [prog_9_method_57_code, prog_9_method_58_code, prog_9_method_59_code, prog_9_method_60_code, prog_9_method_61_code, prog_9_method_62_code, prog_9_method_63_code, prog_9_method_64_code, prog_9_method_65_code, prog_9_method_66_code, prog_9_method_67_code, prog_9_method_68_code, prog_9_method_69_code, prog_9_method_70_code, prog_9_method_71_code, prog_9_method_72_code],
  [prog_9_method_73_code, prog_9_method_74_code, prog_9_method_75_code, prog_9_method_76_code, prog_9_method_77_code, prog_9_method_78_code, prog_9_method_79_code, prog_9_method_80_code, prog_9_method_81_code, prog_9_method_82_code, prog_9_method_83_code, prog_13_method_79_code, prog_13_method_80_code, prog_13_method_154_code, prog_13_method_54_code, prog_13_method_152_code],
  [prog_14_method_4_code, prog_14_method_22_code, prog_14_method_23_code, prog_11_method_49_code, prog_17_method_103_code, code]]
noncomputable def prts : List (List (Option FieldType)) := [[none, some .int, some .int, some .int, some .int, some .int, some .int, none, none, some .long, some .long, some .int, some .boolean, none, some .int, some .int],
  [some .int, some .int, none, none, none, some .int, some .long, some .int, some .int, some .int, none, none, none, none, none, none],
  [none, some .boolean, none, none, none, some .boolean, some .int, some .boolean, none, none, some .int, some .boolean, some .int, none, some .int, some .int],
  [some .int, some .int, some .int, some .int, some .int, some .int, some .int, some .int, some .int, some .int, some .int, some .int, some .long, some .long, some .int, some .int],
  [some .int, some .int, some .int, some .int, some .long, some .int, some .long, some .int, some .long, some .int, some .long, some .int, some .int, some .int, some .int, some .int],
  [some .int, some .int, some .int, some .int, some .int, some .boolean, some .boolean, some .boolean, some .boolean, some .boolean, some .boolean, some .boolean, some .int, some .int, some .int, some .int],
  [some .int, some (.object "PotAndFine$Course"), some (.object "PotAndFine$Course"), some .long, some .long, some .boolean, some .boolean, some .int, some .long, none, some .boolean, none, some .boolean, some .boolean, some .int, some .int],
  [some .int, some .int, some .int, some .int, some .int, some .int, some .int, some .int, some .int, some .int, some .int, some .int, some .int, some .int, some .boolean, some .int],
  [some .int, some .int, some .int, some .int, none, some .int, none, some .long, none, none, some .long, none, some .long, some .int, some .int, some .int],
  [some .int, some .int, some .long, some .long, some .int, some .int, some .int, some .int, some .int, some .long, some .int, some .int, some .long, some .boolean, some .long, some .int],
  [some .long, some .long, some .int, some .long, some .int, some .boolean, some .int, some .long, some .long, some .int, some .int, some .long, some .int, some .boolean, some .int, some .boolean],
  [some .int, some .int, some .int, some .int, some .int, some .int, some .int, some .int, some .int, some .int, some .int, some .int, some .int, some .boolean, some .int, some .byte],
  [some .boolean, some .int, some .int, some .int, none, some .boolean]]
noncomputable def pnm (y : Nat) : MethodName := mNth ⟨"", "", ""⟩ (mNth [] pnms (y / 16)) (y % 16)
noncomputable def pby (y : Nat) : ByteArray := mNth ⟨#[]⟩ (mNth [] pbys (y / 16)) (y % 16)
noncomputable def prt (y : Nat) : Option FieldType := mNth none (mNth [] prts (y / 16)) (y % 16)
noncomputable def pp_0 : List (List Nat) := [[0, 1, 4, 5, 7, 9, 12, 13, 16, 18, 21]]
noncomputable def ph_0 : List (List (List Nat)) := [[[], [263, 84, 85], [], [], [113], [265], [], [265], [], [264, 176], []]]
noncomputable def pp_1 : List (List Nat) := [[0, 1, 3, 4, 6, 7, 9, 10, 12, 14, 15, 18, 20, 21, 22, 23, 26, 28, 29, 31, 32, 35, 36, 37, 38, 39, 40, 43, 46, 47, 50, 51], [52, 53, 54, 57, 58, 60, 62, 64, 67, 69, 72, 73, 75, 77, 78, 81]]
noncomputable def ph_1 : List (List (List Nat)) := [[[], [], [], [], [], [], [], [], [], [], [], [], [], [], [], [], [], [], [], [], [], [], [], [], [], [], [751, 753, 24], [], [], [265], [], []], [[], [], [738], [], [], [], [], [], [], [], [], [], [], [], [757, 372, 73, 373], []]]
noncomputable def pp_2 : List (List Nat) := [[0, 1, 2, 3, 5, 7, 9, 12, 13, 16, 17, 19, 22, 23, 25, 26, 27, 28, 30, 33, 35, 37, 39, 42, 44, 46, 49, 51, 53, 56, 59, 62], [65, 66]]
noncomputable def ph_2 : List (List (List Nat)) := [[[], [], [], [], [], [], [], [], [265], [], [], [738], [], [], [], [], [], [], [766, 748, 749], [], [], [], [], [], [], [], [], [], [], [], [], []], [[], []]]
noncomputable def pp_3 : List (List Nat) := [[0, 1, 2, 3, 4, 5, 8, 9, 10, 12, 14, 16, 19, 20, 22, 25, 26, 29, 31, 33, 34, 37, 39, 42, 43, 45, 46, 49, 52, 53]]
noncomputable def ph_3 : List (List (List Nat)) := [[[], [], [], [], [], [775, 763, 764], [], [], [], [], [], [], [], [], [776, 777], [], [775, 763, 764], [], [], [], [], [], [776, 777], [], [], [], [], [], [], []]]
noncomputable def pp_4 : List (List Nat) := [[0, 1, 2, 3, 5, 7, 9, 12, 13, 15, 18, 19, 22, 23, 26, 29, 32, 35, 36]]
noncomputable def ph_4 : List (List (List Nat)) := [[[], [], [], [], [], [], [], [], [], [776, 777], [], [775, 763, 764], [], [], [], [], [], [], []]]
noncomputable def pp_5 : List (List Nat) := [[0, 1, 2, 5, 6, 7, 8, 10, 13, 15, 16, 17, 18, 19, 20, 21, 23, 26, 29, 30, 31, 33, 34, 37, 40, 41, 42, 44, 45]]
noncomputable def ph_5 : List (List (List Nat)) := [[[], [], [], [], [], [], [], [], [], [], [], [], [], [], [], [], [], [], [], [], [], [], [], [], [], [], [], [], []]]
noncomputable def pp_6 : List (List Nat) := [[0, 1, 2, 3, 5, 6, 8, 10, 12, 15, 16, 19, 21, 22, 25, 26, 28, 30, 31, 34, 36, 38, 41, 42, 44, 45, 46, 49, 52, 55, 57, 60], [61, 63, 66, 69, 71]]
noncomputable def ph_6 : List (List (List Nat)) := [[[], [], [], [], [], [], [], [], [], [], [265], [], [], [738], [], [], [], [], [], [], [], [], [], [], [], [], [], [], [], [], [], []], [[], [532], [], [], []]]
noncomputable def pp_7 : List (List Nat) := [[0, 1, 4, 5, 8, 10, 13, 14, 17, 19, 22, 23, 26, 28, 31, 32, 35, 37, 40, 41, 43, 45, 48, 49, 51, 53, 56, 57, 58, 61, 62, 63], [66, 67, 68, 71, 72, 73, 76]]
noncomputable def ph_7 : List (List (List Nat)) := [[[], [220, 84, 85], [], [], [113], [222], [], [], [113], [224], [], [], [113], [226], [], [], [257], [228], [], [], [113], [230], [], [], [113], [232], [], [], [233], [], [], [234]], [[], [], [235], [], [], [221], []]]
noncomputable def pp_8 : List (List Nat) := [[0, 1, 2, 3, 5, 8, 9, 10, 13, 14, 15, 17, 18, 21, 22, 25, 26, 27, 30, 31, 32, 33, 36, 37, 38, 41, 44, 47]]
noncomputable def ph_8 : List (List (List Nat)) := [[[], [], [], [], [], [], [], [517, 519, 4], [], [], [], [], [543, 545, 8], [], [230], [], [], [233], [], [], [], [547, 549, 9], [], [], [563, 565, 13], [], [], []]]
noncomputable def pp_9 : List (List Nat) := [[0, 1, 2, 3, 5, 7, 8, 11, 14, 17, 18, 19, 22, 24, 25, 28, 29, 30, 31, 34, 37, 38]]
noncomputable def ph_9 : List (List (List Nat)) := [[[], [], [], [], [], [], [221], [182], [], [], [], [228], [], [], [483], [], [], [], [], [], [], []]]
noncomputable def pp_10 : List (List Nat) := [[0, 1, 2, 3, 4, 7, 8, 10, 11, 13, 15, 16, 19, 22, 25, 27, 28, 29, 30, 32, 33, 36, 37, 39, 40, 41, 44, 47, 48, 49, 51, 54], [57, 58, 59, 62, 65, 67, 68, 69]]
noncomputable def ph_10 : List (List (List Nat)) := [[[], [], [], [], [543, 545, 8], [], [], [], [], [], [], [221], [182], [], [], [], [], [], [], [], [551, 553, 10], [], [], [], [], [551, 553, 10], [571, 573, 15], [], [], [], [], []], [[], [], [575, 577, 16], [579], [], [], [], []]]
noncomputable def pp_11 : List (List Nat) := [[0, 1, 2, 3, 4, 5, 6, 9, 11, 12, 14, 16, 17, 20, 23, 24, 25, 28, 29, 30, 31, 33, 36, 38, 40, 42, 43, 46, 48, 49, 51, 53], [56, 59, 60]]
noncomputable def ph_11 : List (List (List Nat)) := [[[], [], [], [], [], [], [708, 709, 710], [], [], [], [], [], [221], [179], [], [], [], [], [], [], [], [708, 709, 710], [], [], [], [], [], [], [], [], [], []], [[], [], []]]
noncomputable def pp_12 : List (List Nat) := [[0, 1, 2, 3, 4, 7, 10, 13, 14, 17, 18, 19, 22, 25, 26, 27, 28, 29, 30, 31, 34, 37, 38, 39, 40, 41, 42, 43, 46, 47, 48, 51], [52, 55, 56, 59, 60, 61, 64, 67, 68]]
noncomputable def ph_12 : List (List (List Nat)) := [[[], [], [], [], [221], [182], [], [], [221], [], [], [521, 498, 499], [], [], [], [], [], [], [], [726, 705, 706], [708, 709, 710], [], [], [], [], [], [], [222], [], [], [483], []], [[708, 709, 710], [], [], [], [], [], [], [], []]]
noncomputable def pp_13 : List (List Nat) := [[0, 1, 2, 3, 4, 7, 10, 13, 15, 16, 17, 20, 21, 22, 25, 28, 29, 32, 35, 36, 37, 40, 41, 43, 45, 47, 50, 51, 52, 53, 56, 59], [61, 63, 64, 66, 67, 70, 73, 74, 75, 78, 81, 82, 83, 86, 87, 88, 91, 92, 93, 96, 99]]
noncomputable def ph_13 : List (List (List Nat)) := [[[], [], [], [], [221], [182], [], [], [], [], [221], [], [], [521, 498, 499], [], [], [221], [195], [], [], [483], [], [], [], [], [], [], [], [], [523, 525, 5], [], []], [[], [], [], [], [221], [179], [], [], [541, 375, 73, 376], [542, 372, 73, 373], [], [], [222], [], [], [483], [], [], [], [], []]]
noncomputable def pp_14 : List (List Nat) := [[0, 1, 4, 7, 8, 9, 10, 11, 14, 15, 18, 21, 22, 23, 24, 25, 26, 29, 30, 31, 32, 33, 36, 37, 40, 43, 44, 45, 46, 47, 48, 49], [51, 54, 55, 56, 57, 60, 61, 64, 67, 68, 69, 70, 71, 72, 75, 76, 77, 78, 79, 82, 83, 85, 86, 89, 92, 93, 94, 95, 96, 97, 98, 99], [102, 103, 105, 107, 110, 112, 114, 115, 118, 120, 121, 124, 127, 128, 129, 130]]
noncomputable def ph_14 : List (List (List Nat)) := [[[], [221], [185], [], [], [], [], [], [], [221], [188], [], [], [], [], [], [], [], [], [], [], [], [], [221], [179], [], [], [], [], [], [], []], [[], [], [], [], [527, 529, 6], [], [221], [188], [], [], [], [], [], [222], [], [], [], [], [483], [], [], [], [221], [179], [], [], [], [], [], [], [], [534, 536, 7]], [[], [], [], [], [], [], [], [], [], [], [221], [188], [], [], [], []]]
noncomputable def pp_15 : List (List Nat) := [[0, 1, 2, 3, 5, 6, 8, 10, 11, 14, 17, 20, 22, 23, 26, 27, 30, 32, 33, 36, 39, 40, 41, 44, 46, 47, 48, 49, 52, 53, 54, 55], [58, 61, 64, 65, 67, 70]]
noncomputable def ph_15 : List (List (List Nat)) := [[[], [], [], [], [], [], [], [], [221], [182], [], [], [], [], [], [221], [], [], [521, 498, 499], [], [], [], [222], [], [], [], [], [483], [], [], [], []], [[], [], [], [], [532], []]]
noncomputable def pp_16 : List (List Nat) := [[0, 1, 2, 3, 5, 7, 8, 11, 14, 17, 18, 19, 22, 24, 25, 26, 29, 30, 31, 32, 35, 38, 39]]
noncomputable def ph_16 : List (List (List Nat)) := [[[], [], [], [], [], [], [221], [182], [], [], [], [224], [], [], [], [539], [], [], [], [], [], [], []]]
noncomputable def pp_17 : List (List Nat) := [[0, 1, 2, 3, 5, 7, 8, 11, 14, 17, 18, 19, 22, 23, 25, 26, 29, 30, 31, 32, 35, 38, 39]]
noncomputable def ph_17 : List (List (List Nat)) := [[[], [], [], [], [], [], [221], [182], [], [], [], [224], [], [], [], [539], [], [], [], [], [], [], []]]
noncomputable def pp_18 : List (List Nat) := [[0, 1, 2, 5, 6, 7, 10, 11, 13, 15, 16, 19, 22, 25, 26, 29, 31, 33, 34, 37, 38, 41, 42, 45, 47, 48, 51, 52, 53, 54, 57, 59], [60, 62, 65, 66, 67, 70, 71, 74, 76, 77, 78, 81, 82, 83, 86, 87, 88, 91, 94, 97, 98, 99, 102, 103, 106, 109, 112]]
noncomputable def ph_18 : List (List (List Nat)) := [[[], [], [233], [], [], [234], [], [], [], [], [221], [182], [], [], [232], [], [], [], [], [], [], [], [222], [], [], [483], [], [], [], [232], [], []], [[], [], [], [], [233], [], [232], [], [], [], [233], [], [], [234], [], [], [234], [], [], [], [], [233], [], [234], [532], [235], []]]
noncomputable def pp_19 : List (List Nat) := [[0, 1, 2, 3, 4, 7, 10, 13, 14, 15, 16, 17, 20, 23, 26, 27, 30, 31, 32, 33, 36, 37, 38, 39, 40, 43, 44, 47, 50, 53, 56]]
noncomputable def ph_19 : List (List (List Nat)) := [[[], [], [], [], [221], [182], [], [], [], [], [], [221], [182], [], [], [224], [], [], [], [539], [], [], [], [], [551, 553, 10], [], [], [], [], [], []]]
noncomputable def pp_20 : List (List Nat) := [[0, 1, 2, 3, 4, 7, 10, 13, 14, 15, 18, 19, 20, 22, 23, 25, 26, 29, 30, 31, 33, 36, 37, 38, 39, 40, 43, 44, 45, 46, 49, 52], [54, 55, 56, 59, 62, 64, 65, 66, 67, 69, 70, 73, 74, 76, 77, 80, 81, 84, 85, 86, 87, 88, 91, 92, 95, 96, 97, 98, 99, 102, 103, 105], [106, 109, 110, 113, 114, 115, 116, 117, 120, 121, 124, 125, 126, 127, 130, 133]]
noncomputable def ph_20 : List (List (List Nat)) := [[[], [], [], [], [221], [182], [], [], [], [483], [], [], [], [], [], [], [232], [], [], [], [], [], [], [], [], [567, 569, 14], [], [], [], [534, 536, 7], [571, 573, 15], []], [[], [], [575, 577, 16], [579], [], [], [], [], [], [], [228], [], [], [], [], [], [228], [], [], [], [], [483], [], [], [], [], [], [], [226], [], [], []], [[], [], [226], [], [], [], [], [483], [], [], [], [], [], [], [], []]]
noncomputable def pp_21 : List (List Nat) := [[0, 1, 4, 7, 8, 9, 10, 11, 12, 15, 18, 19, 20, 21, 22, 23]]
noncomputable def ph_21 : List (List (List Nat)) := [[[], [221], [179], [], [], [], [], [], [221], [179], [], [], [], [], [], []]]
noncomputable def pp_22 : List (List Nat) := [[0, 1, 4, 7, 8, 9, 10, 13, 14, 15, 16, 17, 18, 21, 22, 25, 28, 29, 30, 31, 33, 34, 35, 38, 41, 42, 45, 46, 47, 48, 49, 50], [51]]
noncomputable def ph_22 : List (List (List Nat)) := [[[], [221], [179], [], [], [], [232], [], [], [], [], [], [233], [], [221], [179], [], [], [], [], [], [], [234], [532], [], [579], [], [], [], [], [], []], [[]]]
noncomputable def pp_23 : List (List Nat) := [[0, 1, 4, 7, 8, 9, 12, 13, 14, 17, 18, 21, 22, 23, 25, 28, 29, 32, 33, 34, 36, 39, 40, 41, 42, 45, 48, 49, 50, 76, 77, 78], [79, 82, 83, 86, 87, 88, 89, 92, 93, 94, 95, 96, 99, 102, 103, 104, 105, 108, 109, 110, 111, 114, 115, 118, 121, 122, 123, 124, 127, 128, 131, 132], [133, 134, 135, 136, 139, 140, 143, 144, 146, 148, 149, 150, 151, 154, 155, 158, 159, 160, 161, 164, 166, 167, 170, 171, 172]]
noncomputable def ph_23 : List (List (List Nat)) := [[[], [221], [179], [], [], [], [], [], [], [], [232], [], [], [], [], [], [232], [], [], [], [], [], [], [], [221], [185], [], [], [], [], [], []], [[235], [], [232], [], [], [], [555, 557, 11], [], [], [], [], [559, 561, 12], [], [], [], [], [232], [], [], [], [235], [], [555, 557, 11], [], [], [], [], [], [], [224], [], []], [[], [], [], [539], [], [], [], [], [], [], [], [], [235], [], [232], [], [], [], [555, 557, 11], [], [], [541, 375, 73, 376], [], [], []]]
noncomputable def pp_24 : List (List Nat) := [[0, 1, 4, 6, 7, 8, 11, 14, 15, 16, 17, 19, 20, 23, 26, 27]]
noncomputable def ph_24 : List (List (List Nat)) := [[[], [], [], [], [], [221], [192], [], [], [], [], [], [541, 375, 73, 376], [], [], []]]
noncomputable def pp_25 : List (List Nat) := [[0, 2, 3, 4, 5, 6, 7, 10, 13, 16, 17, 18, 21, 22, 25, 26, 27, 29, 32, 33, 35, 38, 39, 42, 43, 44, 45, 48, 49, 50, 53, 54], [55, 58, 61, 62]]
noncomputable def ph_25 : List (List (List Nat)) := [[[], [], [], [], [], [], [221], [182], [], [], [], [], [], [232], [], [], [], [], [], [], [], [], [232], [], [], [], [232], [], [], [], [], []], [[], [], [], []]]
noncomputable def pp_26 : List (List Nat) := [[0, 1, 4, 5, 6, 9, 10, 11, 14, 15, 16, 19, 20, 22, 25, 26, 28, 31, 32, 34, 37, 38, 40, 43]]
noncomputable def ph_26 : List (List (List Nat)) := [[[], [126, 84, 85], [], [], [127], [], [], [129], [], [], [131], [], [], [133], [], [], [135], [], [], [137], [], [], [139], []]]
noncomputable def pp_27 : List (List Nat) := [[0, 1, 4, 5, 9, 10, 13, 15, 18, 19, 21, 23, 26, 27, 29, 31, 34]]
noncomputable def ph_27 : List (List (List Nat)) := [[[], [277, 84, 85], [], [278], [], [], [113], [280], [], [], [113], [281], [], [], [113], [282], []]]
noncomputable def pp_28 : List (List Nat) := [[0, 1, 4, 5, 6, 9, 10, 11, 14, 15, 18, 19, 22, 23, 24, 27, 28, 29, 32, 33, 36, 37, 40, 41, 42, 45, 46, 47, 50, 51, 54, 55], [59]]
noncomputable def ph_28 : List (List (List Nat)) := [[[], [194], [], [], [280], [], [], [280], [], [806, 174, 173, 65], [], [198], [], [], [281], [], [], [281], [], [806, 174, 173, 65], [], [266], [], [], [282], [], [], [282], [], [806, 174, 173, 65], [], [278]], [[]]]
noncomputable def pp_29 : List (List Nat) := [[0, 1, 4, 5, 6, 9, 10, 11, 14, 15, 18, 19, 22, 23, 24, 27, 28, 29, 32, 33, 36, 37, 40, 41, 42, 45, 46, 47, 50, 51, 54]]
noncomputable def ph_29 : List (List (List Nat)) := [[[], [280], [], [], [194], [], [], [280], [], [806, 174, 173, 65], [], [281], [], [], [198], [], [], [281], [], [806, 174, 173, 65], [], [282], [], [], [266], [], [], [282], [], [806, 174, 173, 65], []]]
noncomputable def pp_30 : List (List Nat) := [[0, 1, 4, 5, 6, 8, 11, 12, 13, 16, 17, 19, 21, 24, 25, 27, 29, 32, 33, 35, 37, 40, 41, 44, 46, 49, 50, 52, 54, 57, 60, 61], [62, 65, 66, 67, 70, 71, 74, 75, 78, 79, 82, 84, 87, 88, 91, 93, 96]]
noncomputable def ph_30 : List (List (List Nat)) := [[[], [169, 84, 85], [], [], [113], [178], [], [], [181], [], [], [113], [184], [], [], [113], [187], [], [], [113], [190], [], [], [113], [193], [], [], [113], [197], [], [], []], [[178], [], [], [172, 174, 173, 65], [], [184], [], [175, 176], [], [193], [], [175, 176], [], [197], [], [175, 176], []]]
noncomputable def pp_31 : List (List Nat) := [[0, 3, 4, 5, 8, 9, 10, 13, 14, 15, 16, 17, 20, 23, 24, 27, 28, 31, 32, 33, 34, 37, 38, 39, 40, 43, 46]]
noncomputable def ph_31 : List (List (List Nat)) := [[[], [], [], [178], [], [], [172, 174, 173, 65], [], [], [], [], [100], [], [], [178], [], [96], [], [], [], [98], [], [], [], [], [], []]]
noncomputable def pp_32 : List (List Nat) := [[0, 1, 2, 5, 8, 9, 10, 11, 12, 15, 18, 19, 22, 23, 24, 25, 26, 29, 30, 31, 34, 35, 36, 37, 38, 41, 42, 43, 46, 48, 49, 52], [53, 55, 58, 59, 61, 62, 65, 66, 67, 68, 71, 72, 74, 77, 78, 80, 81, 84, 85, 86, 89, 92]]
noncomputable def ph_32 : List (List (List Nat)) := [[[], [], [100], [181], [], [], [], [], [181], [], [], [98], [], [], [], [], [184], [], [], [96], [], [], [], [], [184], [], [], [453, 454], [], [], [187], []], [[], [], [], [], [], [], [], [], [], [190], [], [], [], [], [], [], [], [], [], [], [], []]]
noncomputable def pp_33 : List (List Nat) := [[0, 1, 2, 5, 6, 7, 10, 11, 12, 15, 16, 19, 20]]
noncomputable def ph_33 : List (List (List Nat)) := [[[], [], [], [], [], [], [], [], [], [], [], [], []]]
noncomputable def pp_34 : List (List Nat) := [[0, 1, 4, 6, 9, 10, 13, 15, 18]]
noncomputable def ph_34 : List (List (List Nat)) := [[[], [193], [], [175, 176], [], [197], [], [175, 176], []]]
noncomputable def pp_35 : List (List Nat) := [[0, 1, 4, 5, 6, 9, 10, 11, 14, 15, 18, 19, 20, 23, 24, 26, 29, 30, 33, 34, 35, 38, 39, 41, 44, 45, 48, 49, 50, 53, 54, 56], [59, 60, 63, 64, 65, 68, 69, 70, 73, 74, 77, 78, 81, 82, 83, 86, 87, 89, 92, 93, 94, 97, 100]]
noncomputable def ph_35 : List (List (List Nat)) := [[[], [178], [], [], [178], [], [], [172, 174, 173, 65], [], [184], [], [], [184], [], [], [172, 174, 173, 65], [], [187], [], [], [187], [], [], [172, 174, 173, 65], [], [190], [], [], [190], [], [], [172, 174, 173, 65]], [[], [193], [], [], [193], [], [], [193], [], [172, 174, 173, 65], [], [197], [], [], [197], [], [], [172, 174, 173, 65], [], [], [181], [181], []]]
noncomputable def pp_36 : List (List Nat) := [[0, 1, 4, 5, 6, 9, 10, 11, 14, 15, 18, 19, 20, 23, 24, 25, 26, 27, 30, 33, 34, 35, 36, 37, 38, 39, 42, 43, 46, 47, 50, 51], [54, 55, 56, 57, 58, 61, 62, 65, 66, 69, 70, 71, 72, 73, 76, 77, 80, 81, 84, 85, 86, 87, 88, 89, 92, 93, 94, 97, 100, 103]]
noncomputable def ph_36 : List (List (List Nat)) := [[[], [178], [], [], [178], [], [], [172, 174, 173, 65], [], [684, 457, 458], [], [], [181], [], [], [], [], [181], [], [], [], [], [], [], [], [], [], [184], [], [181], [], [184]], [[], [], [], [], [187], [], [181], [], [187], [], [], [], [], [190], [], [181], [], [190], [], [], [], [], [], [181], [], [], [181], [], [], []]]
noncomputable def pp_37 : List (List Nat) := [[0, 1, 2, 5, 6, 7, 10, 11, 14, 15]]
noncomputable def ph_37 : List (List (List Nat)) := [[[], [], [197], [], [], [], [], [], [], []]]
noncomputable def pp_38 : List (List Nat) := [[0, 1, 2, 3, 4, 5, 6, 9, 12, 13, 14, 15, 18, 21, 24, 27, 30, 31]]
noncomputable def ph_38 : List (List (List Nat)) := [[[], [], [], [], [], [], [181], [], [], [], [], [497, 498, 499], [], [], [], [], [], []]]
noncomputable def pp_39 : List (List Nat) := [[0, 1, 3, 6, 7, 8, 10, 13, 16, 17, 20, 21, 22, 23, 24, 25, 28, 29, 32, 33]]
noncomputable def ph_39 : List (List (List Nat)) := [[[], [], [493, 494, 495], [], [], [], [497, 498, 499], [], [], [], [], [], [], [], [], [], [], [], [], []]]
noncomputable def pp_40 : List (List Nat) := [[0, 1, 4, 5, 7, 9, 12, 13, 14, 17, 18, 20, 22, 25, 26, 28, 30, 33, 34, 35, 38]]
noncomputable def ph_40 : List (List (List Nat)) := [[[], [91, 84, 85], [], [], [113], [92], [], [], [93], [], [], [113], [95], [], [], [113], [97], [], [], [99], []]]
noncomputable def pp_41 : List (List Nat) := [[0, 1, 4, 6, 9, 10, 13, 14, 17, 18, 19, 20, 21, 24, 25, 26, 29]]
noncomputable def ph_41 : List (List (List Nat)) := [[[], [93], [], [], [], [92], [], [93], [], [], [], [], [93], [], [], [93], []]]
noncomputable def pp_42 : List (List Nat) := [[0, 1, 2, 5, 6, 7, 8, 9, 10, 11, 14, 17, 18, 19, 22, 25, 26, 29, 30, 33, 34, 35, 36, 39, 41, 42, 43, 46, 49, 51, 54, 55], [58, 61, 62, 64, 67, 70, 71, 72, 73, 74, 76, 77, 78, 79, 80, 83, 85, 87, 89, 92, 94, 95, 96, 99, 100, 102, 103, 104, 105, 106, 107, 110], [111, 112, 113, 116, 118, 119, 120, 121, 122, 125, 128, 129, 132, 133, 136, 139, 140, 143, 146, 148]]
noncomputable def ph_42 : List (List (List Nat)) := [[[], [], [99], [], [], [], [], [], [], [140], [], [], [], [93], [], [], [128], [], [92], [], [], [], [343, 344, 345], [], [], [], [140], [], [], [], [], [136]], [[], [], [], [429, 431, 0], [], [], [], [], [], [], [], [], [], [], [433, 435, 1], [], [], [], [], [], [], [], [95], [], [], [], [], [], [], [], [99], []], [[], [], [130], [], [], [], [], [], [], [], [], [99], [], [138], [], [], [93], [], [], []]]
noncomputable def pp_43 : List (List Nat) := [[0, 1, 2, 3, 4, 7, 10, 11, 14, 15, 16, 17, 20, 21, 22, 25, 28, 29]]
noncomputable def ph_43 : List (List (List Nat)) := [[[], [], [], [], [99], [], [], [95], [], [], [], [], [], [], [], [], [], []]]
noncomputable def pp_44 : List (List Nat) := [[0, 1, 4, 5, 6, 8, 9, 11, 12, 14, 16, 18, 21, 22, 24, 25, 27, 29, 30, 33, 36, 37, 40, 41, 42, 45, 47, 48, 50, 51, 53, 55], [58, 60, 62, 65, 67, 68, 70, 72, 73, 75, 76, 78, 80, 81, 82, 84, 87, 89, 92, 93, 95, 97, 99, 100, 101, 104, 105, 106, 109, 111, 113, 114], [116, 117, 118, 119, 120, 123, 124, 125, 128, 130, 131, 134, 137, 138, 141, 143, 145, 146, 148]]
noncomputable def ph_44 : List (List (List Nat)) := [[[], [130], [], [], [], [], [], [], [], [], [], [], [], [], [], [], [], [], [93], [], [], [93], [], [], [92], [], [], [], [], [], [], []], [[], [], [], [], [], [], [], [], [], [], [], [], [], [], [], [], [], [], [], [], [], [], [], [], [134], [], [], [], [], [], [], []], [[], [], [], [], [132], [], [], [], [], [], [], [], [], [97], [], [], [], [], []]]
noncomputable def pp_45 : List (List Nat) := [[0, 1, 4, 5, 8, 9, 12, 15, 16, 19, 20, 22, 25, 28, 31, 32, 33, 34, 37, 40, 41, 44, 45, 47, 50, 53, 56, 57, 58, 60, 63, 66], [67, 70, 71, 74, 77, 78, 81, 82, 83, 86, 89, 92, 93, 96, 97, 100, 103, 104, 107, 108, 109, 112, 115, 118, 119, 122, 123, 126, 129, 130, 131, 134], [137, 138, 142, 143, 144, 145, 146, 149, 150, 153, 154, 157, 158, 161, 162, 165, 168]]
noncomputable def ph_45 : List (List (List Nat)) := [[[], [83, 84, 85], [], [86, 87, 62], [], [89], [292], [], [114, 115, 63], [], [], [117], [119], [121], [], [], [], [123, 124], [293], [], [114, 115, 63], [], [], [158], [160], [162], [], [], [], [123, 124], [294], []], [[164, 165, 64], [], [166, 167], [295], [], [215, 216, 67], [], [], [295], [217, 218], [296], [], [164, 165, 64], [], [166, 167], [297], [], [215, 216, 67], [], [], [297], [217, 218], [298], [], [258, 259, 68], [], [260, 261], [299], [], [], [271], [300]], [[], [301], [], [], [], [], [], [], [300], [], [271, 273, 69], [], [275], [], [], [], []]]
noncomputable def pp_46 : List (List Nat) := [[0, 1, 2, 5, 6, 8, 11, 13, 14, 15, 18, 21, 22, 23, 25, 28, 30, 31, 32, 33, 34, 36, 38, 41, 42, 45, 46, 48, 50, 51, 52, 53], [56, 57, 60, 63, 66, 67, 70, 73]]
noncomputable def ph_46 : List (List (List Nat)) := [[[], [], [], [], [], [], [], [], [], [292], [94], [], [], [], [], [], [], [], [], [], [], [], [], [], [292], [], [], [], [], [], [], []], [[], [327, 328, 329], [], [], [], [292], [94], []]]
noncomputable def pp_47 : List (List Nat) := [[0, 1, 4, 7, 8, 9, 12, 13, 16, 17]]
noncomputable def ph_47 : List (List (List Nat)) := [[[], [292], [94], [], [], [292], [], [94], [], []]]
noncomputable def pp_48 : List (List Nat) := [[0, 1, 4, 5, 8, 9, 12, 15, 16, 19, 22]]
noncomputable def ph_48 : List (List (List Nat)) := [[[], [292], [], [], [], [294], [], [], [293], [339, 340, 341], []]]
noncomputable def pp_49 : List (List Nat) := [[0, 1, 4, 5, 8, 11, 13, 16, 18, 19, 20, 23, 24, 27, 30, 31, 35, 36, 39, 42]]
noncomputable def ph_49 : List (List (List Nat)) := [[[], [292], [], [293], [339, 340, 341], [], [], [], [], [], [295], [], [292], [441, 442, 443], [], [301], [], [292], [101], []]]
noncomputable def pp_50 : List (List Nat) := [[0, 1, 4, 5, 8, 11, 13, 16, 18, 19, 20, 23, 24, 27, 30, 31, 34, 37, 38, 39, 40, 41, 44, 45, 48, 49, 50, 54, 57, 60, 61, 65], [66, 69, 72]]
noncomputable def ph_50 : List (List (List Nat)) := [[[], [292], [], [294], [339, 340, 341], [], [], [], [], [], [295], [], [292], [449, 450, 451], [], [295], [456, 457, 458], [], [], [], [], [], [], [300], [], [], [279], [], [], [], [301], []], [[295], [183], []]]
noncomputable def pp_51 : List (List Nat) := [[0, 1, 4, 5, 6, 9, 11, 14, 15, 18, 21, 22, 23]]
noncomputable def ph_51 : List (List (List Nat)) := [[[], [], [], [], [], [], [], [], [295], [180], [], [], []]]
noncomputable def pp_52 : List (List Nat) := [[0, 1, 2, 5, 8, 9, 10, 11, 36, 37, 40, 43, 44, 45, 46, 47, 50, 53, 54, 55, 56, 57, 60, 63, 64, 65, 66, 68]]
noncomputable def ph_52 : List (List (List Nat)) := [[[], [], [468, 470, 2], [], [], [], [], [], [], [295], [186], [], [], [], [], [295], [189], [], [], [], [], [295], [191], [], [], [], [], []]]
noncomputable def pp_53 : List (List Nat) := [[0, 1, 2, 5, 8, 9, 12, 15, 16, 17, 18, 21, 24, 26, 27, 28, 29, 32, 34, 35, 38, 41, 43, 44, 46, 47, 50, 53, 55, 56, 57, 58], [62, 64]]
noncomputable def ph_53 : List (List (List Nat)) := [[[], [], [468, 470, 2], [], [], [476, 477], [], [], [], [], [479, 480], [], [], [], [], [], [482, 483], [], [], [295], [196], [], [], [], [], [295], [196], [], [], [], [], [301]], [[], []]]
noncomputable def pp_54 : List (List Nat) := [[0, 1, 2, 5, 8, 9, 10, 11, 14, 15, 17, 20, 22, 23, 24, 26, 29, 30, 33, 34, 37, 40, 42, 43, 44, 47, 50, 51, 52, 53, 54, 57], [60, 61, 62, 63, 64, 68, 69]]
noncomputable def ph_54 : List (List (List Nat)) := [[[], [], [468, 470, 2], [], [], [], [], [], [], [], [], [], [], [], [], [], [], [295], [], [489, 490, 491], [], [], [], [], [295], [199], [], [], [], [], [295], [199]], [[], [], [], [], [301], [], []]]
noncomputable def pp_55 : List (List Nat) := [[0, 1, 4, 5, 7, 10, 12, 13, 14, 17, 20, 21, 22, 23, 24, 27, 30, 31, 32, 33, 34, 38, 39]]
noncomputable def ph_55 : List (List (List Nat)) := [[[], [], [], [], [], [], [], [], [295], [180], [], [], [], [], [295], [180], [], [], [], [], [301], [], []]]
noncomputable def pp_56 : List (List Nat) := [[0, 1, 2, 5, 8, 9, 12, 15, 16, 17, 18, 21, 24, 25, 26, 29, 30]]
noncomputable def ph_56 : List (List (List Nat)) := [[[], [], [468, 470, 2], [], [], [476, 477], [], [], [], [], [509, 511, 3], [223], [], [], [482, 483], [], []]]
noncomputable def pp_57 : List (List Nat) := [[0, 1, 2, 5, 8, 9, 10, 13, 16, 17, 20, 23, 24, 25, 26, 27, 30, 32, 33, 34, 37, 40, 41, 42, 43, 46, 47]]
noncomputable def ph_57 : List (List (List Nat)) := [[[], [], [468, 470, 2], [], [], [], [468, 470, 2], [], [], [476, 477], [], [], [], [], [], [], [], [], [], [509, 511, 3], [225], [], [], [], [584, 539], [], []]]
noncomputable def pp_58 : List (List Nat) := [[0, 1, 4, 7, 8, 11, 14, 15, 16, 19, 20]]
noncomputable def ph_58 : List (List (List Nat)) := [[[], [476, 477], [], [], [509, 511, 3], [231], [], [], [], [], []]]
noncomputable def pp_59 : List (List Nat) := [[0, 1, 4, 7, 8, 11, 12, 15, 18, 19]]
noncomputable def ph_59 : List (List (List Nat)) := [[[], [476, 477], [], [], [295], [], [593, 494, 495], [], [], []]]
noncomputable def pp_60 : List (List Nat) := [[0, 1, 2, 5, 8, 9, 12, 15, 18, 19, 22, 23, 26, 29, 30, 31, 34, 35, 36]]
noncomputable def ph_60 : List (List (List Nat)) := [[[], [], [468, 470, 2], [], [], [476, 477], [], [598], [], [599], [], [509, 511, 3], [229], [], [], [482, 483], [], [], []]]
noncomputable def pp_61 : List (List Nat) := [[0, 1, 4, 7, 10, 11, 12, 15, 16, 17, 20, 23, 24, 27, 28, 31, 32, 33, 36, 37]]
noncomputable def ph_61 : List (List (List Nat)) := [[[], [476, 477], [], [598], [], [], [], [], [], [604, 606, 17], [], [], [509, 511, 3], [], [599], [], [], [612, 613, 614], [], []]]
noncomputable def pp_62 : List (List Nat) := [[0, 1, 2, 5, 8, 9, 12, 15, 16, 17, 18, 21, 24, 25, 26, 29, 30]]
noncomputable def ph_62 : List (List (List Nat)) := [[[], [], [468, 470, 2], [], [], [476, 477], [], [], [], [], [509, 511, 3], [227], [], [], [482, 483], [], []]]
noncomputable def pp_63 : List (List Nat) := [[0, 1, 4, 5, 6, 9, 10, 11, 14, 16, 17, 18, 19, 20, 22, 25, 26, 27, 30, 31, 32, 33, 34, 37, 38, 39, 42, 43, 44, 47, 50, 52]]
noncomputable def ph_63 : List (List (List Nat)) := [[[], [509, 511, 3], [], [], [231], [], [], [], [], [], [], [], [], [], [], [], [], [231], [], [], [], [], [231], [], [], [], [], [], [], [], [], []]]
noncomputable def pp_64 : List (List Nat) := [[0, 1, 4, 5, 6, 7, 10, 11, 13, 14, 16, 18, 20, 23, 24, 26, 29, 30, 32, 35, 36, 39, 40, 41, 43, 44, 47, 50, 51]]
noncomputable def ph_64 : List (List (List Nat)) := [[[], [509, 511, 3], [], [], [], [604, 606, 17], [], [], [], [], [], [], [], [], [], [612, 613, 614], [], [], [612, 613, 614], [], [], [], [], [], [], [], [], [], []]]
noncomputable def pp_65 : List (List Nat) := [[0, 1, 4, 7, 8, 9, 10, 13, 14, 15, 16, 19, 20, 21, 23, 24, 26, 28, 29, 32, 35, 38, 40, 41, 44, 46, 47, 50, 52, 53, 54, 57], [59, 60, 61, 64, 66, 67, 69, 70, 71, 73, 76, 79, 81]]
noncomputable def ph_65 : List (List (List Nat)) := [[[], [476, 477], [], [], [], [], [509, 511, 3], [], [], [], [604, 606, 17], [], [], [], [], [], [], [], [295], [183], [], [], [], [482, 483], [], [], [229], [], [], [], [229], []], [[], [], [], [], [], [], [], [], [], [], [], [], []]]
noncomputable def pp_66 : List (List Nat) := [[0, 1, 4, 7, 8, 9, 10, 13, 14, 16, 19, 21, 22, 23, 24, 27, 28, 31, 32, 33, 34, 36, 38, 40, 43, 44, 46, 49, 52, 53, 54, 55], [58, 60, 61, 64, 67, 69]]
noncomputable def ph_66 : List (List (List Nat)) := [[[], [476, 477], [], [], [], [], [], [], [], [], [], [], [], [], [295], [], [593, 494, 495], [], [], [], [], [], [], [], [], [], [604, 606, 17], [231], [], [], [], []], [[], [], [], [], [], []]]
noncomputable def pp_67 : List (List Nat) := [[0, 1, 2, 3, 4, 5, 7, 9, 10, 13, 16, 19, 20, 22, 25, 27, 29, 32, 34, 35, 36, 39, 41, 42, 44, 45, 48, 51, 52]]
noncomputable def ph_67 : List (List (List Nat)) := [[[], [], [], [], [], [], [], [], [295], [183], [], [], [], [640, 642, 18], [], [], [], [], [], [], [], [], [], [], [], [], [], [], []]]
noncomputable def pp_68 : List (List Nat) := [[0, 1, 2, 5, 6, 7, 8, 9, 10, 13, 16, 19, 20, 21, 22, 25, 28, 29, 32, 35, 38, 39, 40]]
noncomputable def ph_68 : List (List (List Nat)) := [[[], [], [640, 642, 18], [], [], [], [], [], [295], [183], [], [], [], [], [640, 642, 18], [648, 649, 73, 650], [], [], [], [599], [], [], []]]
noncomputable def pp_69 : List (List Nat) := [[0, 2, 3, 4, 5, 6, 8, 10, 11, 14, 17, 20, 21, 24, 26, 29, 32, 33, 35, 38, 40, 41, 43, 46, 48, 49, 50, 53, 55, 56, 58, 59], [62, 65, 66]]
noncomputable def ph_69 : List (List (List Nat)) := [[[], [], [], [], [], [], [], [], [295], [183], [], [], [295], [], [489, 490, 491], [], [], [], [655, 657, 19], [], [], [], [], [], [], [], [], [], [], [], [], []], [[], [], []]]
noncomputable def pp_70 : List (List Nat) := [[0, 1, 2, 5, 8, 11, 12, 13, 16, 17, 20, 23, 26, 27, 28, 31, 32, 35, 38]]
noncomputable def ph_70 : List (List (List Nat)) := [[[], [], [468, 470, 2], [], [598], [], [], [295], [], [489, 490, 491], [], [599], [], [], [655, 657, 19], [], [], [663], []]]
noncomputable def pp_71 : List (List Nat) := [[0, 1, 4, 7, 9, 10, 11, 14, 15, 16, 17, 20, 21, 22, 23, 24, 26, 28, 29, 30, 33, 36, 37, 40, 41, 43, 46, 49, 50, 52, 55, 58], [59, 61, 63, 64, 65, 68, 70, 71, 73, 74, 77, 80, 81]]
noncomputable def ph_71 : List (List (List Nat)) := [[[], [668, 670, 20], [], [], [], [], [672, 674, 21], [], [], [], [676, 678, 22], [], [], [], [], [], [], [], [], [295], [183], [], [], [], [], [685, 687, 23], [], [], [], [676, 678, 22], [], []], [[], [], [], [], [], [], [], [], [], [], [], [], []]]
noncomputable def pp_72 : List (List Nat) := [[0, 1, 4, 7, 10, 11, 12, 13, 16, 19, 20, 21, 24, 25, 26, 27, 28, 29, 30, 33, 36, 37, 40, 41, 42, 45, 48, 49, 50, 51, 54, 57], [58, 61, 64, 67, 68, 69]]
noncomputable def ph_72 : List (List (List Nat)) := [[[], [668, 670, 20], [], [663], [], [], [], [672, 674, 21], [676, 678, 22], [], [], [672, 674, 21], [], [], [], [], [], [], [295], [183], [], [], [], [], [685, 687, 23], [], [], [], [], [676, 678, 22], [648, 649, 73, 650], []], [[], [], [599], [], [], []]]
noncomputable def pp_73 : List (List Nat) := [[0, 1, 2, 5, 8, 9, 12, 15, 16, 17, 18, 21, 22, 23, 26, 29, 30, 33, 34, 35, 38, 41, 43]]
noncomputable def ph_73 : List (List (List Nat)) := [[[], [], [468, 470, 2], [], [], [476, 477], [], [], [], [], [295], [], [], [703, 498, 499], [], [], [509, 511, 3], [], [], [704, 705, 706], [], [], []]]
noncomputable def pp_74 : List (List Nat) := [[0, 1, 2, 5, 8, 9, 12, 15, 18, 19, 20, 23, 24, 25, 28, 31, 32, 33, 36, 39, 40, 41, 44, 45, 46, 49, 52, 55, 56, 59, 60, 61], [62, 65, 66, 69, 72]]
noncomputable def ph_74 : List (List (List Nat)) := [[[], [], [468, 470, 2], [], [], [476, 477], [], [598], [], [], [], [], [], [295], [180], [], [], [], [716], [], [], [295], [], [], [703, 498, 499], [], [599], [], [509, 511, 3], [], [], []], [[717, 709, 710], [], [], [663], []]]
noncomputable def pp_75 : List (List Nat) := [[0, 1, 4, 7, 8, 9, 10, 13, 14, 17, 20, 21, 24, 25]]
noncomputable def ph_75 : List (List (List Nat)) := [[[], [476, 477], [], [], [], [], [509, 511, 3], [], [722, 723, 724], [], [], [], [], []]]
noncomputable def pp_76 : List (List Nat) := [[0, 1, 4, 7, 8, 11, 14, 15, 16, 17, 20, 23, 25, 26, 27, 28, 31, 33, 34, 37, 40, 42, 43, 45, 46, 49, 52, 54, 55, 56, 58]]
noncomputable def ph_76 : List (List (List Nat)) := [[[], [731, 732], [], [], [734, 735], [], [], [], [], [479, 480], [], [], [], [], [], [737, 738], [], [], [299], [267], [], [], [], [], [299], [267], [], [], [], [], []]]
noncomputable def pp_77 : List (List Nat) := [[0, 1, 4, 7, 8, 11, 14, 15, 16, 17, 20, 23, 24, 27, 28, 29, 30, 33, 36, 38]]
noncomputable def ph_77 : List (List (List Nat)) := [[[], [731, 732], [], [], [734, 735], [], [], [], [], [744, 745], [], [], [299], [], [], [], [747, 748, 749], [], [], []]]
noncomputable def pp_78 : List (List Nat) := [[0, 1, 4, 7, 8, 9, 10, 13, 16, 17, 20, 21, 22, 25, 28, 30]]
noncomputable def ph_78 : List (List (List Nat)) := [[[], [731, 732], [], [], [], [], [744, 745], [], [], [299], [], [], [762, 763, 764], [], [], []]]
noncomputable def pp_79 : List (List Nat) := [[0, 1, 4, 7, 8, 11, 12, 15, 18, 19]]
noncomputable def ph_79 : List (List (List Nat)) := [[[], [731, 732], [], [], [299], [], [771, 772, 773], [], [], []]]
noncomputable def pp_80 : List (List Nat) := [[0, 1, 4, 7, 8, 9, 10, 13, 14, 16, 19, 21, 24, 25, 28, 29, 30, 33]]
noncomputable def ph_80 : List (List (List Nat)) := [[[], [731, 732], [], [], [], [], [], [], [], [], [], [], [], [299], [], [], [783, 784, 785], []]]
noncomputable def pp_81 : List (List Nat) := [[0, 1, 4, 5, 6, 9, 12, 14, 17, 18, 19, 20, 21, 24, 27, 30, 31, 32, 33, 35, 38, 39, 42, 45, 46, 47, 50, 51, 54, 55, 56, 59], [60, 61, 64, 67, 70, 73, 74, 77, 80, 83]]
noncomputable def ph_81 : List (List (List Nat)) := [[[], [509, 511, 3], [], [], [299], [267], [], [791, 176], [], [], [], [], [295], [183], [], [], [], [], [], [], [], [299], [267], [], [], [737, 738], [], [223], [], [], [482, 483], []], [[], [], [], [], [], [], [299], [267], [792, 793], []]]
noncomputable def pp_82 : List (List Nat) := [[0, 1, 4, 7, 8, 9, 10, 13, 14, 15, 16, 19, 20, 23, 26, 27, 30, 33, 36]]
noncomputable def ph_82 : List (List (List Nat)) := [[[], [799, 800], [], [], [], [], [300], [], [], [], [295], [], [299], [802, 803, 804], [], [295], [196], [792, 793], []]]
noncomputable def pp_83 : List (List Nat) := [[0, 1, 4, 7, 8, 9, 10, 13, 14, 15, 18, 21, 23, 24, 25, 28, 29, 30, 31, 34, 35, 38, 41, 42, 46, 47, 50, 53, 56]]
noncomputable def ph_83 : List (List (List Nat)) := [[[], [799, 800], [], [], [], [], [300], [], [], [279], [], [], [], [], [300], [], [], [], [295], [], [299], [811, 812, 813], [], [301], [], [295], [196], [792, 793], []]]
noncomputable def pp_84 : List (List Nat) := [[0, 1, 36, 37, 40, 43, 44, 45, 48, 51, 54, 55, 56, 59, 62, 63, 66, 68, 71, 72, 73, 74, 77, 80, 83, 84, 85, 88, 91, 92, 94]]
noncomputable def ph_84 : List (List (List Nat)) := [[[], [], [], [295], [183], [], [], [295], [196], [792, 793], [], [], [295], [183], [], [295], [], [593, 494, 495], [], [], [], [299], [267], [792, 793], [], [], [292], [94], [], [], []]]
noncomputable def pp_85 : List (List Nat) := [[0, 1, 4, 5, 6, 9, 12, 15, 16, 19, 20]]
noncomputable def ph_85 : List (List (List Nat)) := [[[], [], [], [], [295], [183], [], [], [], [], []]]
noncomputable def pp_86 : List (List Nat) := [[0, 1, 4, 5, 7, 10, 11, 14, 15]]
noncomputable def ph_86 : List (List (List Nat)) := [[[], [], [], [], [], [], [], [], []]]
noncomputable def pp_87 : List (List Nat) := [[0, 1, 4, 5, 6, 9, 10, 13, 14]]
noncomputable def ph_87 : List (List (List Nat)) := [[[], [], [], [], [], [], [], [], []]]
noncomputable def pp_88 : List (List Nat) := [[0, 1, 3, 6, 7, 10, 11, 13, 16, 17, 20, 21]]
noncomputable def ph_88 : List (List (List Nat)) := [[[], [], [], [], [], [], [], [], [], [], [], []]]
noncomputable def pp_89 : List (List Nat) := [[0, 1, 4, 5, 7, 10, 11, 14, 15]]
noncomputable def ph_89 : List (List (List Nat)) := [[[], [], [], [], [], [], [], [], []]]
noncomputable def pp_90 : List (List Nat) := [[0, 1, 4, 5, 7, 10, 11, 14, 15]]
noncomputable def ph_90 : List (List (List Nat)) := [[[], [], [], [], [], [], [], [], []]]
noncomputable def pp_91 : List (List Nat) := [[0, 1, 4, 5, 7, 10, 11, 13, 16, 17, 20, 23, 24, 27, 30, 31, 34, 37, 38, 41, 44, 45, 48, 49]]
noncomputable def ph_91 : List (List (List Nat)) := [[[], [], [], [], [], [], [], [], [], [], [], [], [], [], [], [], [], [], [], [], [], [], [], []]]
noncomputable def pp_92 : List (List Nat) := [[0, 1, 3, 4, 5, 6]]
noncomputable def ph_92 : List (List (List Nat)) := [[[], [], [], [], [], []]]
noncomputable def pp_93 : List (List Nat) := [[0, 1, 3, 4, 5, 6, 8, 9, 10, 11]]
noncomputable def ph_93 : List (List (List Nat)) := [[[], [], [], [], [], [], [], [], [], []]]
noncomputable def pp_94 : List (List Nat) := [[0, 1, 3, 4, 5, 6]]
noncomputable def ph_94 : List (List (List Nat)) := [[[], [], [], [], [], []]]
noncomputable def pp_95 : List (List Nat) := [[0, 1, 2, 3, 4, 5, 6, 7, 10, 11, 12, 13, 15, 18, 21, 24, 27, 28]]
noncomputable def ph_95 : List (List (List Nat)) := [[[], [], [], [], [], [], [], [], [], [], [], [], [], [], [], [], [], []]]
noncomputable def pp_96 : List (List Nat) := [[0, 1, 4, 5, 6, 7, 10, 11]]
noncomputable def ph_96 : List (List (List Nat)) := [[[], [], [], [], [], [], [], []]]
noncomputable def pp_97 : List (List Nat) := [[0, 1, 4, 7, 8, 11, 14, 15, 19, 20, 23]]
noncomputable def ph_97 : List (List (List Nat)) := [[[], [301], [], [], [296], [513, 514, 515], [], [301], [], [296], []]]
noncomputable def pp_98 : List (List Nat) := [[0, 1, 4, 5, 8, 11, 12, 15, 18, 19, 20, 21, 22, 25, 28, 29, 32]]
noncomputable def ph_98 : List (List (List Nat)) := [[[], [297], [], [295], [608, 609, 610], [], [297], [180], [], [], [], [], [298], [513, 514, 515], [], [298], []]]
noncomputable def pp_99 : List (List Nat) := [[0, 1, 4, 5, 8, 11, 12, 15, 18, 19, 20, 23, 24, 27, 30, 31, 32, 33, 34, 37, 40, 41, 44, 46, 49]]
noncomputable def ph_99 : List (List (List Nat)) := [[[], [297], [], [295], [608, 609, 610], [], [297], [196], [], [], [482, 483], [], [295], [180], [], [], [], [], [298], [513, 514, 515], [], [298], [], [612, 613, 614], []]]
noncomputable def pp_100 : List (List Nat) := [[0, 1, 4, 5, 8, 11, 12, 15, 18, 19, 20, 21, 22, 25, 28, 29, 32, 34, 37]]
noncomputable def ph_100 : List (List (List Nat)) := [[[], [297], [], [295], [608, 609, 610], [], [297], [199], [], [], [], [], [298], [513, 514, 515], [], [298], [], [612, 613, 614], []]]
noncomputable def pp_101 : List (List Nat) := [[0, 1, 4, 7, 8, 11, 12, 15, 18, 20, 23, 24, 27, 28]]
noncomputable def ph_101 : List (List (List Nat)) := [[[], [295], [183], [], [], [], [295], [183], [], [], [], [], [], []]]
noncomputable def pp_102 : List (List Nat) := [[0, 1, 2, 5, 6, 7, 10, 13, 16, 17, 20, 21]]
noncomputable def ph_102 : List (List (List Nat)) := [[[], [], [689, 690], [], [], [295], [183], [], [], [], [], []]]
noncomputable def pp_103 : List (List Nat) := [[0, 1, 2, 5, 8, 9, 10, 11, 12, 13]]
noncomputable def ph_103 : List (List (List Nat)) := [[[], [], [295], [183], [], [], [], [], [], []]]
noncomputable def pp_104 : List (List Nat) := [[0, 1, 4, 5, 8, 9, 12, 13, 16, 19, 20, 23, 25, 28, 29, 30, 33, 34, 37, 38, 39, 40, 43, 44, 47, 50, 51, 52, 55, 57, 60, 61]]
noncomputable def ph_104 : List (List (List Nat)) := [[[], [297], [], [295], [], [680, 681, 682], [], [298], [513, 514, 515], [], [298], [], [612, 613, 614], [], [], [297], [], [295], [], [], [], [680, 681, 682], [], [298], [513, 514, 515], [], [], [298], [], [612, 613, 614], [], []]]
noncomputable def pp_105 : List (List Nat) := [[0, 1, 4, 5, 7, 9, 12, 13, 14, 16, 19, 20, 21, 23, 26, 27, 29, 31, 34, 35, 37, 39, 42, 43, 45, 47, 50, 51, 53, 55, 58, 59], [61, 63, 66, 67, 69, 71, 74, 75, 78, 80, 83, 84, 86, 88, 91, 92, 95, 97, 100, 101, 103, 105, 108, 109, 111, 113, 116, 117, 118, 120, 123, 124], [126, 128, 131, 132, 134, 136, 139, 140, 143, 145, 148, 149, 152, 154, 157, 158, 161, 163, 166, 167, 170, 172, 175, 176, 178, 180, 183, 184, 186, 188, 191, 192], [195, 196, 198, 199, 200, 203, 204, 206, 207, 208, 211, 212, 213, 214, 215, 218, 219, 220, 221, 222, 223, 226, 227, 230, 231, 232, 233, 234, 237, 238, 239, 240], [241, 244, 245, 246, 247, 249, 252, 253, 256, 257, 259, 260, 263, 266]]
noncomputable def ph_105 : List (List (List Nat)) := [[[], [824, 84, 85], [], [], [113], [830], [], [], [113], [833], [], [], [113], [834], [], [], [113], [837], [], [], [113], [838], [], [], [113], [839], [], [], [113], [841], [], []], [[113], [842], [], [], [113], [843], [], [], [113], [844], [], [], [113], [845], [], [], [113], [846], [], [], [113], [847], [], [], [113], [848], [], [], [923], [849], [], []], [[113], [850], [], [], [113], [851], [], [], [113], [854], [], [], [113], [855], [], [], [257], [856], [], [], [257], [857], [], [], [113], [858], [], [], [113], [859], [], [833]], [[], [], [], [], [833], [], [], [], [], [833], [], [], [], [], [833], [], [], [], [], [], [836], [], [837], [], [], [], [], [837], [], [], [], []], [[825, 827, 25], [], [], [], [], [], [], [850], [], [], [], [], [], []]]
noncomputable def pp_106 : List (List Nat) := [[0, 1, 2, 3, 6, 7, 9, 10, 13, 14, 17, 18]]
noncomputable def ph_106 : List (List (List Nat)) := [[[], [], [], [], [], [], [], [], [], [], [], []]]
noncomputable def pp_107 : List (List Nat) := [[0, 1, 2, 3, 6, 9, 10, 13, 14, 16, 17, 20, 23, 24, 25, 26, 28, 31, 32, 35, 36, 38, 39, 42, 45, 46, 49, 50, 52, 53, 56, 57], [59]]
noncomputable def ph_107 : List (List (List Nat)) := [[[], [], [], [], [], [], [844], [], [], [], [], [], [], [], [], [], [], [], [845], [], [], [], [], [], [], [849], [], [], [], [849], [], []], [[]]]
noncomputable def pp_108 : List (List Nat) := [[0, 1, 2, 3, 4, 7, 8, 9, 10, 13, 16, 17, 20, 21]]
noncomputable def ph_108 : List (List (List Nat)) := [[[], [], [], [], [836], [], [], [], [929, 930], [], [], [], [], []]]
noncomputable def pp_109 : List (List Nat) := [[0, 1, 2, 3, 6, 9, 12, 13, 16, 17]]
noncomputable def ph_109 : List (List (List Nat)) := [[[], [], [], [988], [929, 930], [], [], [], [], []]]
noncomputable def pp_110 : List (List Nat) := [[0, 1, 2, 5, 6, 7, 8, 11, 14, 17, 19, 20, 21, 24, 25, 26, 28, 31, 33, 34, 35, 36, 37, 39, 41, 44, 45, 48, 49, 52, 53, 55], [57, 58, 59, 60, 63, 64, 65, 66, 67, 70, 71, 72, 75, 78, 81, 82, 85]]
noncomputable def ph_110 : List (List (List Nat)) := [[[], [], [829], [], [], [], [928], [929, 930], [], [], [], [], [831], [], [], [], [], [], [], [], [], [], [], [], [], [], [830], [], [831], [], [], []], [[], [], [], [], [], [], [], [], [831], [], [], [831], [], [], [], [831], []]]
noncomputable def pp_111 : List (List Nat) := [[0, 1, 2, 5, 6, 9, 10, 11, 12, 15, 16]]
noncomputable def ph_111 : List (List (List Nat)) := [[[], [], [829], [], [831], [], [], [], [831], [], []]]
noncomputable def pp_112 : List (List Nat) := [[0, 1, 4, 5, 8, 11, 12, 15, 16, 19, 20, 22, 23, 24, 25, 26, 27, 28, 31, 34, 36, 37, 38, 39, 42, 43, 44, 47, 48, 51, 52, 55], [56, 57, 58, 60, 61]]
noncomputable def ph_112 : List (List (List Nat)) := [[[], [832], [], [831], [], [], [830], [], [832], [], [], [], [], [], [], [], [], [929, 930], [], [], [], [], [], [832], [], [], [832], [], [830], [], [832], []], [[], [], [], [], []]]
noncomputable def pp_113 : List (List Nat) := [[0, 1, 2, 3, 5, 6, 9, 10, 11, 13, 16, 18, 19, 20, 21, 24, 25, 28, 29, 30, 31, 33, 34, 37, 38, 41, 43, 46, 48, 50, 52, 55], [57, 60, 62, 63, 64, 66, 67]]
noncomputable def ph_113 : List (List (List Nat)) := [[[], [], [], [], [], [951, 953, 28], [], [], [], [], [], [], [], [], [], [], [], [], [], [], [], [], [], [], [], [], [951, 953, 28], [], [], [], [], []], [[], [], [], [], [], [], []]]
noncomputable def pp_114 : List (List Nat) := [[0, 1, 2, 5, 6, 7, 10, 11, 14, 15, 17, 18, 19, 22, 23, 25, 26, 27, 30, 31, 32, 33, 34, 37, 38, 39, 40, 41, 42, 43, 46, 47], [50, 53, 54, 57, 58, 61, 62, 63, 64, 66, 69, 70, 73, 74, 76, 79, 80, 83, 84, 86, 89, 90, 93, 94, 96, 99, 100, 103, 105, 106, 107, 109], [112, 113, 114, 115, 116, 117, 118, 121, 122, 125, 126, 127, 128, 131, 132, 133, 136, 137, 140, 141, 142, 144, 147, 150, 151, 152, 155, 156, 157, 159, 162, 165], [166, 167, 168, 171, 172, 175, 176, 178, 181, 183, 185, 187, 190, 191, 194, 195, 196, 199, 200, 202, 203, 204, 205, 206, 207, 208, 209, 210, 211, 214, 215, 216], [219, 222, 224]]
noncomputable def ph_114 : List (List (List Nat)) := [[[], [], [832], [], [], [835], [], [834], [], [], [], [], [834], [], [], [], [], [834], [], [], [], [], [834], [], [], [], [], [], [], [832], [], [831]], [[], [], [830], [], [832], [], [], [], [], [], [], [], [], [], [], [], [], [], [], [], [], [], [], [], [], [], [], [], [], [], [], []], [[], [], [], [], [], [], [], [], [832], [], [], [], [832], [], [], [832], [], [], [], [], [], [947, 949, 27], [], [], [], [], [], [], [], [947, 949, 27], [], []], [[], [], [], [], [], [], [], [951, 953, 28], [], [], [], [], [], [832], [], [], [834], [], [], [], [], [], [], [], [], [], [], [], [835], [], [], [835]], [[], [], []]]
noncomputable def pp_115 : List (List Nat) := [[0, 1, 3, 6, 7, 10, 11, 13, 16, 17, 20, 21, 23, 26, 27, 30, 31, 33, 36, 37, 40, 41, 43, 46, 47, 50, 51, 53, 56, 57, 60, 61], [63, 66, 68, 71, 73]]
noncomputable def ph_115 : List (List (List Nat)) := [[[], [], [], [], [], [], [], [], [], [], [], [], [], [], [], [], [], [], [], [], [], [], [], [], [], [], [], [], [], [], [], []], [[], [], [], [], []]]
noncomputable def pp_116 : List (List Nat) := [[0, 1, 2, 5, 6, 7, 10, 11, 14, 15, 18, 21, 22, 25, 26, 29, 30, 33, 34, 35, 37, 40, 41, 44, 46, 49, 50, 53, 54, 55, 56, 59], [60, 61, 64, 65, 68, 69, 70, 72, 75, 78, 79, 80, 83, 84, 87, 88, 89, 91, 94, 95, 96, 98, 101, 103, 106, 107, 108, 111, 114, 117, 120, 121], [122, 124, 127, 130, 131, 132, 133, 135, 138, 139, 142, 143, 144, 147, 148, 151, 152, 153, 154, 157, 158, 161, 162, 163, 164, 167, 168, 171, 172, 173, 174, 175], [178, 179, 180, 183, 186, 187, 190, 191, 194, 195, 198, 201, 203]]
noncomputable def ph_116 : List (List (List Nat)) := [[[], [], [832], [], [], [840], [], [832], [], [831], [], [], [830], [], [832], [], [944, 945], [], [], [], [], [], [840], [], [], [], [832], [], [], [], [832], []], [[], [832], [], [], [], [], [], [947, 949, 27], [], [], [], [], [], [], [], [], [], [951, 953, 28], [], [], [], [], [], [], [], [], [955], [956], [929, 930], [], [], []], [[], [951, 953, 28], [], [], [], [], [], [], [], [832], [], [], [841], [], [840], [], [], [], [842], [], [840], [], [], [], [843], [], [840], [], [], [], [], [840]], [[], [], [840], [], [], [840], [], [], [], [832], [], [], []]]
noncomputable def pp_117 : List (List Nat) := [[0, 1, 2, 5, 6, 9, 10, 13, 16, 17, 20]]
noncomputable def ph_117 : List (List (List Nat)) := [[[], [], [829], [], [], [], [940, 942, 26], [], [], [957, 959, 29], []]]
noncomputable def pp_118 : List (List Nat) := [[0, 1, 2, 5, 6, 9, 11, 14, 16, 17, 18, 19, 20, 21, 24, 25, 28, 29, 30, 33, 34, 35, 36, 39, 42, 43, 46]]
noncomputable def ph_118 : List (List (List Nat)) := [[[], [], [829], [], [957, 959, 29], [], [], [], [], [], [], [], [], [], [], [833], [], [], [834], [], [], [], [], [], [], [835], []]]
noncomputable def pp_119 : List (List Nat) := [[0, 1, 2, 5, 6, 9, 11, 14, 16, 17, 18, 19, 22, 25, 26, 27, 28, 30, 33, 34, 37, 38, 39, 42, 43, 44, 45, 46, 49, 50, 51, 54], [55, 56, 57, 58, 61, 62, 63, 66, 67, 68, 69, 72, 75, 76, 79, 80, 83]]
noncomputable def ph_119 : List (List (List Nat)) := [[[], [], [829], [], [940, 942, 26], [], [], [], [], [], [], [840], [836], [], [], [], [], [], [], [837], [], [], [841], [], [], [], [], [838], [], [], [842], []], [[], [], [], [839], [], [], [843], [], [], [], [], [], [], [825, 827, 25], [], [836], []]]
noncomputable def pp_120 : List (List Nat) := [[0, 1, 2, 5, 6, 7, 8, 11, 14, 17, 18, 21, 22, 23, 26, 28]]
noncomputable def ph_120 : List (List (List Nat)) := [[[], [], [829], [], [], [], [955], [929, 930], [], [], [833], [], [], [], [], []]]
noncomputable def pp_121 : List (List Nat) := [[0, 1, 2, 5, 6, 7, 10, 13, 14, 15, 16, 19, 20, 23, 24, 25, 28, 29, 30, 33, 34, 37, 38, 39, 42, 43, 44, 47, 48, 51, 52, 53], [56, 58]]
noncomputable def ph_121 : List (List (List Nat)) := [[[], [], [829], [], [], [977, 979, 30], [], [], [], [], [], [], [837], [], [], [], [], [], [], [], [838], [], [], [], [], [], [], [], [839], [], [], []], [[], []]]
noncomputable def pp_122 : List (List Nat) := [[0, 1, 2, 5, 6, 7, 10, 13, 14, 17, 20, 21, 22, 23, 24, 25, 28, 31, 34, 35, 37, 40, 42, 43, 44, 47, 49, 50, 51, 52, 53, 54], [56, 57, 60, 62, 63, 64, 65, 66, 67, 68, 70]]
noncomputable def ph_122 : List (List (List Nat)) := [[[], [], [829], [], [], [977, 979, 30], [], [], [985, 986], [], [], [], [], [], [], [989], [929, 930], [], [], [], [], [], [], [], [844], [], [], [], [], [], [], []], [[], [844], [], [], [], [], [], [], [], [], []]]
noncomputable def pp_123 : List (List Nat) := [[0, 1, 2, 3, 4, 5, 6, 9, 12, 13, 14, 17, 18, 19, 21, 24, 25, 28, 29, 30, 31, 34, 37, 38]]
noncomputable def ph_123 : List (List (List Nat)) := [[[], [], [], [], [], [], [836], [], [], [], [845], [], [], [], [], [], [], [], [], [], [], [], [], []]]
noncomputable def pp_124 : List (List Nat) := [[0, 1, 2, 5, 6, 7, 10, 13, 14, 15, 16, 17, 18, 21, 24, 27, 29, 30, 31, 34, 35, 36, 37, 38, 41, 42, 43, 44, 45, 48, 49, 52], [53, 56, 57, 58, 59, 61, 62, 63]]
noncomputable def ph_124 : List (List (List Nat)) := [[[], [], [829], [], [], [977, 979, 30], [], [], [], [], [], [], [994], [929, 930], [], [], [], [], [845], [], [], [], [], [845], [], [], [], [], [995, 997, 31], [], [], []], [[845], [], [], [], [], [], [], []]]
noncomputable def pp_125 : List (List Nat) := [[0, 1, 2, 5, 6, 7, 8, 11, 14, 17, 19, 20, 21, 24, 25, 26, 27, 28, 31, 32, 33, 34, 35]]
noncomputable def ph_125 : List (List (List Nat)) := [[[], [], [829], [], [], [], [1003], [929, 930], [], [], [], [], [833], [], [], [], [], [833], [], [], [], [], []]]
noncomputable def pp_126 : List (List Nat) := [[0, 1, 4, 7, 8, 11, 12, 15, 16, 17, 18, 19, 22, 23, 26, 27]]
noncomputable def ph_126 : List (List (List Nat)) := [[[], [853], [], [], [845], [], [851], [], [], [], [], [], [], [], [], []]]
noncomputable def pp_127 : List (List Nat) := [[0, 1, 2, 3, 4, 5, 6, 9, 12, 13, 14, 15, 16, 19, 22, 23, 26, 27, 28, 29, 32, 35, 36]]
noncomputable def ph_127 : List (List (List Nat)) := [[[], [], [], [], [], [], [852], [], [], [], [], [], [1016, 1018, 34], [], [], [], [], [], [], [], [], [], []]]
noncomputable def pp_128 : List (List Nat) := [[0, 1, 4, 5, 8, 9, 10, 13, 14, 15, 18, 19, 22, 23, 24, 27, 28]]
noncomputable def ph_128 : List (List (List Nat)) := [[[], [], [], [], [], [], [833], [], [], [], [], [833], [], [], [], [], []]]
noncomputable def pp_129 : List (List Nat) := [[0, 1, 2, 3, 5, 6, 8, 10, 11, 14, 17, 19, 20, 23, 24, 26, 27, 30, 33, 34, 35, 38, 40, 41, 42, 43, 44, 46, 47, 48, 49, 50], [53, 56, 59, 60, 62, 63]]
noncomputable def ph_129 : List (List (List Nat)) := [[[], [], [], [], [], [], [], [], [852], [], [], [], [], [], [], [], [1016, 1018, 34], [], [], [], [854], [], [], [], [], [], [], [], [], [], [], []], [[], [], [], [], [], []]]
noncomputable def pp_130 : List (List Nat) := [[0, 1, 2, 3, 5, 7, 8, 11, 14, 15, 16, 19, 21, 22, 23, 25, 27, 28, 29, 30, 31, 32, 33, 34, 37, 40, 41]]
noncomputable def ph_130 : List (List (List Nat)) := [[[], [], [], [], [], [], [852], [], [], [], [855], [], [], [], [], [], [], [], [], [], [], [], [], [], [], [], []]]
noncomputable def pp_131 : List (List Nat) := [[0, 1, 4, 5, 6, 7, 8, 11, 14, 15, 18, 20, 21, 22, 23, 24, 25, 27, 30, 31, 32, 35, 37, 38, 39, 40, 41, 42, 45, 46, 47, 50], [51, 52, 53, 56, 57, 58, 61, 62, 63, 66, 67, 70, 71, 72, 75, 76, 79, 80, 81, 84, 85, 88, 89, 90, 91, 92, 93, 94, 97, 98, 99, 101], [104, 105, 106, 107, 108, 111, 112, 115, 116, 117, 118, 121, 122, 123, 124, 125, 126, 127, 130, 132, 133, 134, 137, 139, 140, 141, 142, 143, 144, 145, 146, 148], [151, 152, 155, 156, 157, 159, 160, 163, 164, 167, 168, 169, 170, 171, 174]]
noncomputable def ph_131 : List (List (List Nat)) := [[[], [851], [], [], [], [], [853], [], [], [844], [], [], [], [], [], [], [], [], [], [], [844], [], [], [], [], [], [], [1024, 1026, 36], [], [], [837], []], [[], [], [], [], [], [837], [], [], [], [], [838], [], [], [], [], [1024, 1026, 36], [], [], [], [], [833], [], [], [], [], [], [], [837], [], [], [], []], [[], [], [], [], [1028, 1030, 37], [], [838], [], [], [], [1024, 1026, 36], [], [], [], [], [], [], [1032, 1034, 38], [], [], [], [854], [], [], [], [], [], [], [], [], [], []], [[], [833], [], [], [], [], [], [], [838], [], [], [], [], [1024, 1026, 36], []]]
noncomputable def pp_132 : List (List Nat) := [[0, 1, 2, 3, 4, 5, 7, 9, 11, 14, 15, 18, 20, 21, 22, 25, 28, 29, 31, 33, 34, 37, 40, 41, 43, 44, 47, 50, 51, 52, 55, 57], [58, 59, 60, 63, 66, 69, 70, 71, 72, 74, 75, 77, 79, 80, 83, 86, 87, 90, 91, 92, 95, 96, 98, 99, 102, 105, 106, 108, 109, 111, 114, 117], [120]]
noncomputable def ph_132 : List (List (List Nat)) := [[[], [], [], [], [], [], [], [], [], [], [859], [], [], [], [], [], [], [], [], [], [852], [], [], [], [], [1016, 1018, 34], [], [], [], [858], [], []], [[], [], [], [], [], [], [], [], [], [], [], [], [], [852], [], [], [833], [], [], [], [], [], [], [1016, 1018, 34], [], [], [], [], [], [1040, 1042, 40], [], []], [[]]]
noncomputable def pp_133 : List (List Nat) := [[0, 1, 3, 6, 8, 11, 12]]
noncomputable def ph_133 : List (List (List Nat)) := [[[], [], [], [], [], [], []]]
noncomputable def pp_134 : List (List Nat) := [[0, 1, 4, 5, 8, 9, 10, 11, 13, 14, 17, 18, 21, 22, 23, 24, 26, 28, 29, 32, 34, 36, 37, 39, 41, 42, 45, 48, 50, 51, 54, 55], [57, 58, 61, 64, 66, 68, 71, 72, 75, 77, 78, 79, 82, 84, 85, 88, 90, 92, 95, 98, 99, 102, 104, 105, 106, 109, 110, 113, 115, 116, 117, 119], [120, 121, 124, 126, 127, 128, 129, 131, 132, 134, 135, 138, 139, 142, 144, 145, 148, 150, 151, 154, 155, 157, 159, 160, 163, 166, 168, 169, 172, 173, 175, 176], [179, 182, 183, 186, 188, 189, 190, 193, 194, 195, 198, 200, 201, 202, 204, 205, 207, 208, 211, 214, 215, 217, 219, 220, 223, 224, 227, 228, 231, 233, 234, 235], [236, 237, 239, 241, 242, 243, 244, 245, 246, 249, 250, 252, 253, 256, 258, 259, 260, 262, 263, 265, 267, 268, 271, 272, 275, 278]]
noncomputable def ph_134 : List (List (List Nat)) := [[[], [837], [], [851], [], [], [], [], [], [839], [], [851], [], [], [], [], [], [], [], [], [], [], [], [], [], [852], [], [], [], [], [], []], [[], [1016, 1018, 34], [], [], [], [], [], [858], [], [], [], [858], [], [], [], [], [], [], [], [], [858], [], [], [], [], [], [859], [], [], [], [], []], [[], [858], [], [], [], [], [], [], [], [], [1044, 1045], [], [], [], [], [], [], [], [], [], [], [], [], [852], [], [], [], [], [], [], [], [1016, 1018, 34]], [[], [], [858], [], [], [], [], [], [], [858], [], [], [], [], [], [], [], [1044, 1045], [], [], [], [], [], [], [], [], [], [855], [], [], [], []], [[], [], [], [], [], [], [], [], [], [], [], [], [859], [], [], [], [], [], [], [], [], [1044, 1045], [], [], [], []]]
noncomputable def pp_135 : List (List Nat) := [[0, 1, 2, 3, 5, 6, 8, 9, 11, 13, 14, 17, 20, 21, 22, 24, 25, 28, 31, 32, 35, 37, 38, 39, 42, 43, 44, 45, 47, 48, 51, 53], [54, 55, 57, 58, 59, 60, 62, 64, 65, 68, 70, 72, 73, 74, 75, 76, 77, 79, 82, 85, 88, 89, 90, 91, 94, 95, 96, 97, 98, 99, 100, 103], [104, 105, 107, 110, 111, 114, 115, 116, 117, 120, 121, 122, 123, 124, 125, 127, 128, 131, 132, 135, 136, 137, 138, 139, 141, 142, 143, 144, 147, 148, 151, 152], [153, 154, 155, 157, 158, 159, 160]]
noncomputable def ph_135 : List (List (List Nat)) := [[[], [], [], [], [], [], [], [], [], [], [852], [], [], [], [], [], [1016, 1018, 34], [], [], [858], [], [], [], [], [], [], [], [], [], [859], [], []], [[], [], [], [], [], [], [], [], [859], [], [], [], [], [], [], [], [], [], [], [1051], [], [], [], [833], [], [], [], [], [], [], [1052, 1054, 42], []], [[], [], [1056], [], [833], [], [], [], [858], [], [], [], [], [], [], [], [1056], [], [833], [], [], [], [], [], [], [], [], [1056], [], [833], [], []], [[], [], [], [], [], [], []]]
noncomputable def pp_136 : List (List Nat) := [[0, 1, 2, 3, 5, 8, 9, 10, 11, 12, 15, 18, 19, 22, 23, 24, 25, 26, 29, 32, 33, 34, 35, 38, 41, 42, 43, 46, 49, 50, 51, 54], [55, 56, 57, 58, 61, 64, 65, 68, 69, 72, 73, 76, 78, 79, 80, 81, 82, 83, 84, 85, 86, 87, 90, 92, 93, 94, 95, 96, 97, 98, 99, 100], [103, 106, 107, 108, 109, 112, 115, 116, 117, 118, 119, 122, 124, 125, 126, 127, 128, 129, 132, 133, 134, 135, 138, 141, 142, 143, 144, 146, 149, 150, 153, 155], [156, 157, 158, 159, 160, 163, 164, 165, 166, 169, 172, 175, 178]]
noncomputable def ph_136 : List (List (List Nat)) := [[[], [], [], [], [], [], [], [], [], [852], [], [], [858], [], [], [], [], [1016, 1018, 34], [], [], [], [], [1020, 1022, 35], [], [], [], [], [], [], [], [1036, 1038, 39], []], [[], [], [], [852], [], [], [], [], [], [], [856], [], [], [], [], [], [], [], [], [], [], [856], [], [], [], [], [], [], [], [], [], [1016, 1018, 34]], [[], [], [], [], [1047, 1049, 41], [], [], [], [], [], [854], [], [], [], [], [], [], [858], [], [], [], [], [], [], [], [], [], [], [], [855], [], []], [[], [], [], [], [859], [], [], [], [], [], [], [], []]]
noncomputable def pp_137 : List (List Nat) := [[0, 1, 2, 5, 8, 9, 13, 14, 15, 16, 17, 20, 23, 24, 27, 28, 29, 30, 33, 36, 37, 40]]
noncomputable def ph_137 : List (List (List Nat)) := [[[], [], [836], [852], [], [853], [], [], [], [], [836], [], [], [851], [], [], [], [], [], [], [1012, 1014, 33], []]]
noncomputable def pp_138 : List (List Nat) := [[0, 1, 2, 3, 5, 7, 8, 11, 14, 15, 16, 19, 21, 22, 23, 25, 26, 27, 28, 29, 32, 35, 36]]
noncomputable def ph_138 : List (List (List Nat)) := [[[], [], [], [], [], [], [852], [], [], [], [856], [], [], [], [], [], [], [], [], [], [], [], []]]
noncomputable def pp_139 : List (List Nat) := [[0, 1, 4, 5, 6, 7, 8, 11, 12, 13, 14, 15, 18, 19, 22, 23, 24, 25, 26, 27, 28, 31, 34, 35, 38, 39, 40, 43, 44, 45, 46, 49], [52, 53, 56]]
noncomputable def ph_139 : List (List (List Nat)) := [[[], [833], [], [], [], [], [833], [], [], [], [], [1008, 1010, 32], [], [833], [], [], [], [], [], [], [], [], [], [857], [], [], [856], [], [], [], [], []], [[], [1008, 1010, 32], []]]
noncomputable def pp_140 : List (List Nat) := [[0, 1, 2, 3, 5, 7, 8, 11, 14, 15, 16, 19, 21, 22, 23, 25, 26, 27, 28, 29, 32, 35, 36]]
noncomputable def ph_140 : List (List (List Nat)) := [[[], [], [], [], [], [], [852], [], [], [], [857], [], [], [], [], [], [], [], [], [], [], [], []]]
noncomputable def pp_141 : List (List Nat) := [[0, 1, 2, 5, 6, 7, 10, 13, 14, 17, 20, 21, 22, 23, 26, 27, 28, 29, 32, 35, 36, 39, 41, 42, 43, 44, 45, 46, 49, 51]]
noncomputable def ph_141 : List (List (List Nat)) := [[[], [], [829], [], [], [977, 979, 30], [], [], [985, 986], [], [], [], [], [1008, 1010, 32], [], [], [], [1016, 1018, 34], [], [], [854], [], [], [], [], [], [], [], [], []]]
noncomputable def pp_142 : List (List Nat) := [[0, 1, 2, 5, 6, 7, 10, 13, 14, 15, 18, 21, 22, 25, 28, 29, 30, 31, 32, 35, 37, 38, 39, 42, 43, 46, 48, 49, 50, 52, 53, 54], [55, 56, 57, 58]]
noncomputable def ph_142 : List (List (List Nat)) := [[[], [], [829], [], [], [977, 979, 30], [], [], [], [977, 979, 30], [], [], [985, 986], [], [], [], [], [], [], [], [], [], [1008, 1010, 32], [], [855], [], [], [], [], [], [], []], [[], [], [], []]]
noncomputable def pp_143 : List (List Nat) := [[0, 1, 2, 3, 4, 5, 6, 9, 12, 13, 14, 17, 19, 20, 21, 22, 23, 24, 25, 26, 29, 32, 33]]
noncomputable def ph_143 : List (List (List Nat)) := [[[], [], [], [], [], [], [852], [], [], [], [854], [], [], [], [], [], [], [], [], [], [], [], []]]
noncomputable def pp_144 : List (List Nat) := [[0, 1, 2, 5, 6, 9, 12, 13, 14, 15, 18, 19, 20, 23]]
noncomputable def ph_144 : List (List (List Nat)) := [[[], [], [829], [], [985, 986], [], [], [], [], [1008, 1010, 32], [], [], [1065, 1067, 43], []]]
noncomputable def pp_145 : List (List Nat) := [[0, 1, 2, 5, 6, 9, 12, 13, 14, 15, 18, 19, 20, 23]]
noncomputable def ph_145 : List (List (List Nat)) := [[[], [], [829], [], [985, 986], [], [], [], [], [1008, 1010, 32], [], [], [1052, 1054, 42], []]]
noncomputable def pp_146 : List (List Nat) := [[0, 1, 2, 5, 6, 7, 10, 13, 14, 17, 20, 23, 24, 25, 28, 31, 32, 35, 37, 38, 39, 40, 41, 42, 43]]
noncomputable def ph_146 : List (List (List Nat)) := [[[], [], [829], [], [], [977, 979, 30], [], [], [985, 986], [], [1077], [], [], [1008, 1010, 32], [1078], [], [856], [], [], [], [], [], [], [], []]]
noncomputable def pp_147 : List (List Nat) := [[0, 1, 2, 5, 6, 9, 12, 15, 16, 17, 20, 23, 24, 27, 28, 29, 32, 35, 36, 37, 40, 41]]
noncomputable def ph_147 : List (List (List Nat)) := [[[], [], [829], [], [985, 986], [], [1077], [], [], [1083, 1085, 44], [1078], [], [], [], [], [1087, 1089, 45], [], [], [], [1091, 1093, 46], [], []]]
noncomputable def pp_148 : List (List Nat) := [[0, 1, 2, 5, 6, 7, 10, 13, 14, 17, 20, 21, 22, 23, 26, 27, 28, 29, 31, 33, 34, 37, 38, 40, 42, 43, 46, 49, 50, 51, 54, 55], [56, 57, 60, 62, 64, 65, 67, 68, 69, 70, 72, 73, 74, 75, 76, 79, 80, 81, 82, 85, 87, 89, 90, 92, 94, 95, 96, 97, 98, 99, 100, 101], [102, 103, 106, 109, 112, 115, 116]]
noncomputable def ph_148 : List (List (List Nat)) := [[[], [], [829], [], [], [977, 979, 30], [], [], [985, 986], [], [], [], [], [1008, 1010, 32], [], [], [], [], [], [], [], [], [], [], [], [852], [], [], [], [833], [], []], [[], [855], [], [], [], [], [], [], [], [], [], [], [], [], [833], [], [], [], [855], [], [], [], [], [], [], [], [], [], [], [], [], []], [[], [], [], [], [], [], []]]
noncomputable def pp_149 : List (List Nat) := [[0, 1, 2, 5, 6, 9, 10, 11, 14, 15, 16, 17, 18, 20, 23, 24, 27, 28, 29, 30, 33, 34, 35, 38, 39, 40, 43, 46, 48]]
noncomputable def ph_149 : List (List (List Nat)) := [[[], [], [829], [], [1008, 1010, 32], [], [], [1065, 1067, 43], [], [], [], [], [], [], [], [], [], [], [], [1065, 1067, 43], [], [], [], [], [], [], [], [], []]]
noncomputable def pp_150 : List (List Nat) := [[0, 1, 2, 5, 6, 9, 11, 12, 14, 15, 16, 19, 20, 21, 24, 25, 26, 29, 30, 33, 34, 35, 38, 41, 42]]
noncomputable def ph_150 : List (List (List Nat)) := [[[], [], [829], [], [1083, 1085, 44], [], [], [], [], [], [], [], [], [1091, 1093, 46], [], [], [1087, 1089, 45], [], [], [], [], [], [], [], []]]
noncomputable def pp_151 : List (List Nat) := [[0, 1, 2, 5, 6, 9, 12, 13, 14, 15, 18, 19, 20, 21, 22, 23, 24, 27, 30, 31, 32, 35, 37, 38, 39, 40, 41, 42, 43, 46, 48, 49], [50, 51, 52, 53, 54, 57, 58, 59, 60, 63, 64, 65, 66, 69, 72, 73]]
noncomputable def ph_151 : List (List (List Nat)) := [[[], [], [829], [], [985, 986], [], [], [], [], [1083, 1085, 44], [], [], [], [], [], [], [836], [], [], [], [856], [], [], [], [], [], [], [], [857], [], [], []], [[], [], [], [], [], [], [], [], [], [], [], [], [], [], [], []]]
noncomputable def pp_152 : List (List Nat) := [[0, 1, 2, 5, 6, 9, 12, 13, 14, 15, 16, 17, 20, 23, 26, 28, 29, 30, 33, 34, 35, 36, 38, 40, 42, 44, 46, 49, 50, 53, 54, 56], [57, 58, 61, 62, 63, 66, 67, 68, 69, 72, 73, 76, 78, 81, 83, 85, 88, 91, 92, 95, 96, 97, 98, 100]]
noncomputable def ph_152 : List (List (List Nat)) := [[[], [], [829], [], [985, 986], [], [], [], [], [], [], [989], [929, 930], [], [], [], [], [833], [], [], [], [], [], [], [], [], [], [], [833], [], [], []], [[], [1008, 1010, 32], [], [], [1065, 1067, 43], [], [], [], [1052, 1054, 42], [], [], [], [], [], [], [], [], [], [833], [], [], [], [], []]]
noncomputable def pp_153 : List (List Nat) := [[0, 1, 4, 6, 7, 8, 9, 10, 11, 14, 16, 17, 18, 20, 21, 22, 25, 26, 29, 31, 32, 33, 34, 35, 36, 38, 41]]
noncomputable def ph_153 : List (List (List Nat)) := [[[], [844], [], [], [], [], [], [], [844], [], [], [], [], [], [], [1008, 1010, 32], [], [844], [], [], [], [], [], [], [], [1091, 1093, 46], []]]
noncomputable def pp_154 : List (List Nat) := [[0, 1, 2, 3, 4, 5, 7, 9, 10, 13, 16, 17, 19, 22, 24, 26, 29, 31, 32, 33, 36, 38, 39, 41, 42, 45, 48, 49]]
noncomputable def ph_154 : List (List (List Nat)) := [[[], [], [], [], [], [], [], [], [836], [], [], [], [1123, 1125, 48], [], [], [], [], [], [], [], [], [], [], [], [], [], [], []]]
noncomputable def pp_155 : List (List Nat) := [[0, 1, 2, 5, 6, 9]]
noncomputable def ph_155 : List (List (List Nat)) := [[[], [], [829], [], [1119, 1121, 47], []]]
noncomputable def pp_156 : List (List Nat) := [[0, 1, 2, 5, 8, 9, 10, 13, 16, 17]]
noncomputable def ph_156 : List (List (List Nat)) := [[[], [], [829], [1078], [], [], [1119, 1121, 47], [1123, 1125, 48], [], []]]
noncomputable def pp_157 : List (List Nat) := [[0, 1, 4, 5, 6, 7, 8, 11, 12, 13, 14, 15, 18, 19, 22, 23, 26, 27, 28, 29, 32, 33, 34, 35, 36]]
noncomputable def ph_157 : List (List (List Nat)) := [[[], [845], [], [], [], [], [845], [], [], [], [], [995, 997, 31], [], [], [], [], [], [], [], [845], [], [], [], [], []]]
noncomputable def pp_158 : List (List Nat) := [[0, 1, 4, 5, 6, 7, 8, 11, 12, 13, 14, 15, 18, 19, 22, 23, 24, 25, 26, 28, 31, 32, 35, 38, 39, 40, 41, 42]]
noncomputable def ph_158 : List (List (List Nat)) := [[[], [845], [], [], [], [], [845], [], [], [], [], [1008, 1010, 32], [], [845], [], [], [], [], [], [1091, 1093, 46], [], [856], [], [], [], [], [], []]]
noncomputable def pp_159 : List (List Nat) := [[0, 1, 2, 5, 7, 8, 9, 10, 11, 13, 15, 16, 19, 22, 23, 25, 28, 31, 32, 35, 36, 38, 41, 43, 44, 46, 49, 52, 53, 55, 58, 60], [61, 62, 65, 67, 68, 70, 71, 74, 77, 78]]
noncomputable def ph_159 : List (List (List Nat)) := [[[], [], [829], [], [], [], [], [], [], [], [], [836], [], [], [], [1135, 1137, 49], [], [], [], [], [], [1139, 1141, 50], [], [], [], [1135, 1137, 49], [], [], [], [], [], []], [[], [], [], [], [], [], [], [], [], []]]
noncomputable def pp_160 : List (List Nat) := [[0, 1, 2, 5, 6, 7, 10, 13, 16, 17, 18, 19, 22, 25, 28, 31, 34, 35, 36, 39, 40]]
noncomputable def ph_160 : List (List (List Nat)) := [[[], [], [829], [], [], [977, 979, 30], [], [1077], [], [], [], [1135, 1137, 49], [], [1147], [], [1078], [], [], [1139, 1141, 50], [], []]]
noncomputable def pp_161 : List (List Nat) := [[0, 1, 2, 5, 6, 10, 11, 12, 13, 14, 17, 20, 21, 22, 23, 24, 25, 26, 29, 30, 33, 34, 37, 38, 39, 40, 41, 44, 45, 46, 49, 52], [55, 56, 59, 60, 62, 65]]
noncomputable def ph_161 : List (List (List Nat)) := [[[], [], [852], [], [853], [], [], [], [], [836], [], [], [], [], [], [], [], [], [], [851], [], [852], [], [], [], [], [852], [], [], [852], [], []], [[], [1012, 1014, 33], [], [], [1091, 1093, 46], []]]
noncomputable def pp_162 : List (List Nat) := [[0, 1, 2, 3, 4, 5, 7, 10, 11, 12, 13, 14, 15, 16, 17, 18, 21, 24, 25]]
noncomputable def ph_162 : List (List (List Nat)) := [[[], [], [], [], [], [], [], [], [], [], [], [], [], [], [], [], [], [], []]]
noncomputable def pp_163 : List (List Nat) := [[0, 1, 2, 5, 6, 7, 8, 11, 12, 13, 14, 15, 16, 17, 18, 21, 22]]
noncomputable def ph_163 : List (List (List Nat)) := [[[], [], [1167, 1169, 54], [], [], [], [836], [], [], [], [], [], [], [], [1167, 1169, 54], [], []]]
noncomputable def pp_164 : List (List Nat) := [[0, 1, 2, 3, 4, 5, 7, 9, 10, 11, 14, 15, 18, 20, 23, 24, 25, 26, 29, 32, 33, 35, 38, 40, 41, 44, 46, 47, 48, 51, 53, 54], [56, 57, 60, 63, 64]]
noncomputable def ph_164 : List (List (List Nat)) := [[[], [], [], [], [], [], [], [], [], [836], [], [], [], [1160, 1161], [], [], [], [836], [], [], [], [1163, 1165, 53], [], [], [], [], [], [], [], [], [], []], [[], [], [], [], []]]
noncomputable def pp_165 : List (List Nat) := [[0, 1, 4, 5, 8, 9, 12, 14, 17, 18, 21, 22]]
noncomputable def ph_165 : List (List (List Nat)) := [[[], [836], [], [], [], [836], [], [], [], [], [], []]]
noncomputable def pp_166 : List (List Nat) := [[0, 1, 2, 5, 6, 9, 12, 14, 17, 18, 21]]
noncomputable def ph_166 : List (List (List Nat)) := [[[], [], [829], [], [1152, 1154, 51], [], [], [], [], [1156, 1158, 52], []]]
noncomputable def pp_167 : List (List Nat) := [[0, 1, 2, 5, 6, 9, 12, 15, 18, 21, 22, 23, 26, 29, 30]]
noncomputable def ph_167 : List (List (List Nat)) := [[[], [], [829], [], [1152, 1154, 51], [], [1147], [], [1078], [], [], [1156, 1158, 52], [1163, 1165, 53], [], []]]
noncomputable def pp_168 : List (List Nat) := [[0, 1, 3, 5, 6, 9, 12, 13, 16, 18, 19, 22, 24, 25, 26, 28, 29, 30, 31, 34, 37, 38, 41, 42, 43, 44, 45, 46, 49, 50, 51, 52], [55]]
noncomputable def ph_168 : List (List (List Nat)) := [[[], [], [], [], [852], [], [], [858], [], [], [854], [], [], [], [], [], [], [], [], [], [], [858], [], [], [], [], [], [1036, 1038, 39], [], [], [], [1047, 1049, 41]], [[]]]
noncomputable def pp_169 : List (List Nat) := [[0, 1, 2, 3, 4, 5, 6, 9, 11, 12, 14, 16, 17, 20, 21, 22, 25, 26, 27, 28, 30, 33, 35, 37, 39, 40, 43, 45, 47, 49, 50, 53], [56, 57]]
noncomputable def ph_169 : List (List (List Nat)) := [[[], [], [], [], [], [], [1183, 1185, 56], [], [], [], [], [], [833], [], [], [], [], [], [], [], [1183, 1185, 56], [], [], [], [], [], [], [], [], [], [], []], [[], []]]
noncomputable def pp_170 : List (List Nat) := [[0, 1, 2, 5, 6, 7, 10, 13, 14, 17, 20, 21, 22, 23, 26, 27, 28, 29, 32, 35, 36, 37, 38, 41, 44, 46]]
noncomputable def ph_170 : List (List (List Nat)) := [[[], [], [829], [], [], [977, 979, 30], [], [], [985, 986], [], [], [], [], [1008, 1010, 32], [], [], [], [1016, 1018, 34], [], [], [], [], [1179, 1181, 55], [], [], []]]
noncomputable def pp_171 : List (List Nat) := [[0, 1, 2, 5, 6, 7, 10, 13, 14, 17, 20, 23, 24, 25, 26, 27, 28, 31, 32, 33, 34, 37, 40, 43, 44, 45, 48, 49, 50, 51, 54, 57], [60, 61, 62, 63, 64, 67, 68, 71, 74]]
noncomputable def ph_171 : List (List (List Nat)) := [[[], [], [829], [], [], [977, 979, 30], [], [], [985, 986], [], [1077], [], [], [], [], [], [833], [], [], [], [929, 930], [], [1191], [], [], [1008, 1010, 32], [], [], [], [1016, 1018, 34], [], [1078]], [[], [], [], [], [1183, 1185, 56], [], [], [1147], []]]
noncomputable def pp_172 : List (List Nat) := [[0, 1, 2, 5, 6, 9, 12, 13, 14, 15, 18, 19, 20, 21, 22, 23, 24, 27, 30, 31, 32, 33, 36, 39, 40, 43, 44, 45, 46, 47, 50, 52], [53, 54, 55, 56, 57, 60, 61, 62, 63, 64, 65, 66, 69, 72, 73, 76, 77, 80, 81, 82, 85, 88, 89, 92, 93, 96, 97]]
noncomputable def ph_172 : List (List (List Nat)) := [[[], [], [829], [], [985, 986], [], [], [], [], [1008, 1010, 32], [], [], [], [], [], [], [836], [], [], [], [], [1016, 1018, 34], [], [], [], [], [], [], [], [854], [], []], [[], [], [], [], [1183, 1185, 56], [], [], [], [], [], [], [1179, 1181, 55], [1183, 1185, 56], [], [], [], [], [], [], [], [], [], [], [], [], [], []]]
noncomputable def pp_173 : List (List Nat) := [[0, 1, 2, 3, 6, 9, 12, 13, 14, 15, 18, 21, 24, 25, 28, 29]]
noncomputable def ph_173 : List (List (List Nat)) := [[[], [], [], [956], [929, 930], [], [], [], [], [1203], [929, 930], [], [], [], [], []]]
noncomputable def pp_174 : List (List Nat) := [[0, 1, 2, 5, 6, 7, 10, 13, 14, 15, 16, 17, 18, 21, 24, 27, 28, 30, 33, 35, 36, 37, 40, 42, 43, 44, 45, 46, 47, 49, 50, 53], [55, 56, 57, 58, 59, 60, 61, 63]]
noncomputable def ph_174 : List (List (List Nat)) := [[[], [], [829], [], [], [1200, 1201], [], [], [], [], [], [], [989], [929, 930], [], [], [], [], [], [], [], [850], [], [], [], [], [], [], [], [], [850], []], [[], [], [], [], [], [], [], []]]
noncomputable def pp_175 : List (List Nat) := [[0, 1, 4, 5, 6, 9, 12, 15, 18, 19, 20, 23, 26, 29, 32, 33, 34, 37, 40, 43, 46, 47, 50, 51]]
noncomputable def ph_175 : List (List (List Nat)) := [[[], [], [], [], [1211], [1212], [929, 930], [], [], [], [1213], [1214], [929, 930], [], [], [], [1215], [1216], [929, 930], [], [], [], [], []]]
noncomputable def pp_176 : List (List Nat) := [[0, 1, 4, 7, 8, 11, 12, 15, 16, 18, 19, 20, 21, 24, 26, 27, 28, 30, 31, 33, 34, 36, 38, 40, 43, 44, 47, 49, 51, 52, 53, 54], [55, 56, 57, 59, 61, 63, 66, 67, 70, 73, 74, 77, 78, 80, 81, 84, 85, 88, 89, 92, 94, 96, 97, 99, 102, 105, 108, 110, 113, 115, 116, 118], [120, 121, 122, 124, 125, 126, 128, 130, 133, 134, 137, 139]]
noncomputable def ph_176 : List (List (List Nat)) := [[[], [], [], [], [], [], [], [], [], [], [], [], [], [], [], [], [], [], [], [], [], [], [], [], [], [850], [], [], [], [], [], []], [[], [], [], [], [], [], [], [], [], [], [], [], [], [], [], [], [], [], [], [], [], [], [], [], [], [], [], [], [], [], [], []], [[], [], [], [], [], [], [], [], [], [], [], []]]
noncomputable def pp_177 : List (List Nat) := [[0, 1, 2, 5, 6, 7, 10, 13, 14, 15, 16, 19, 22, 24, 27, 28, 29, 30, 31, 34]]
noncomputable def ph_177 : List (List (List Nat)) := [[[], [], [829], [], [], [1200, 1201], [], [], [], [], [1208, 1209], [], [], [], [], [], [], [], [1217, 1219, 57], []]]
noncomputable def pp_178 : List (List Nat) := [[0, 1, 2, 3, 5, 7, 9, 12, 13, 16, 18, 19, 20, 22, 23, 24, 26, 27, 28, 29, 31, 34, 36, 37, 39, 41, 44, 46, 48, 51, 53, 55], [58, 59, 62, 63, 64, 65, 68, 71, 72]]
noncomputable def ph_178 : List (List (List Nat)) := [[[], [], [], [], [], [], [], [], [850], [], [], [], [], [], [], [], [], [], [], [], [1217, 1219, 57], [], [], [], [], [], [], [], [], [], [], []], [[], [], [], [], [], [], [], [], []]]
noncomputable def pp_179 : List (List Nat) := [[0, 1, 2, 5, 6, 7, 8, 11, 14, 17, 18, 19, 20, 23, 26, 28, 31, 32, 33, 34, 37]]
noncomputable def ph_179 : List (List (List Nat)) := [[[], [], [829], [], [], [], [956], [929, 930], [], [], [], [], [1208, 1209], [], [], [], [], [], [], [1225, 1227, 58], []]]
noncomputable def pp_180 : List (List Nat) := [[0, 1, 2, 5, 6, 7, 8, 11, 14, 17, 18, 19, 20, 21, 23, 24, 25, 28, 31, 32, 35, 38, 39, 40, 41, 44, 45, 46, 47, 50, 53, 54], [57, 58, 59, 62, 65, 66]]
noncomputable def ph_180 : List (List (List Nat)) := [[[], [], [829], [], [], [], [956], [929, 930], [], [], [], [], [], [], [], [], [], [], [], [1208, 1209], [], [], [], [], [1225, 1227, 58], [], [], [], [1225, 1227, 58], [], [], []], [[], [], [], [], [], []]]
noncomputable def pp_181 : List (List Nat) := [[0, 1, 2, 5, 6, 7, 8, 11, 14, 17, 18, 19, 20, 21, 22, 25, 28, 31, 33, 34, 35, 36, 37, 39, 41, 44, 47, 48, 50, 53, 56, 57], [59, 60, 63, 64, 67, 68, 71, 72, 73, 74, 77, 80, 81]]
noncomputable def ph_181 : List (List (List Nat)) := [[[], [], [829], [], [], [], [956], [929, 930], [], [], [], [], [], [], [928], [929, 930], [], [], [], [], [], [], [], [], [], [], [], [], [1208, 1209], [], [], []], [[], [1225, 1227, 58], [], [], [], [], [], [], [], [], [], [], []]]
noncomputable def pp_182 : List (List Nat) := [[0, 1, 2, 5, 6, 9, 10, 11, 12, 13, 14, 16, 19, 20, 21, 22, 24, 27, 28, 29, 32, 35, 36, 37, 38, 41, 44, 45, 48, 49, 51, 52], [55, 57, 58, 59, 60, 61, 63, 66, 67, 70, 72, 73, 74, 75, 76, 77, 80, 82, 83, 84, 86, 89, 90, 93, 94, 95, 96, 99, 102, 105, 108, 109]]
noncomputable def ph_182 : List (List (List Nat)) := [[[], [], [829], [], [1008, 1010, 32], [], [], [], [], [], [], [], [], [], [], [], [], [], [], [836], [], [], [], [], [1016, 1018, 34], [], [], [], [], [], [], [850]], [[], [], [], [], [], [], [], [], [854], [], [], [], [], [], [], [], [], [], [], [], [], [], [], [], [], [], [], [], [], [], [], []]]
noncomputable def pp_183 : List (List Nat) := [[0, 1, 2, 3, 4, 5, 8, 11, 12, 13, 16, 17, 18, 20, 23, 24, 27, 28, 29, 30, 33, 36, 37]]
noncomputable def ph_183 : List (List (List Nat)) := [[[], [], [], [], [], [], [], [], [], [844], [], [], [], [], [], [], [], [], [], [], [], [], []]]
noncomputable def pp_184 : List (List Nat) := [[0, 1, 2, 5, 6, 7, 8, 9, 12, 15, 16, 17, 18, 21, 22, 24, 25, 26, 27, 30, 33, 34, 37, 40, 41, 42, 43, 44, 45, 48, 49, 50], [51, 54, 57, 58, 59, 60, 62, 65, 66, 69, 71, 72, 73, 74, 75, 76, 79, 80, 81, 82, 85, 88, 89, 90, 91, 93, 96, 97, 100, 102, 103, 104], [105, 106, 107, 110, 111, 112, 113, 116, 119, 120, 123]]
noncomputable def ph_184 : List (List (List Nat)) := [[[], [], [829], [], [], [], [], [929, 930], [], [], [], [], [849], [], [], [], [], [], [], [], [], [846], [], [], [], [], [], [], [844], [], [], []], [[], [], [], [], [], [], [], [], [847], [], [], [], [], [], [], [845], [], [], [], [], [], [], [], [], [], [], [], [848], [], [], [], []], [[], [], [850], [], [], [], [], [], [], [1245, 1247, 59], []]]
noncomputable def pp_185 : List (List Nat) := [[0, 1, 2, 5, 6, 7, 8, 9, 12, 15, 16, 17, 18, 21, 22, 23, 26, 28, 29, 30, 31, 32, 35, 38, 39, 42, 43, 44, 47, 50, 51, 52], [53, 54, 55, 56, 59, 62, 63, 64, 65, 67, 70, 71, 74, 75, 76, 79, 81, 82, 83, 84, 85, 86, 87, 90, 93, 94, 95, 96, 98, 101, 102, 105], [106, 107, 110, 112, 113, 114, 115, 116, 117, 118, 121, 124, 125, 128]]
noncomputable def ph_185 : List (List (List Nat)) := [[[], [], [829], [], [], [], [], [929, 930], [], [], [], [], [849], [], [], [], [], [], [], [], [], [], [], [], [844], [], [], [846], [], [], [], []], [[], [], [], [], [], [], [], [], [], [], [], [845], [], [], [847], [], [], [], [], [], [], [], [], [], [], [], [], [], [], [], [850], []], [[], [848], [], [], [], [], [], [], [], [], [], [], [1245, 1247, 59], []]]
noncomputable def pp_186 : List (List Nat) := [[0, 1, 2, 5, 6, 7, 8, 9, 10, 11, 14, 17, 18, 19, 22, 23, 24, 26, 29, 30, 33, 34, 35, 36, 39, 42, 43, 44, 45, 47, 49, 51], [54, 55, 56, 59, 61, 62, 64, 67, 68, 71, 72, 73, 74, 77, 80, 81, 116, 117, 120, 121, 122, 125, 126, 127, 128, 129, 130, 131, 134, 135, 137]]
noncomputable def ph_186 : List (List (List Nat)) := [[[], [], [829], [], [], [], [], [], [], [836], [], [], [], [845], [], [], [], [], [], [], [], [], [], [], [], [], [], [], [], [], [], []], [[], [], [850], [], [], [], [], [], [], [], [], [], [], [], [], [], [], [836], [], [], [1245, 1247, 59], [], [], [], [], [], [], [831], [], [], []]]
noncomputable def pp_187 : List (List Nat) := [[0, 1, 2, 3, 6]]
noncomputable def ph_187 : List (List (List Nat)) := [[[], [], [], [347, 348, 349], []]]
noncomputable def pp_188 : List (List Nat) := [[0, 1, 4, 7, 8, 11, 12, 13, 14, 17, 20, 23, 24, 27, 28, 29, 30, 33, 36]]
noncomputable def ph_188 : List (List (List Nat)) := [[[], [351, 352, 353], [], [], [1259], [], [], [], [357, 358, 359], [365, 366], [], [], [1259], [], [], [], [357, 358, 359], [], []]]
noncomputable def pp_189 : List (List Nat) := [[0, 3, 6, 7, 10, 13, 14, 17, 18]]
noncomputable def ph_189 : List (List (List Nat)) := [[[355], [], [], [1258], [], [], [], [], []]]
noncomputable def pp_190 : List (List Nat) := [[0, 1, 4, 5, 6, 9, 10]]
noncomputable def ph_190 : List (List (List Nat)) := [[[], [1259], [], [], [361, 362, 363], [], []]]
noncomputable def pp_191 : List (List Nat) := [[0, 3, 6, 7, 10, 13, 14]]
noncomputable def ph_191 : List (List (List Nat)) := [[[355], [], [], [1258], [], [], []]]
noncomputable def pp_192 : List (List Nat) := [[0, 1, 4, 5, 8, 11, 12, 15, 16]]
noncomputable def ph_192 : List (List (List Nat)) := [[[], [], [], [], [], [], [], [], []]]
noncomputable def pp_193 : List (List Nat) := [[0, 1, 4, 7, 8, 9, 10, 11, 14, 15, 16, 17, 18, 21, 22, 23, 24, 27, 28, 29, 30, 31, 32, 33, 36]]
noncomputable def ph_193 : List (List (List Nat)) := [[[], [368, 369], [], [], [], [], [], [371, 372, 73, 373], [], [], [], [], [374, 375, 73, 376], [], [], [], [], [], [], [], [], [], [], [377, 378], []]]
noncomputable def pp_194 : List (List Nat) := [[0, 1, 2, 4, 5, 7, 9, 10, 13, 14, 16, 17, 19, 22, 24, 25, 28, 31, 32]]
noncomputable def ph_194 : List (List (List Nat)) := [[[], [], [], [], [], [], [], [], [], [], [], [], [], [], [], [], [], [], []]]
noncomputable def pp_195 : List (List Nat) := [[0, 1, 2, 3, 4, 7, 8, 9, 10, 11, 14, 15, 16, 17, 18, 21, 22, 23, 24, 25, 26, 27, 28, 29, 32, 33, 34, 35, 36, 38, 39, 40], [41, 42, 43, 45, 46, 47, 48, 49, 51, 52]]
noncomputable def ph_195 : List (List (List Nat)) := [[[], [], [], [], [692], [], [], [], [], [693], [], [], [], [], [693], [], [], [], [], [], [], [], [], [694], [], [], [], [], [], [], [], []], [[], [], [], [], [], [], [], [], [], []]]
noncomputable def pp_196 : List (List Nat) := [[0, 1, 2, 3, 4, 5, 6, 7, 10, 11, 12, 13, 14, 17, 20]]
noncomputable def ph_196 : List (List (List Nat)) := [[[], [], [], [], [], [], [], [], [], [], [], [], [], [], []]]
noncomputable def pp_197 : List (List Nat) := [[0, 3, 4, 7, 8, 11, 12, 15, 16, 17, 18, 19, 20, 21, 22, 23, 26, 27, 28, 29, 31, 32, 204, 205, 206, 207, 208, 209, 210, 211, 212, 213], [214, 215, 216, 218, 219, 220, 221, 222, 223, 224, 225, 228, 229, 230, 233, 234, 235, 236, 237, 238, 239, 240, 241, 242, 243, 244, 245, 247, 248, 249, 250, 251], [252, 253, 254, 257, 258, 259, 262, 265, 266, 267, 268, 271, 272, 275, 278, 279, 280, 281, 282, 283, 284, 285, 286, 289, 290, 293, 294, 297, 298, 299, 300, 301], [302, 303, 306, 307, 310, 311, 314, 317, 318, 319, 320, 323, 324, 327, 330, 331, 332, 333, 336, 337, 340, 343, 344, 345, 346, 347, 348, 349, 350, 351, 354, 355], [356, 357, 358, 359, 360, 363, 366, 367, 368, 369, 370, 371, 372, 373, 374, 375, 376, 377, 378, 379, 382, 383, 384, 385, 386, 387, 388, 389, 390, 391, 392, 393], [396, 399, 400, 401, 402, 403, 404, 405, 406, 407, 408, 409, 410, 411, 412, 413, 414, 415, 416, 417, 420, 421, 422, 423, 424, 425, 426, 427, 428, 429, 430, 431], [432, 433, 434, 435, 436, 439, 442, 443, 444, 445, 446, 447, 448, 449, 450, 451, 452, 453, 454, 455, 458, 459, 460, 461, 462, 463, 464, 465, 466, 467, 468, 469], [472, 475, 476, 477, 478, 479, 480, 481, 482, 483, 486, 487, 488, 489, 490, 491, 492, 495, 498, 499, 500, 501, 502, 503, 504, 505, 506, 507, 508, 509, 510, 511], [514, 515, 516, 517, 518, 519, 520, 521, 522, 523, 524, 525, 528, 531, 532, 533, 534, 535, 536, 537, 538, 539, 540, 541, 542, 543, 544, 545, 546, 547, 548, 549], [552, 553, 554, 555, 556, 557, 558, 559, 560, 561, 562, 563, 564, 565, 566, 567, 568, 571, 574, 575, 576, 577, 578, 579, 580, 581, 582, 585, 586, 587, 588, 589], [590, 591, 594, 597, 598, 599, 600, 601, 602, 603, 604, 605, 608, 609, 610, 611, 612, 613, 614, 617, 620, 621, 622, 623, 624, 625, 626, 627, 628, 629, 630, 631], [632, 633, 636, 637, 638, 639, 640, 641, 642, 643, 644, 645, 646, 647, 650, 651, 654, 655, 656, 657, 658, 659, 660, 661, 662, 663, 664, 665, 666, 667, 670, 671], [674, 675, 678, 679, 680, 681, 682, 683, 684, 685, 686, 687, 688, 689, 692, 693, 696, 697, 700, 701, 704, 705, 706, 707, 708, 709, 710, 711, 712, 713, 714, 715], [716, 717, 720, 721, 722, 723, 724, 725, 726, 727, 728, 729, 730, 731, 734, 737, 738, 739, 740, 743, 744, 747, 750, 751, 752, 753, 756, 757, 760, 763, 764, 765], [766, 767, 768, 769, 770, 771, 774, 775, 776, 777, 778, 779, 780, 783, 786, 787, 788, 789, 790, 791, 792, 793, 794, 795, 796, 797, 798, 799, 802, 803, 804, 805], [806, 807, 808, 809, 810, 811, 812, 813, 816, 819, 820, 821, 822, 825, 826, 829, 832, 833, 834, 835, 838, 839, 842, 843, 846, 847, 848, 849, 852, 853, 856, 859], [860, 861, 862, 863, 864, 865, 866, 867, 870, 871, 872, 873, 874, 875, 876, 879, 880, 883, 884, 885, 886, 889, 890, 893, 896, 897, 898, 899, 902, 903, 906, 907], [910, 911, 912, 913, 914, 915, 916, 917, 918, 919, 920, 921, 922, 923, 926, 927, 928, 929, 930, 931, 932, 933, 934, 935, 936, 937, 940, 943, 944, 945, 946, 947], [948, 949, 950, 951, 952, 953, 954, 955, 956, 957, 958, 959, 960, 961, 964, 965, 966, 967, 968, 969, 970, 971, 972, 973, 974, 975, 976, 977, 978, 979, 980, 983], [984, 987, 988, 989, 990, 991, 992, 993, 994, 995, 998, 999, 1000, 1001, 1002, 1003, 1004, 1007, 1010, 1011, 1012, 1013, 1014, 1015, 1016, 1017, 1018, 1019, 1020, 1021, 1022, 1023], [1024, 1025, 1026, 1027, 1028, 1031, 1032, 1033, 1034, 1035, 1036, 1037, 1038, 1039, 1040, 1041, 1042, 1043, 1044, 1045, 1046, 1047, 1050, 1053, 1054, 1055, 1056, 1057, 1058, 1059, 1060, 1061], [1062, 1063, 1064, 1065, 1066, 1067, 1068, 1069, 1070, 1071, 1074, 1075, 1076, 1077, 1078, 1079, 1080, 1081, 1082, 1083, 1084, 1085, 1086, 1087, 1088, 1089, 1090, 1093, 1096, 1097, 1098, 1099], [1100, 1101, 1102, 1103, 1104, 1105, 1106, 1107, 1108, 1109, 1112, 1113, 1114, 1115, 1116, 1117, 1118, 1119, 1120, 1121, 1122, 1123, 1126, 1129, 1130, 1131, 1132, 1133, 1134, 1135, 1136, 1137], [1140, 1141, 1142, 1143, 1144, 1145, 1146, 1149, 1152, 1153, 1154, 1155, 1156, 1157, 1158, 1159, 1160, 1161, 1162, 1163, 1164, 1165, 1168, 1169, 1170, 1171, 1172, 1173, 1174, 1175, 1176, 1177], [1178, 1179, 1182, 1185, 1186, 1187, 1188, 1191, 1192, 1195, 1198, 1199, 1200, 1201, 1202, 1203, 1204, 1205, 1206, 1209, 1210, 1211, 1212, 1213, 1214, 1215, 1218, 1221, 1222, 1223, 1224, 1225], [1226, 1227, 1228, 1229, 1232, 1233, 1234, 1235, 1236, 1237, 1238, 1241, 1244, 1245, 1246, 1247, 1248, 1249, 1250, 1251, 1252, 1255, 1256, 1257, 1258, 1259, 1260, 1261, 1264, 1267, 1268, 1269], [1272, 1275, 1276]]
noncomputable def ph_197 : List (List (List Nat)) := [[[78, 79, 61], [], [80, 81], [], [819, 820, 70], [], [821, 822], [], [], [], [], [], [], [], [], [], [], [], [], [], [], [], [], [], [], [], [], [], [], [], [], []], [[], [], [], [], [], [], [], [], [], [], [1257], [], [], [323, 324, 325], [], [], [], [], [], [], [], [], [], [], [], [], [], [], [], [], [], []], [[], [], [1257], [], [], [924, 925, 926], [], [], [], [], [331, 332, 333], [], [932, 933, 934], [], [], [], [], [], [], [], [], [], [], [], [], [], [335, 336, 337], [], [], [], [], []], [[], [], [], [], [], [936, 937, 938], [], [], [], [], [437, 438, 439], [], [961, 962, 963], [], [], [], [], [445, 446, 447], [], [965, 966, 967], [], [], [], [], [], [], [], [], [], [460, 461, 462], [], []], [[], [], [], [], [969, 970, 971], [], [], [], [], [], [], [], [], [], [], [], [], [], [], [464, 465, 466], [], [], [], [], [], [], [], [], [], [], [], [973, 974, 975]], [[], [], [], [], [], [], [], [], [], [], [], [], [], [], [], [], [], [], [], [472, 473, 474], [], [], [], [], [], [], [], [], [], [], [], []], [[], [], [], [], [981, 982, 983], [], [], [], [], [], [], [], [], [], [], [], [], [], [], [485, 486, 487], [], [], [], [], [], [], [], [], [], [], [], [990, 991, 992]], [[], [], [], [], [], [], [], [], [], [501, 502, 503], [], [], [], [], [], [], [999, 1000, 1001], [], [], [], [], [], [], [], [], [], [], [], [], [], [], [505, 506, 507]], [[], [], [], [], [], [], [], [], [], [], [], [1004, 1005, 1006], [], [], [], [], [], [], [], [], [], [], [], [], [], [], [], [], [], [], [], [580, 581, 582]], [[], [], [], [], [], [], [], [], [], [], [], [], [], [], [], [], [1057, 1058, 1059], [], [], [], [], [], [], [], [], [], [585, 586, 587], [], [], [], [], []], [[], [1061, 1062, 1063], [], [], [], [], [], [], [], [], [], [589, 590, 591], [], [], [], [], [], [], [1069, 1070, 1071], [], [], [], [], [], [], [], [], [], [], [], [], []], [[], [594, 595, 596], [], [], [], [], [], [], [], [], [], [], [], [1073, 1074, 1075], [], [], [], [], [], [], [], [], [], [], [], [], [], [], [], [], [], []], [[], [600, 601, 602], [], [], [], [], [], [], [], [], [], [], [], [], [], [], [], [1079, 1080, 1081], [], [], [], [], [], [], [], [], [], [], [], [], [], []], [[], [616, 617, 618], [], [], [], [], [], [], [], [], [], [], [], [1095, 1096, 1097], [], [], [], [], [620, 621, 622], [], [1099, 1100, 1101], [], [], [], [], [624, 625, 626], [], [1103, 1104, 1105], [], [], [], []], [[], [], [], [], [], [628, 629, 630], [], [], [], [], [], [], [1107, 1108, 1109], [], [], [], [], [], [], [], [], [], [], [], [], [], [], [632, 633, 634], [], [], [], []], [[], [], [], [], [], [], [], [1111, 1112, 1113], [], [], [], [], [636, 637, 638], [], [1115, 1116, 1117], [], [], [], [], [644, 645, 646], [], [1127, 1128, 1129], [], [], [], [], [], [651, 652, 653], [], [1131, 1132, 1133], [], []], [[], [], [], [], [], [], [], [659, 660, 661], [], [], [], [], [], [], [1143, 1144, 1145], [], [], [], [], [], [664, 665, 666], [], [1148, 1149, 1150], [], [], [], [], [695, 696, 697], [], [1171, 1172, 1173], [], []], [[], [], [], [], [], [], [], [], [], [], [], [], [], [699, 700, 701], [], [], [], [], [], [], [], [], [], [], [], [1175, 1176, 1177], [], [], [], [], [], []], [[], [], [], [], [], [], [], [], [], [], [], [], [], [712, 713, 714], [], [], [], [], [], [], [], [], [], [], [], [], [], [], [], [], [1187, 1188, 1189], []], [[], [], [], [], [], [], [], [], [], [718, 719, 720], [], [], [], [], [], [], [1192, 1193, 1194], [], [], [], [], [], [], [], [], [], [], [], [], [], [], []], [[], [], [], [], [727, 728, 729], [], [], [], [], [], [], [], [], [], [], [], [], [], [], [], [], [1196, 1197, 1198], [], [], [], [], [], [], [], [], [], []], [[], [], [], [], [], [], [], [], [], [740, 741, 742], [], [], [], [], [], [], [], [], [], [], [], [], [], [], [], [], [1204, 1205, 1206], [], [], [], [], []], [[], [], [], [], [], [], [], [], [], [758, 759, 760], [], [], [], [], [], [], [], [], [], [], [], [1221, 1222, 1223], [], [], [], [], [], [], [], [], [], [767, 768, 769]], [[], [], [], [], [], [], [1229, 1230, 1231], [], [], [], [], [], [], [], [], [], [], [], [], [], [], [779, 780, 781], [], [], [], [], [], [], [], [], [], []], [[], [1233, 1234, 1235], [], [], [], [], [787, 788, 789], [], [1237, 1238, 1239], [], [], [], [], [], [], [], [], [], [795, 796, 797], [], [], [], [], [], [], [1241, 1242, 1243], [], [], [], [], [], []], [[], [], [], [807, 808, 809], [], [], [], [], [], [], [1249, 1250, 1251], [], [], [], [], [], [], [], [], [], [815, 816, 817], [], [], [], [], [], [], [1253, 1254, 1255], [], [], [], []], [[], [], []]]
noncomputable def pps : List (List (List (List Nat))) := [[pp_0, pp_1, pp_2, pp_3, pp_4, pp_5, pp_6, pp_7, pp_8, pp_9, pp_10, pp_11, pp_12, pp_13, pp_14, pp_15],
  [pp_16, pp_17, pp_18, pp_19, pp_20, pp_21, pp_22, pp_23, pp_24, pp_25, pp_26, pp_27, pp_28, pp_29, pp_30, pp_31],
  [pp_32, pp_33, pp_34, pp_35, pp_36, pp_37, pp_38, pp_39, pp_40, pp_41, pp_42, pp_43, pp_44, pp_45, pp_46, pp_47],
  [pp_48, pp_49, pp_50, pp_51, pp_52, pp_53, pp_54, pp_55, pp_56, pp_57, pp_58, pp_59, pp_60, pp_61, pp_62, pp_63],
  [pp_64, pp_65, pp_66, pp_67, pp_68, pp_69, pp_70, pp_71, pp_72, pp_73, pp_74, pp_75, pp_76, pp_77, pp_78, pp_79],
  [pp_80, pp_81, pp_82, pp_83, pp_84, pp_85, pp_86, pp_87, pp_88, pp_89, pp_90, pp_91, pp_92, pp_93, pp_94, pp_95],
  [pp_96, pp_97, pp_98, pp_99, pp_100, pp_101, pp_102, pp_103, pp_104, pp_105, pp_106, pp_107, pp_108, pp_109, pp_110, pp_111],
  [pp_112, pp_113, pp_114, pp_115, pp_116, pp_117, pp_118, pp_119, pp_120, pp_121, pp_122, pp_123, pp_124, pp_125, pp_126, pp_127],
  [pp_128, pp_129, pp_130, pp_131, pp_132, pp_133, pp_134, pp_135, pp_136, pp_137, pp_138, pp_139, pp_140, pp_141, pp_142, pp_143],
  [pp_144, pp_145, pp_146, pp_147, pp_148, pp_149, pp_150, pp_151, pp_152, pp_153, pp_154, pp_155, pp_156, pp_157, pp_158, pp_159],
  [pp_160, pp_161, pp_162, pp_163, pp_164, pp_165, pp_166, pp_167, pp_168, pp_169, pp_170, pp_171, pp_172, pp_173, pp_174, pp_175],
  [pp_176, pp_177, pp_178, pp_179, pp_180, pp_181, pp_182, pp_183, pp_184, pp_185, pp_186, pp_187, pp_188, pp_189, pp_190, pp_191],
  [pp_192, pp_193, pp_194, pp_195, pp_196, pp_197]]
noncomputable def phs : List (List (List (List (List Nat)))) := [[ph_0, ph_1, ph_2, ph_3, ph_4, ph_5, ph_6, ph_7, ph_8, ph_9, ph_10, ph_11, ph_12, ph_13, ph_14, ph_15],
  [ph_16, ph_17, ph_18, ph_19, ph_20, ph_21, ph_22, ph_23, ph_24, ph_25, ph_26, ph_27, ph_28, ph_29, ph_30, ph_31],
  [ph_32, ph_33, ph_34, ph_35, ph_36, ph_37, ph_38, ph_39, ph_40, ph_41, ph_42, ph_43, ph_44, ph_45, ph_46, ph_47],
  [ph_48, ph_49, ph_50, ph_51, ph_52, ph_53, ph_54, ph_55, ph_56, ph_57, ph_58, ph_59, ph_60, ph_61, ph_62, ph_63],
  [ph_64, ph_65, ph_66, ph_67, ph_68, ph_69, ph_70, ph_71, ph_72, ph_73, ph_74, ph_75, ph_76, ph_77, ph_78, ph_79],
  [ph_80, ph_81, ph_82, ph_83, ph_84, ph_85, ph_86, ph_87, ph_88, ph_89, ph_90, ph_91, ph_92, ph_93, ph_94, ph_95],
  [ph_96, ph_97, ph_98, ph_99, ph_100, ph_101, ph_102, ph_103, ph_104, ph_105, ph_106, ph_107, ph_108, ph_109, ph_110, ph_111],
  [ph_112, ph_113, ph_114, ph_115, ph_116, ph_117, ph_118, ph_119, ph_120, ph_121, ph_122, ph_123, ph_124, ph_125, ph_126, ph_127],
  [ph_128, ph_129, ph_130, ph_131, ph_132, ph_133, ph_134, ph_135, ph_136, ph_137, ph_138, ph_139, ph_140, ph_141, ph_142, ph_143],
  [ph_144, ph_145, ph_146, ph_147, ph_148, ph_149, ph_150, ph_151, ph_152, ph_153, ph_154, ph_155, ph_156, ph_157, ph_158, ph_159],
  [ph_160, ph_161, ph_162, ph_163, ph_164, ph_165, ph_166, ph_167, ph_168, ph_169, ph_170, ph_171, ph_172, ph_173, ph_174, ph_175],
  [ph_176, ph_177, ph_178, ph_179, ph_180, ph_181, ph_182, ph_183, ph_184, ph_185, ph_186, ph_187, ph_188, ph_189, ph_190, ph_191],
  [ph_192, ph_193, ph_194, ph_195, ph_196, ph_197]]
noncomputable def pms : List (List (Nat × Nat)) := [[(262, 68), (750, 68), (765, 68), (774, 68), (786, 68), (778, 68), (754, 68), (219, 67), (516, 67), (615, 67), (711, 67), (707, 67), (725, 67), (520, 67), (526, 67), (530, 67)],
  [(537, 67), (570, 67), (546, 67), (550, 67), (566, 67), (574, 67), (578, 67), (554, 67), (558, 67), (562, 67), (125, 63), (276, 69), (805, 69), (814, 69), (168, 64), (444, 64)],
  [(452, 64), (455, 64), (459, 64), (611, 64), (683, 64), (500, 64), (496, 64), (492, 64), (90, 62), (330, 62), (342, 62), (432, 62), (436, 62), (82, 61), (326, 61), (334, 61)],
  [(338, 61), (440, 61), (448, 61), (463, 61), (467, 61), (475, 61), (488, 61), (504, 61), (508, 61), (583, 61), (588, 61), (592, 61), (597, 61), (603, 61), (619, 61), (623, 61)],
  [(627, 61), (631, 61), (635, 61), (639, 61), (647, 61), (654, 61), (662, 61), (667, 61), (698, 61), (702, 61), (715, 61), (721, 61), (730, 61), (743, 61), (761, 61), (770, 61)],
  [(782, 61), (790, 61), (798, 61), (810, 61), (818, 61), (471, 61), (478, 61), (801, 61), (481, 61), (733, 61), (736, 61), (746, 61), (484, 61), (540, 61), (739, 61), (794, 61)],
  [(533, 61), (512, 61), (607, 61), (643, 61), (658, 61), (671, 61), (688, 61), (675, 61), (679, 61), (823, 70), (931, 70), (828, 70), (980, 70), (987, 70), (927, 70), (935, 70)],
  [(954, 70), (950, 70), (960, 70), (946, 70), (943, 70), (939, 70), (964, 70), (968, 70), (972, 70), (976, 70), (984, 70), (998, 70), (993, 70), (1002, 70), (1019, 70), (1055, 70)],
  [(1027, 70), (1031, 70), (1035, 70), (1023, 70), (1039, 70), (1046, 70), (1043, 70), (1050, 70), (1015, 70), (1011, 70), (1094, 70), (1086, 70), (1090, 70), (1007, 70), (1060, 70), (1068, 70)],
  [(1064, 70), (1072, 70), (1076, 70), (1082, 70), (1098, 70), (1102, 70), (1106, 70), (1110, 70), (1114, 70), (1126, 70), (1122, 70), (1118, 70), (1130, 70), (1138, 70), (1142, 70), (1134, 70)],
  [(1146, 70), (1170, 70), (1162, 70), (1166, 70), (1159, 70), (1155, 70), (1151, 70), (1174, 70), (1186, 70), (1182, 70), (1178, 70), (1190, 70), (1195, 70), (1202, 70), (1199, 70), (1210, 70)],
  [(1220, 70), (1207, 70), (1228, 70), (1224, 70), (1232, 70), (1236, 70), (1240, 70), (1248, 70), (1244, 70), (1252, 70), (1256, 70), (346, 71), (350, 71), (354, 71), (360, 71), (364, 71)],
  [(370, 72), (367, 72), (379, 72), (691, 77), (177, 66), (0, 0)]]
/-- a place of the micro-code as a place of the bytes -/
noncomputable def pPc (y i : Nat) : Nat := mNth 0 (mNth [] (mNth [] (mNth [] pps (y / 16)) (y % 16)) (i / 32)) (i % 32)
noncomputable def pHi (y i : Nat) : List Nat := mNth [] (mNth [] (mNth [] (mNth [] phs (y / 16)) (y % 16)) (i / 32)) (i % 32)
noncomputable def pHm (y : Nat) : Nat × Nat := mNth (0, 0) (mNth [] pms (y / 16)) (y % 16)
/-- which fields of a class are references -/
noncomputable def pkin : List (List Nat) := [[1], [1, 1, 1, 1, 1, 1, 1, 0, 0, 0], [1, 1, 1, 1, 0, 0, 0], [0, 1, 1, 1], [1, 0, 1, 1, 1, 1, 1], [1, 0, 1, 1, 0], [1, 1, 1, 1, 1, 1, 1, 1, 1, 0], [0, 1, 0, 0, 1, 1, 0, 0, 1, 1, 1, 0, 1, 1, 1, 1, 1, 1, 1, 1, 1, 1, 1, 0, 0, 1, 1, 1, 1, 1, 1]]
/-- links to private members of a nest mate -/
noncomputable def pNW : List Cond := [(Jvm.Cond.methodLinkNest "PotAndFine" (9 : Nat) ({ cls := "PotAndFine$Text", name := "<init>", desc := "()V" } : Jvm.MethodName) "PotAndFine"), (Jvm.Cond.fieldLinkNest "PotAndFine$Setup" (34 : Nat) "PotAndFine" "RULE_ELSE" "[I" "PotAndFine"), (Jvm.Cond.methodLinkNest "PotAndFine" (90 : Nat) ({ cls := "PotAndFine$Kept", name := "<init>", desc := "()V" } : Jvm.MethodName) "PotAndFine"), (Jvm.Cond.methodLinkNest "PotAndFine$Course" (64 : Nat) ({ cls := "PotAndFine", name := "placeOf", desc := "(II)I" } : Jvm.MethodName) "PotAndFine"), (Jvm.Cond.methodLinkNest "PotAndFine$Course" (121 : Nat) ({ cls := "PotAndFine", name := "meanOf", desc := "(II)I" } : Jvm.MethodName) "PotAndFine"), (Jvm.Cond.methodLinkNest "PotAndFine$Course" (124 : Nat) ({ cls := "PotAndFine", name := "paymentOf", desc := "(III)I" } : Jvm.MethodName) "PotAndFine"), (Jvm.Cond.methodLinkNest "PotAndFine$Book" (25 : Nat) ({ cls := "PotAndFine", name := "bookPlaceOf", desc := "(II)I" } : Jvm.MethodName) "PotAndFine"), (Jvm.Cond.methodLinkNest "PotAndFine$Book" (44 : Nat) ({ cls := "PotAndFine", name := "meanOf", desc := "(II)I" } : Jvm.MethodName) "PotAndFine")]
/-- static rows by their places -/
noncomputable def pSt : List (Nat × String) := [(1004, "RULE_ELSE"), (1052, "RULE_DIGITS"), (1053, "RULE_LEAST"), (1054, "RULE_MOST"), (1062, "PEOPLE_DIGITS"), (1063, "PEOPLE_LEAST"), (1064, "PEOPLE_MOST")]
/-- texts: index in the pool, text, place -/
noncomputable def pTx : List (Nat × String × Nat) := [(18, "EMFC", 1050), (37, "PZMGSVL", 1060)]
