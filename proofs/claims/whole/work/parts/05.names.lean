/-! names of classes and methods, places in bytes, hints: by wip/whole/names10.py -/
def RX0 : String := "PotAndFine$Book"
def TX0 : u_T := fun k => match k with
  | _ => ("PotAndFine$Book", "places", "[I", true)
def tyX0 : Nat → FieldType := fun k => match k with
  | _ => .array .int
theorem nmX0 : ∀ a, a < 1 → ∀ b, b < 1 → a ≠ b → (TX0 a).2.1 ≠ (TX0 b).2.1 := by decide +kernel
theorem tyX0_ok : ∀ k, k < 1 → parseFieldDescriptor (TX0 k).2.2.1 = some (tyX0 k) := by decide +kernel
def RX1 : String := "PotAndFine$Course"
def TX1 : u_T := fun k => match k with
  | 0 => ("PotAndFine$Course", "setup", "LPotAndFine$Setup;", true)
  | 1 => ("PotAndFine$Course", "puts", "[I", true)
  | 2 => ("PotAndFine$Course", "payments", "[I", true)
  | 3 => ("PotAndFine$Course", "losses", "[I", true)
  | 4 => ("PotAndFine$Course", "held", "[J", true)
  | 5 => ("PotAndFine$Course", "pots", "[I", true)
  | 6 => ("PotAndFine$Course", "now", "[I", true)
  | 7 => ("PotAndFine$Course", "nowPot", "I", false)
  | 8 => ("PotAndFine$Course", "nowIn", "I", false)
  | _ => ("PotAndFine$Course", "nowMean", "I", false)
def tyX1 : Nat → FieldType := fun k => match k with
  | 0 => .object "PotAndFine$Setup"
  | 1 => .array .int
  | 2 => .array .int
  | 3 => .array .int
  | 4 => .array .long
  | 5 => .array .int
  | 6 => .array .int
  | 7 => .int
  | 8 => .int
  | _ => .int
theorem nmX1 : ∀ a, a < 10 → ∀ b, b < 10 → a ≠ b → (TX1 a).2.1 ≠ (TX1 b).2.1 := by decide +kernel
theorem tyX1_ok : ∀ k, k < 10 → parseFieldDescriptor (TX1 k).2.2.1 = some (tyX1 k) := by decide +kernel
def RX2 : String := "PotAndFine$Grammar"
def TX2 : u_T := fun k => match k with
  | 0 => ("PotAndFine$Grammar", "letters", "Ljava/lang/String;", true)
  | 1 => ("PotAndFine$Grammar", "digits", "[I", true)
  | 2 => ("PotAndFine$Grammar", "least", "[I", true)
  | 3 => ("PotAndFine$Grammar", "most", "[I", true)
  | 4 => ("PotAndFine$Grammar", "eachOnce", "Z", true)
  | 5 => ("PotAndFine$Grammar", "fewestParts", "I", true)
  | _ => ("PotAndFine$Grammar", "mostParts", "I", true)
def tyX2 : Nat → FieldType := fun k => match k with
  | 0 => .object "java/lang/String"
  | 1 => .array .int
  | 2 => .array .int
  | 3 => .array .int
  | 4 => .boolean
  | 5 => .int
  | _ => .int
theorem nmX2 : ∀ a, a < 7 → ∀ b, b < 7 → a ≠ b → (TX2 a).2.1 ≠ (TX2 b).2.1 := by decide +kernel
theorem tyX2_ok : ∀ k, k < 7 → parseFieldDescriptor (TX2 k).2.2.1 = some (tyX2 k) := by decide +kernel
def RX3 : String := "PotAndFine$Kept"
def TX3 : u_T := fun k => match k with
  | 0 => ("PotAndFine$Kept", "filled", "Z", false)
  | 1 => ("PotAndFine$Kept", "told", "[I", true)
  | 2 => ("PotAndFine$Kept", "out", "[I", true)
  | _ => ("PotAndFine$Kept", "places", "[I", true)
def tyX3 : Nat → FieldType := fun k => match k with
  | 0 => .boolean
  | 1 => .array .int
  | 2 => .array .int
  | _ => .array .int
theorem nmX3 : ∀ a, a < 4 → ∀ b, b < 4 → a ≠ b → (TX3 a).2.1 ≠ (TX3 b).2.1 := by decide +kernel
theorem tyX3_ok : ∀ k, k < 4 → parseFieldDescriptor (TX3 k).2.2.1 = some (tyX3 k) := by decide +kernel
def RX4 : String := "PotAndFine$Setup"
def TX4 : u_T := fun k => match k with
  | 0 => ("PotAndFine$Setup", "rules", "[I", true)
  | 1 => ("PotAndFine$Setup", "size", "I", false)
  | 2 => ("PotAndFine$Setup", "letter", "[I", true)
  | 3 => ("PotAndFine$Setup", "amount", "[I", true)
  | 4 => ("PotAndFine$Setup", "anger", "[I", true)
  | 5 => ("PotAndFine$Setup", "told", "[I", true)
  | _ => ("PotAndFine$Setup", "out", "[I", true)
def tyX4 : Nat → FieldType := fun k => match k with
  | 0 => .array .int
  | 1 => .int
  | 2 => .array .int
  | 3 => .array .int
  | 4 => .array .int
  | 5 => .array .int
  | _ => .array .int
theorem nmX4 : ∀ a, a < 7 → ∀ b, b < 7 → a ≠ b → (TX4 a).2.1 ≠ (TX4 b).2.1 := by decide +kernel
theorem tyX4_ok : ∀ k, k < 7 → parseFieldDescriptor (TX4 k).2.2.1 = some (tyX4 k) := by decide +kernel
def RX5 : String := "PotAndFine$Text"
def TX5 : u_T := fun k => match k with
  | 0 => ("PotAndFine$Text", "bytes", "[I", true)
  | 1 => ("PotAndFine$Text", "length", "I", false)
  | 2 => ("PotAndFine$Text", "letters", "[I", true)
  | 3 => ("PotAndFine$Text", "numbers", "[I", true)
  | _ => ("PotAndFine$Text", "found", "I", false)
def tyX5 : Nat → FieldType := fun k => match k with
  | 0 => .array .int
  | 1 => .int
  | 2 => .array .int
  | 3 => .array .int
  | _ => .int
theorem nmX5 : ∀ a, a < 5 → ∀ b, b < 5 → a ≠ b → (TX5 a).2.1 ≠ (TX5 b).2.1 := by decide +kernel
theorem tyX5_ok : ∀ k, k < 5 → parseFieldDescriptor (TX5 k).2.2.1 = some (tyX5 k) := by decide +kernel
def RX6 : String := "PotAndFine"
def TX6 : u_T := fun k => match k with
  | 0 => ("PotAndFine", "text", "LPotAndFine$Text;", true)
  | 1 => ("PotAndFine", "ruleGrammar", "LPotAndFine$Grammar;", true)
  | 2 => ("PotAndFine", "groupGrammar", "LPotAndFine$Grammar;", true)
  | 3 => ("PotAndFine", "setup", "LPotAndFine$Setup;", true)
  | 4 => ("PotAndFine", "course", "LPotAndFine$Course;", true)
  | 5 => ("PotAndFine", "trialSetup", "LPotAndFine$Setup;", true)
  | 6 => ("PotAndFine", "trial", "LPotAndFine$Course;", true)
  | 7 => ("PotAndFine", "book", "LPotAndFine$Book;", true)
  | 8 => ("PotAndFine", "slots", "[LPotAndFine$Kept;", true)
  | _ => ("PotAndFine", "stale", "Z", false)
def tyX6 : Nat → FieldType := fun k => match k with
  | 0 => .object "PotAndFine$Text"
  | 1 => .object "PotAndFine$Grammar"
  | 2 => .object "PotAndFine$Grammar"
  | 3 => .object "PotAndFine$Setup"
  | 4 => .object "PotAndFine$Course"
  | 5 => .object "PotAndFine$Setup"
  | 6 => .object "PotAndFine$Course"
  | 7 => .object "PotAndFine$Book"
  | 8 => .array (.object "PotAndFine$Kept")
  | _ => .boolean
theorem nmX6 : ∀ a, a < 10 → ∀ b, b < 10 → a ≠ b → (TX6 a).2.1 ≠ (TX6 b).2.1 := by decide +kernel
theorem tyX6_ok : ∀ k, k < 10 → parseFieldDescriptor (TX6 k).2.2.1 = some (tyX6 k) := by decide +kernel
def RX7 : String := "PotAndFineModel"
def TX7 : u_T := fun k => match k with
  | 0 => ("PotAndFineModel", "thrown", "I", false)
  | 1 => ("PotAndFineModel", "text", "[I", true)
  | 2 => ("PotAndFineModel", "textSize", "I", false)
  | 3 => ("PotAndFineModel", "place", "I", false)
  | 4 => ("PotAndFineModel", "of", "[I", true)
  | 5 => ("PotAndFineModel", "readOf", "[I", true)
  | 6 => ("PotAndFineModel", "readParts", "I", false)
  | 7 => ("PotAndFineModel", "people", "I", false)
  | 8 => ("PotAndFineModel", "letter", "[I", true)
  | 9 => ("PotAndFineModel", "less", "[I", true)
  | 10 => ("PotAndFineModel", "anger", "[I", true)
  | 11 => ("PotAndFineModel", "readPeople", "I", false)
  | 12 => ("PotAndFineModel", "readLetter", "[I", true)
  | 13 => ("PotAndFineModel", "readLess", "[I", true)
  | 14 => ("PotAndFineModel", "readAnger", "[I", true)
  | 15 => ("PotAndFineModel", "told", "[I", true)
  | 16 => ("PotAndFineModel", "out", "[I", true)
  | 17 => ("PotAndFineModel", "kept", "[I", true)
  | 18 => ("PotAndFineModel", "keptOut", "[I", true)
  | 19 => ("PotAndFineModel", "keptBook", "[I", true)
  | 20 => ("PotAndFineModel", "isKept", "[Z", true)
  | 21 => ("PotAndFineModel", "book", "[I", true)
  | 22 => ("PotAndFineModel", "who", "[I", true)
  | 23 => ("PotAndFineModel", "many", "I", false)
  | 24 => ("PotAndFineModel", "isPlain", "Z", false)
  | 25 => ("PotAndFineModel", "puts", "[I", true)
  | 26 => ("PotAndFineModel", "fines", "[I", true)
  | 27 => ("PotAndFineModel", "holds", "[J", true)
  | 28 => ("PotAndFineModel", "other", "[J", true)
  | 29 => ("PotAndFineModel", "now", "[I", true)
  | _ => ("PotAndFineModel", "pays", "[I", true)
def tyX7 : Nat → FieldType := fun k => match k with
  | 0 => .int
  | 1 => .array .int
  | 2 => .int
  | 3 => .int
  | 4 => .array .int
  | 5 => .array .int
  | 6 => .int
  | 7 => .int
  | 8 => .array .int
  | 9 => .array .int
  | 10 => .array .int
  | 11 => .int
  | 12 => .array .int
  | 13 => .array .int
  | 14 => .array .int
  | 15 => .array .int
  | 16 => .array .int
  | 17 => .array .int
  | 18 => .array .int
  | 19 => .array .int
  | 20 => .array .boolean
  | 21 => .array .int
  | 22 => .array .int
  | 23 => .int
  | 24 => .boolean
  | 25 => .array .int
  | 26 => .array .int
  | 27 => .array .long
  | 28 => .array .long
  | 29 => .array .int
  | _ => .array .int
theorem nmX7 : ∀ a, a < 31 → ∀ b, b < 31 → a ≠ b → (TX7 a).2.1 ≠ (TX7 b).2.1 := by decide +kernel
theorem tyX7_ok : ∀ k, k < 31 → parseFieldDescriptor (TX7 k).2.2.1 = some (tyX7 k) := by decide +kernel
abbrev vwCl : List vw_C := [(RX0, TX0, 1), (RX1, TX1, 10), (RX2, TX2, 7), (RX3, TX3, 4), (RX4, TX4, 7), (RX5, TX5, 5), (RX6, TX6, 10), (RX7, TX7, 31)]
noncomputable def pnms : List (List MethodName) := [[⟨"PotAndFine$Book", "<init>", "()V"⟩, ⟨"PotAndFine$Book", "toldBy", "(III)I"⟩, ⟨"PotAndFine$Book", "countSlips", "(II)I"⟩, ⟨"PotAndFine$Book", "bestSort", "(I)I"⟩, ⟨"PotAndFine$Book", "countSorts", "(II)I"⟩, ⟨"PotAndFine$Book", "sortNumbered", "(I)I"⟩, ⟨"PotAndFine$Book", "meanOfOthers", "(II)I"⟩, ⟨"PotAndFine$Course", "<init>", "(LPotAndFine$Setup;)V"⟩, ⟨"PotAndFine$Course", "runAll", "()V"⟩, ⟨"PotAndFine$Course", "heldByAll", "(I)J"⟩, ⟨"PotAndFine$Course", "gotBy", "(III)J"⟩, ⟨"PotAndFine$Course", "bestPut", "(II)I"⟩, ⟨"PotAndFine$Course", "isAtRest", "(I)Z"⟩, ⟨"PotAndFine$Course", "putAll", "(I)V"⟩, ⟨"PotAndFine$Course", "usualPut", "(II)I"⟩, ⟨"PotAndFine$Course", "meanOfOthersBefore", "(II)I"⟩],
  [⟨"PotAndFine$Course", "paidToFine", "(II)I"⟩, ⟨"PotAndFine$Course", "paidBy", "(II)I"⟩, ⟨"PotAndFine$Course", "lookAt", "(III)V"⟩, ⟨"PotAndFine$Course", "payAll", "(I)V"⟩, ⟨"PotAndFine$Course", "settleAll", "(I)V"⟩, ⟨"PotAndFine$Course", "lossBetween", "(II)I"⟩, ⟨"PotAndFine$Course", "gotFromPot", "(I)J"⟩, ⟨"PotAndFine$Course", "dueFrom", "(III)I"⟩, ⟨"PotAndFine$Course", "byAnger", "(II)I"⟩, ⟨"PotAndFine$Course", "greatestBeside", "(I)I"⟩, ⟨"PotAndFine$Grammar", "<init>", "(Ljava/lang/String;[I[I[IZII)V"⟩, ⟨"PotAndFine$Kept", "<init>", "()V"⟩, ⟨"PotAndFine$Kept", "fillFrom", "(LPotAndFine$Setup;LPotAndFine$Book;)V"⟩, ⟨"PotAndFine$Kept", "giveBack", "(LPotAndFine$Setup;LPotAndFine$Book;)V"⟩, ⟨"PotAndFine$Setup", "<init>", "()V"⟩, ⟨"PotAndFine$Setup", "takeRuleText", "(LPotAndFine$Text;)V"⟩],
  [⟨"PotAndFine$Setup", "takeGroupText", "(LPotAndFine$Text;)V"⟩, ⟨"PotAndFine$Setup", "canBeAngry", "(I)Z"⟩, ⟨"PotAndFine$Setup", "untell", "()V"⟩, ⟨"PotAndFine$Setup", "takeFrom", "(LPotAndFine$Setup;)V"⟩, ⟨"PotAndFine$Setup", "takeSome", "(LPotAndFine$Setup;I)V"⟩, ⟨"PotAndFine$Setup", "isIn", "(II)Z"⟩, ⟨"PotAndFine$Setup", "countIn", "(I)I"⟩, ⟨"PotAndFine$Setup", "canSpare", "(I)Z"⟩, ⟨"PotAndFine$Text", "<init>", "()V"⟩, ⟨"PotAndFine$Text", "append", "(I)V"⟩, ⟨"PotAndFine$Text", "scan", "(LPotAndFine$Grammar;)I"⟩, ⟨"PotAndFine$Text", "wasFound", "(I)Z"⟩, ⟨"PotAndFine$Text", "scanNumber", "(LPotAndFine$Grammar;III)I"⟩, ⟨"PotAndFine", "<init>", "()V"⟩, ⟨"PotAndFine", "write", "(IJ)I"⟩, ⟨"PotAndFine", "wipe", "()I"⟩],
  [⟨"PotAndFine", "fault", "(Z)I"⟩, ⟨"PotAndFine", "rule", "()I"⟩, ⟨"PotAndFine", "group", "()I"⟩, ⟨"PotAndFine", "ruled", "(I)I"⟩, ⟨"PotAndFine", "person", "(II)I"⟩, ⟨"PotAndFine", "tell", "(III)I"⟩, ⟨"PotAndFine", "send", "(II)I"⟩, ⟨"PotAndFine", "fine", "(I)I"⟩, ⟨"PotAndFine", "put", "(II)I"⟩, ⟨"PotAndFine", "paid", "(III)I"⟩, ⟨"PotAndFine", "pot", "(I)I"⟩, ⟨"PotAndFine", "here", "(I)I"⟩, ⟨"PotAndFine", "holds", "(II)J"⟩, ⟨"PotAndFine", "all", "(IZ)J"⟩, ⟨"PotAndFine", "lost", "(II)I"⟩, ⟨"PotAndFine", "fall", "()I"⟩],
  [⟨"PotAndFine", "pays", "()I"⟩, ⟨"PotAndFine", "vote", "(I)I"⟩, ⟨"PotAndFine", "least", "(II)I"⟩, ⟨"PotAndFine", "leader", "()I"⟩, ⟨"PotAndFine", "led", "()J"⟩, ⟨"PotAndFine", "whom", "()I"⟩, ⟨"PotAndFine", "without", "(I)J"⟩, ⟨"PotAndFine", "part", "()I"⟩, ⟨"PotAndFine", "parted", "()J"⟩, ⟨"PotAndFine", "reply", "(II)I"⟩, ⟨"PotAndFine", "gain", "(III)J"⟩, ⟨"PotAndFine", "rest", "(I)I"⟩, ⟨"PotAndFine", "note", "(III)I"⟩, ⟨"PotAndFine", "would", "(III)I"⟩, ⟨"PotAndFine", "slips", "(II)I"⟩, ⟨"PotAndFine", "sort", "(I)I"⟩],
  [⟨"PotAndFine", "sorts", "(II)I"⟩, ⟨"PotAndFine", "copy", "()I"⟩, ⟨"PotAndFine", "keep", "(I)I"⟩, ⟨"PotAndFine", "again", "(I)I"⟩, ⟨"PotAndFine", "count", "(I)I"⟩, ⟨"PotAndFine", "isPerson", "(I)Z"⟩, ⟨"PotAndFine", "isRound", "(I)Z"⟩, ⟨"PotAndFine", "isSlot", "(I)Z"⟩, ⟨"PotAndFine", "isCoinsOrNone", "(I)Z"⟩, ⟨"PotAndFine", "isBookPerson", "(I)Z"⟩, ⟨"PotAndFine", "isBookRound", "(I)Z"⟩, ⟨"PotAndFine", "isSort", "(I)Z"⟩, ⟨"PotAndFine", "placeOf", "(II)I"⟩, ⟨"PotAndFine", "paymentOf", "(III)I"⟩, ⟨"PotAndFine", "bookPlaceOf", "(II)I"⟩, ⟨"PotAndFine", "countTold", "([I)I"⟩],
  [⟨"PotAndFine", "meanOf", "(II)I"⟩, ⟨"PotAndFine", "ran", "()LPotAndFine$Course;"⟩, ⟨"PotAndFine", "ranWithFine", "(I)LPotAndFine$Course;"⟩, ⟨"PotAndFine", "heldIfLedBy", "(I)J"⟩, ⟨"PotAndFine", "heldIfOut", "(I)J"⟩, ⟨"PotAndFine", "canBeHalved", "()Z"⟩, ⟨"PotAndFine", "isHalf", "(I)Z"⟩, ⟨"PotAndFine", "heldByHalves", "(I)J"⟩, ⟨"PotAndFineModel", "<init>", "()V"⟩, ⟨"PotAndFineModel", "in", "(JJJ)Z"⟩, ⟨"PotAndFineModel", "clear", "()V"⟩, ⟨"PotAndFineModel", "noPerson", "(I)Z"⟩, ⟨"PotAndFineModel", "noRound", "(I)Z"⟩, ⟨"PotAndFineModel", "write", "(IJ)I"⟩, ⟨"PotAndFineModel", "wipe", "()I"⟩, ⟨"PotAndFineModel", "figure", "(II)I"⟩],
  [⟨"PotAndFineModel", "two", "(II)I"⟩, ⟨"PotAndFineModel", "readRule", "()I"⟩, ⟨"PotAndFineModel", "kind", "(I)I"⟩, ⟨"PotAndFineModel", "readGroup", "()I"⟩, ⟨"PotAndFineModel", "fault", "(Z)I"⟩, ⟨"PotAndFineModel", "rule", "()I"⟩, ⟨"PotAndFineModel", "group", "()I"⟩, ⟨"PotAndFineModel", "ruled", "(I)I"⟩, ⟨"PotAndFineModel", "person", "(II)I"⟩, ⟨"PotAndFineModel", "tell", "(III)I"⟩, ⟨"PotAndFineModel", "staying", "()I"⟩, ⟨"PotAndFineModel", "send", "(II)I"⟩, ⟨"PotAndFineModel", "fine", "(I)I"⟩, ⟨"PotAndFineModel", "isIn", "(II)Z"⟩, ⟨"PotAndFineModel", "inMany", "(I)I"⟩, ⟨"PotAndFineModel", "bound", "(I)I"⟩],
  [⟨"PotAndFineModel", "meanOf", "(II)I"⟩, ⟨"PotAndFineModel", "taken", "(II)I"⟩, ⟨"PotAndFineModel", "putOf", "(II)I"⟩, ⟨"PotAndFineModel", "layFines", "(I)V"⟩, ⟨"PotAndFineModel", "nine", "(I)I"⟩, ⟨"PotAndFineModel", "layBy", "(III)V"⟩, ⟨"PotAndFineModel", "gets", "(II)J"⟩, ⟨"PotAndFineModel", "run", "()V"⟩, ⟨"PotAndFineModel", "runAll", "()V"⟩, ⟨"PotAndFineModel", "sumAt", "(I)J"⟩, ⟨"PotAndFineModel", "runBoth", "()V"⟩, ⟨"PotAndFineModel", "otherAt", "(I)J"⟩, ⟨"PotAndFineModel", "put", "(II)I"⟩, ⟨"PotAndFineModel", "paid", "(III)I"⟩, ⟨"PotAndFineModel", "potOf", "(I)I"⟩, ⟨"PotAndFineModel", "pot", "(I)I"⟩],
  [⟨"PotAndFineModel", "here", "(I)I"⟩, ⟨"PotAndFineModel", "holds", "(II)J"⟩, ⟨"PotAndFineModel", "all", "(IZ)J"⟩, ⟨"PotAndFineModel", "lost", "(II)I"⟩, ⟨"PotAndFineModel", "fall", "()I"⟩, ⟨"PotAndFineModel", "pays", "()I"⟩, ⟨"PotAndFineModel", "vote", "(I)I"⟩, ⟨"PotAndFineModel", "least", "(II)I"⟩, ⟨"PotAndFineModel", "leadBy", "(I)J"⟩, ⟨"PotAndFineModel", "findLeader", "()I"⟩, ⟨"PotAndFineModel", "leader", "()I"⟩, ⟨"PotAndFineModel", "led", "()J"⟩, ⟨"PotAndFineModel", "isFew", "(I)Z"⟩, ⟨"PotAndFineModel", "withoutOne", "(I)J"⟩, ⟨"PotAndFineModel", "whom", "()I"⟩, ⟨"PotAndFineModel", "without", "(I)J"⟩],
  [⟨"PotAndFineModel", "halfBy", "(I)J"⟩, ⟨"PotAndFineModel", "bits", "(I)I"⟩, ⟨"PotAndFineModel", "partBy", "(I)J"⟩, ⟨"PotAndFineModel", "findPart", "()I"⟩, ⟨"PotAndFineModel", "noHalves", "()Z"⟩, ⟨"PotAndFineModel", "part", "()I"⟩, ⟨"PotAndFineModel", "parted", "()J"⟩, ⟨"PotAndFineModel", "gainBy", "(III)J"⟩, ⟨"PotAndFineModel", "replyOf", "(II)I"⟩, ⟨"PotAndFineModel", "reply", "(II)I"⟩, ⟨"PotAndFineModel", "gain", "(III)J"⟩, ⟨"PotAndFineModel", "rest", "(I)I"⟩, ⟨"PotAndFineModel", "noPlace", "(II)Z"⟩, ⟨"PotAndFineModel", "note", "(III)I"⟩, ⟨"PotAndFineModel", "noSort", "(I)Z"⟩, ⟨"PotAndFineModel", "wouldBe", "(III)I"⟩],
  [⟨"PotAndFineModel", "would", "(III)I"⟩, ⟨"PotAndFineModel", "slipsOf", "(II)I"⟩, ⟨"PotAndFineModel", "slips", "(II)I"⟩, ⟨"PotAndFineModel", "sort", "(I)I"⟩, ⟨"PotAndFineModel", "sorts", "(II)I"⟩, ⟨"PotAndFineModel", "copy", "()I"⟩, ⟨"PotAndFineModel", "toldMany", "()I"⟩, ⟨"PotAndFineModel", "keep", "(I)I"⟩, ⟨"PotAndFineModel", "again", "(I)I"⟩, ⟨"PotAndFineModel", "count", "(I)I"⟩, ⟨"java/lang/String", "indexOf", "(I)I"⟩, ⟨"java/lang/String", "indexOf", "(II)I"⟩, ⟨"java/lang/String", "isLatin1", "()Z"⟩, ⟨"java/lang/String", "length", "()I"⟩, ⟨"java/lang/String", "coder", "()B"⟩, ⟨"java/lang/StringLatin1", "canEncode", "(I)Z"⟩],
  [⟨"java/lang/StringLatin1", "indexOf", "([BIII)I"⟩, ⟨"java/lang/StringLatin1", "indexOfChar", "([BIII)I"⟩, ⟨"java/lang/Integer", "bitCount", "(I)I"⟩, ⟨"java/util/Arrays", "fill", "([II)V"⟩, ⟨"PotAndFineLaw", "law", "([I)Z"⟩]]
noncomputable def pbys : List (List ByteArray) := [[prog_2_method_1_code, prog_2_method_2_code, prog_2_method_3_code, prog_2_method_4_code, prog_2_method_5_code, prog_2_method_6_code, prog_2_method_7_code, prog_3_method_1_code, prog_3_method_2_code, prog_3_method_3_code, prog_3_method_4_code, prog_3_method_5_code, prog_3_method_6_code, prog_3_method_7_code, prog_3_method_8_code, prog_3_method_9_code],
  [prog_3_method_10_code, prog_3_method_11_code, prog_3_method_12_code, prog_3_method_13_code, prog_3_method_14_code, prog_3_method_15_code, prog_3_method_16_code, prog_3_method_17_code, prog_3_method_18_code, prog_3_method_19_code, prog_4_method_1_code, prog_5_method_1_code, prog_5_method_2_code, prog_5_method_3_code, prog_6_method_1_code, prog_6_method_2_code],
  [prog_6_method_3_code, prog_6_method_4_code, prog_6_method_5_code, prog_6_method_6_code, prog_6_method_7_code, prog_6_method_8_code, prog_6_method_9_code, prog_6_method_10_code, prog_7_method_1_code, prog_7_method_2_code, prog_7_method_3_code, prog_7_method_4_code, prog_7_method_5_code, prog_1_method_1_code, prog_1_method_2_code, prog_1_method_3_code],
  [prog_1_method_4_code, prog_1_method_5_code, prog_1_method_6_code, prog_1_method_7_code, prog_1_method_8_code, prog_1_method_9_code, prog_1_method_10_code, prog_1_method_11_code, prog_1_method_12_code, prog_1_method_13_code, prog_1_method_14_code, prog_1_method_15_code, prog_1_method_16_code, prog_1_method_17_code, prog_1_method_18_code, prog_1_method_19_code],
  [prog_1_method_20_code, prog_1_method_21_code, prog_1_method_22_code, prog_1_method_23_code, prog_1_method_24_code, prog_1_method_25_code, prog_1_method_26_code, prog_1_method_27_code, prog_1_method_28_code, prog_1_method_29_code, prog_1_method_30_code, prog_1_method_31_code, prog_1_method_32_code, prog_1_method_33_code, prog_1_method_34_code, prog_1_method_35_code],
  [prog_1_method_36_code, prog_1_method_37_code, prog_1_method_38_code, prog_1_method_39_code, prog_1_method_40_code, prog_1_method_41_code, prog_1_method_42_code, prog_1_method_43_code, prog_1_method_44_code, prog_1_method_45_code, prog_1_method_46_code, prog_1_method_47_code, prog_1_method_48_code, prog_1_method_49_code, prog_1_method_50_code, prog_1_method_51_code],
  [prog_1_method_52_code, prog_1_method_53_code, prog_1_method_54_code, prog_1_method_55_code, prog_1_method_56_code, prog_1_method_57_code, prog_1_method_58_code, prog_1_method_59_code, prog_9_method_1_code, prog_9_method_3_code, prog_9_method_4_code, prog_9_method_5_code, prog_9_method_6_code, prog_9_method_7_code, prog_9_method_8_code, prog_9_method_9_code],
  [prog_9_method_10_code, prog_9_method_11_code, prog_9_method_12_code, prog_9_method_13_code, prog_9_method_14_code, prog_9_method_15_code, prog_9_method_16_code, prog_9_method_17_code, prog_9_method_18_code, prog_9_method_19_code, prog_9_method_20_code, prog_9_method_21_code, prog_9_method_22_code, prog_9_method_23_code, prog_9_method_24_code, prog_9_method_25_code],
  [prog_9_method_26_code, prog_9_method_27_code, prog_9_method_28_code, prog_9_method_29_code, prog_9_method_30_code, prog_9_method_31_code, prog_9_method_32_code, prog_9_method_33_code, prog_9_method_34_code, prog_9_method_35_code, prog_9_method_36_code, prog_9_method_37_code, prog_9_method_38_code, prog_9_method_39_code, prog_9_method_40_code, prog_9_method_41_code],
  [prog_9_method_42_code, prog_9_method_43_code, prog_9_method_44_code, prog_9_method_45_code, prog_9_method_46_code, prog_9_method_47_code, prog_9_method_48_code, prog_9_method_49_code, prog_9_method_50_code, prog_9_method_51_code, prog_9_method_52_code, prog_9_method_53_code, prog_9_method_54_code, prog_9_method_55_code, prog_9_method_56_code, prog_9_method_57_code],
  [prog_9_method_58_code, prog_9_method_59_code, prog_9_method_60_code, prog_9_method_61_code, prog_9_method_62_code, prog_9_method_63_code, prog_9_method_64_code, prog_9_method_65_code, prog_9_method_66_code, prog_9_method_67_code, prog_9_method_68_code, prog_9_method_69_code, prog_9_method_70_code, prog_9_method_71_code, prog_9_method_72_code, prog_9_method_73_code],
  [prog_9_method_74_code, prog_9_method_75_code, prog_9_method_76_code, prog_9_method_77_code, prog_9_method_78_code, prog_9_method_79_code, prog_9_method_80_code, prog_9_method_81_code, prog_9_method_82_code, prog_9_method_83_code, prog_13_method_79_code, prog_13_method_80_code, prog_13_method_154_code, prog_13_method_54_code, prog_13_method_152_code, prog_14_method_4_code],
  [prog_14_method_22_code, prog_14_method_23_code, prog_11_method_49_code, prog_17_method_103_code, code]]
noncomputable def prts : List (List (Option FieldType)) := [[none, some .int, some .int, some .int, some .int, some .int, some .int, none, none, some .long, some .long, some .int, some .boolean, none, some .int, some .int],
  [some .int, some .int, none, none, none, some .int, some .long, some .int, some .int, some .int, none, none, none, none, none, none],
  [none, some .boolean, none, none, none, some .boolean, some .int, some .boolean, none, none, some .int, some .boolean, some .int, none, some .int, some .int],
  [some .int, some .int, some .int, some .int, some .int, some .int, some .int, some .int, some .int, some .int, some .int, some .int, some .long, some .long, some .int, some .int],
  [some .int, some .int, some .int, some .int, some .long, some .int, some .long, some .int, some .long, some .int, some .long, some .int, some .int, some .int, some .int, some .int],
  [some .int, some .int, some .int, some .int, some .int, some .boolean, some .boolean, some .boolean, some .boolean, some .boolean, some .boolean, some .boolean, some .int, some .int, some .int, some .int],
  [some .int, some (.object "PotAndFine$Course"), some (.object "PotAndFine$Course"), some .long, some .long, some .boolean, some .boolean, some .long, none, some .boolean, none, some .boolean, some .boolean, some .int, some .int, some .int],
  [some .int, some .int, some .int, some .int, some .int, some .int, some .int, some .int, some .int, some .int, some .int, some .int, some .int, some .boolean, some .int, some .int],
  [some .int, some .int, some .int, none, some .int, none, some .long, none, none, some .long, none, some .long, some .int, some .int, some .int, some .int],
  [some .int, some .long, some .long, some .int, some .int, some .int, some .int, some .int, some .long, some .int, some .int, some .long, some .boolean, some .long, some .int, some .long],
  [some .long, some .int, some .long, some .int, some .boolean, some .int, some .long, some .long, some .int, some .int, some .long, some .int, some .boolean, some .int, some .boolean, some .int],
  [some .int, some .int, some .int, some .int, some .int, some .int, some .int, some .int, some .int, some .int, some .int, some .int, some .boolean, some .int, some .byte, some .boolean],
  [some .int, some .int, some .int, none, some .boolean]]
noncomputable def pnm (y : Nat) : MethodName := mNth ⟨"", "", ""⟩ (mNth [] pnms (y / 16)) (y % 16)
noncomputable def pby (y : Nat) : ByteArray := mNth ⟨#[]⟩ (mNth [] pbys (y / 16)) (y % 16)
noncomputable def prt (y : Nat) : Option FieldType := mNth none (mNth [] prts (y / 16)) (y % 16)
noncomputable def pp_0 : List (List Nat) := [[0, 1, 4, 5, 7, 9, 12, 13, 16, 18, 21]]
noncomputable def ph_0 : List (List (List Nat)) := [[[], [262, 83, 84], [], [], [112], [264], [], [264], [], [263, 175], []]]
noncomputable def pp_1 : List (List Nat) := [[0, 1, 3, 4, 6, 7, 9, 10, 12, 14, 15, 18, 20, 21, 22, 23, 26, 28, 29, 31, 32, 35, 36, 37, 38, 39, 40, 43, 46, 47, 50, 51], [52, 53, 54, 57, 58, 60, 62, 64, 67, 69, 72, 73, 75, 77, 78, 81]]
noncomputable def ph_1 : List (List (List Nat)) := [[[], [], [], [], [], [], [], [], [], [], [], [], [], [], [], [], [], [], [], [], [], [], [], [], [], [], [747, 749, 23], [], [], [264], [], []], [[], [], [734], [], [], [], [], [], [], [], [], [], [], [], [753, 371, 72, 372], []]]
noncomputable def pp_2 : List (List Nat) := [[0, 1, 2, 3, 5, 7, 9, 12, 13, 16, 17, 19, 22, 23, 25, 26, 27, 28, 30, 33, 35, 37, 39, 42, 44, 46, 49, 51, 53, 56, 59, 62], [65, 66]]
noncomputable def ph_2 : List (List (List Nat)) := [[[], [], [], [], [], [], [], [], [264], [], [], [734], [], [], [], [], [], [], [762, 744, 745], [], [], [], [], [], [], [], [], [], [], [], [], []], [[], []]]
noncomputable def pp_3 : List (List Nat) := [[0, 1, 2, 3, 4, 5, 8, 9, 10, 12, 14, 16, 19, 20, 22, 25, 26, 29, 31, 33, 34, 37, 39, 42, 43, 45, 46, 49, 52, 53]]
noncomputable def ph_3 : List (List (List Nat)) := [[[], [], [], [], [], [771, 759, 760], [], [], [], [], [], [], [], [], [772, 773], [], [771, 759, 760], [], [], [], [], [], [772, 773], [], [], [], [], [], [], []]]
noncomputable def pp_4 : List (List Nat) := [[0, 1, 2, 3, 5, 7, 9, 12, 13, 15, 18, 19, 22, 23, 26, 29, 32, 35, 36]]
noncomputable def ph_4 : List (List (List Nat)) := [[[], [], [], [], [], [], [], [], [], [772, 773], [], [771, 759, 760], [], [], [], [], [], [], []]]
noncomputable def pp_5 : List (List Nat) := [[0, 1, 2, 5, 6, 7, 8, 10, 13, 15, 16, 17, 18, 19, 20, 21, 23, 26, 29, 30, 31, 33, 34, 37, 40, 41, 42, 44, 45]]
noncomputable def ph_5 : List (List (List Nat)) := [[[], [], [], [], [], [], [], [], [], [], [], [], [], [], [], [], [], [], [], [], [], [], [], [], [], [], [], [], []]]
noncomputable def pp_6 : List (List Nat) := [[0, 1, 2, 3, 5, 6, 8, 10, 12, 15, 16, 19, 21, 22, 25, 26, 28, 30, 31, 34, 36, 38, 41, 42, 44, 45, 46, 49, 52, 55, 57, 60], [61, 63, 66, 69, 71]]
noncomputable def ph_6 : List (List (List Nat)) := [[[], [], [], [], [], [], [], [], [], [], [264], [], [], [734], [], [], [], [], [], [], [], [], [], [], [], [], [], [], [], [], [], []], [[], [531], [], [], []]]
noncomputable def pp_7 : List (List Nat) := [[0, 1, 4, 5, 8, 10, 13, 14, 17, 19, 22, 23, 26, 28, 31, 32, 35, 37, 40, 41, 43, 45, 48, 49, 51, 53, 56, 57, 58, 61, 62, 63], [66, 67, 68, 71, 72, 73, 76]]
noncomputable def ph_7 : List (List (List Nat)) := [[[], [219, 83, 84], [], [], [112], [221], [], [], [112], [223], [], [], [112], [225], [], [], [256], [227], [], [], [112], [229], [], [], [112], [231], [], [], [232], [], [], [233]], [[], [], [234], [], [], [220], []]]
noncomputable def pp_8 : List (List Nat) := [[0, 1, 2, 3, 5, 8, 9, 10, 13, 14, 15, 17, 18, 21, 22, 25, 26, 27, 30, 31, 32, 33, 36, 37, 38, 41, 44, 47]]
noncomputable def ph_8 : List (List (List Nat)) := [[[], [], [], [], [], [], [], [516, 518, 4], [], [], [], [], [542, 544, 8], [], [229], [], [], [232], [], [], [], [546, 548, 9], [], [], [562, 564, 13], [], [], []]]
noncomputable def pp_9 : List (List Nat) := [[0, 1, 2, 3, 5, 7, 8, 11, 14, 17, 18, 19, 22, 24, 25, 28, 29, 30, 31, 34, 37, 38]]
noncomputable def ph_9 : List (List (List Nat)) := [[[], [], [], [], [], [], [220], [181], [], [], [], [227], [], [], [482], [], [], [], [], [], [], []]]
noncomputable def pp_10 : List (List Nat) := [[0, 1, 2, 3, 4, 7, 8, 10, 11, 13, 15, 16, 19, 22, 25, 27, 28, 29, 30, 32, 33, 36, 37, 39, 40, 41, 44, 47, 48, 49, 51, 54], [57, 58, 59, 62, 65, 67, 68, 69]]
noncomputable def ph_10 : List (List (List Nat)) := [[[], [], [], [], [542, 544, 8], [], [], [], [], [], [], [220], [181], [], [], [], [], [], [], [], [550, 552, 10], [], [], [], [], [550, 552, 10], [570, 572, 15], [], [], [], [], []], [[], [], [574, 576, 16], [578], [], [], [], []]]
noncomputable def pp_11 : List (List Nat) := [[0, 1, 2, 3, 4, 5, 6, 9, 11, 12, 14, 16, 17, 20, 23, 24, 25, 28, 29, 30, 31, 33, 36, 38, 40, 42, 43, 46, 48, 49, 51, 53], [56, 59, 60]]
noncomputable def ph_11 : List (List (List Nat)) := [[[], [], [], [], [], [], [704, 705, 706], [], [], [], [], [], [220], [178], [], [], [], [], [], [], [], [704, 705, 706], [], [], [], [], [], [], [], [], [], []], [[], [], []]]
noncomputable def pp_12 : List (List Nat) := [[0, 1, 2, 3, 4, 7, 10, 13, 14, 17, 18, 19, 22, 25, 26, 27, 28, 29, 30, 31, 34, 37, 38, 39, 40, 41, 42, 43, 46, 47, 48, 51], [52, 55, 56, 59, 60, 61, 64, 67, 68]]
noncomputable def ph_12 : List (List (List Nat)) := [[[], [], [], [], [220], [181], [], [], [220], [], [], [520, 497, 498], [], [], [], [], [], [], [], [722, 701, 702], [704, 705, 706], [], [], [], [], [], [], [221], [], [], [482], []], [[704, 705, 706], [], [], [], [], [], [], [], []]]
noncomputable def pp_13 : List (List Nat) := [[0, 1, 2, 3, 4, 7, 10, 13, 15, 16, 17, 20, 21, 22, 25, 28, 29, 32, 35, 36, 37, 40, 41, 43, 45, 47, 50, 51, 52, 53, 56, 59], [61, 63, 64, 66, 67, 70, 73, 74, 75, 78, 81, 82, 83, 86, 87, 88, 91, 92, 93, 96, 99]]
noncomputable def ph_13 : List (List (List Nat)) := [[[], [], [], [], [220], [181], [], [], [], [], [220], [], [], [520, 497, 498], [], [], [220], [194], [], [], [482], [], [], [], [], [], [], [], [], [522, 524, 5], [], []], [[], [], [], [], [220], [178], [], [], [540, 374, 72, 375], [541, 371, 72, 372], [], [], [221], [], [], [482], [], [], [], [], []]]
noncomputable def pp_14 : List (List Nat) := [[0, 1, 4, 7, 8, 9, 10, 11, 14, 15, 18, 21, 22, 23, 24, 25, 26, 29, 30, 31, 32, 33, 36, 37, 40, 43, 44, 45, 46, 47, 48, 49], [51, 54, 55, 56, 57, 60, 61, 64, 67, 68, 69, 70, 71, 72, 75, 76, 77, 78, 79, 82, 83, 85, 86, 89, 92, 93, 94, 95, 96, 97, 98, 99], [102, 103, 105, 107, 110, 112, 114, 115, 118, 120, 121, 124, 127, 128, 129, 130]]
noncomputable def ph_14 : List (List (List Nat)) := [[[], [220], [184], [], [], [], [], [], [], [220], [187], [], [], [], [], [], [], [], [], [], [], [], [], [220], [178], [], [], [], [], [], [], []], [[], [], [], [], [526, 528, 6], [], [220], [187], [], [], [], [], [], [221], [], [], [], [], [482], [], [], [], [220], [178], [], [], [], [], [], [], [], [533, 535, 7]], [[], [], [], [], [], [], [], [], [], [], [220], [187], [], [], [], []]]
noncomputable def pp_15 : List (List Nat) := [[0, 1, 2, 3, 5, 6, 8, 10, 11, 14, 17, 20, 22, 23, 26, 27, 30, 32, 33, 36, 39, 40, 41, 44, 46, 47, 48, 49, 52, 53, 54, 55], [58, 61, 64, 65, 67, 70]]
noncomputable def ph_15 : List (List (List Nat)) := [[[], [], [], [], [], [], [], [], [220], [181], [], [], [], [], [], [220], [], [], [520, 497, 498], [], [], [], [221], [], [], [], [], [482], [], [], [], []], [[], [], [], [], [531], []]]
noncomputable def pp_16 : List (List Nat) := [[0, 1, 2, 3, 5, 7, 8, 11, 14, 17, 18, 19, 22, 24, 25, 26, 29, 30, 31, 32, 35, 38, 39]]
noncomputable def ph_16 : List (List (List Nat)) := [[[], [], [], [], [], [], [220], [181], [], [], [], [223], [], [], [], [538], [], [], [], [], [], [], []]]
noncomputable def pp_17 : List (List Nat) := [[0, 1, 2, 3, 5, 7, 8, 11, 14, 17, 18, 19, 22, 23, 25, 26, 29, 30, 31, 32, 35, 38, 39]]
noncomputable def ph_17 : List (List (List Nat)) := [[[], [], [], [], [], [], [220], [181], [], [], [], [223], [], [], [], [538], [], [], [], [], [], [], []]]
noncomputable def pp_18 : List (List Nat) := [[0, 1, 2, 5, 6, 7, 10, 11, 13, 15, 16, 19, 22, 25, 26, 29, 31, 33, 34, 37, 38, 41, 42, 45, 47, 48, 51, 52, 53, 54, 57, 59], [60, 62, 65, 66, 67, 70, 71, 74, 76, 77, 78, 81, 82, 83, 86, 87, 88, 91, 94, 97, 98, 99, 102, 103, 106, 109, 112]]
noncomputable def ph_18 : List (List (List Nat)) := [[[], [], [232], [], [], [233], [], [], [], [], [220], [181], [], [], [231], [], [], [], [], [], [], [], [221], [], [], [482], [], [], [], [231], [], []], [[], [], [], [], [232], [], [231], [], [], [], [232], [], [], [233], [], [], [233], [], [], [], [], [232], [], [233], [531], [234], []]]
noncomputable def pp_19 : List (List Nat) := [[0, 1, 2, 3, 4, 7, 10, 13, 14, 15, 16, 17, 20, 23, 26, 27, 30, 31, 32, 33, 36, 37, 38, 39, 40, 43, 44, 47, 50, 53, 56]]
noncomputable def ph_19 : List (List (List Nat)) := [[[], [], [], [], [220], [181], [], [], [], [], [], [220], [181], [], [], [223], [], [], [], [538], [], [], [], [], [550, 552, 10], [], [], [], [], [], []]]
noncomputable def pp_20 : List (List Nat) := [[0, 1, 2, 3, 4, 7, 10, 13, 14, 15, 18, 19, 20, 22, 23, 25, 26, 29, 30, 31, 33, 36, 37, 38, 39, 40, 43, 44, 45, 46, 49, 52], [54, 55, 56, 59, 62, 64, 65, 66, 67, 69, 70, 73, 74, 76, 77, 80, 81, 84, 85, 86, 87, 88, 91, 92, 95, 96, 97, 98, 99, 102, 103, 105], [106, 109, 110, 113, 114, 115, 116, 117, 120, 121, 124, 125, 126, 127, 130, 133]]
noncomputable def ph_20 : List (List (List Nat)) := [[[], [], [], [], [220], [181], [], [], [], [482], [], [], [], [], [], [], [231], [], [], [], [], [], [], [], [], [566, 568, 14], [], [], [], [533, 535, 7], [570, 572, 15], []], [[], [], [574, 576, 16], [578], [], [], [], [], [], [], [227], [], [], [], [], [], [227], [], [], [], [], [482], [], [], [], [], [], [], [225], [], [], []], [[], [], [225], [], [], [], [], [482], [], [], [], [], [], [], [], []]]
noncomputable def pp_21 : List (List Nat) := [[0, 1, 4, 7, 8, 9, 10, 11, 12, 15, 18, 19, 20, 21, 22, 23]]
noncomputable def ph_21 : List (List (List Nat)) := [[[], [220], [178], [], [], [], [], [], [220], [178], [], [], [], [], [], []]]
noncomputable def pp_22 : List (List Nat) := [[0, 1, 4, 7, 8, 9, 10, 13, 14, 15, 16, 17, 18, 21, 22, 25, 28, 29, 30, 31, 33, 34, 35, 38, 41, 42, 45, 46, 47, 48, 49, 50], [51]]
noncomputable def ph_22 : List (List (List Nat)) := [[[], [220], [178], [], [], [], [231], [], [], [], [], [], [232], [], [220], [178], [], [], [], [], [], [], [233], [531], [], [578], [], [], [], [], [], []], [[]]]
noncomputable def pp_23 : List (List Nat) := [[0, 1, 4, 7, 8, 9, 12, 13, 14, 17, 18, 21, 22, 23, 25, 28, 29, 32, 33, 34, 36, 39, 40, 41, 42, 45, 48, 49, 50, 76, 77, 78], [79, 82, 83, 86, 87, 88, 89, 92, 93, 94, 95, 96, 99, 102, 103, 104, 105, 108, 109, 110, 111, 114, 115, 118, 121, 122, 123, 124, 127, 128, 131, 132], [133, 134, 135, 136, 139, 140, 143, 144, 146, 148, 149, 150, 151, 154, 155, 158, 159, 160, 161, 164, 166, 167, 170, 171, 172]]
noncomputable def ph_23 : List (List (List Nat)) := [[[], [220], [178], [], [], [], [], [], [], [], [231], [], [], [], [], [], [231], [], [], [], [], [], [], [], [220], [184], [], [], [], [], [], []], [[234], [], [231], [], [], [], [554, 556, 11], [], [], [], [], [558, 560, 12], [], [], [], [], [231], [], [], [], [234], [], [554, 556, 11], [], [], [], [], [], [], [223], [], []], [[], [], [], [538], [], [], [], [], [], [], [], [], [234], [], [231], [], [], [], [554, 556, 11], [], [], [540, 374, 72, 375], [], [], []]]
noncomputable def pp_24 : List (List Nat) := [[0, 1, 4, 6, 7, 8, 11, 14, 15, 16, 17, 19, 20, 23, 26, 27]]
noncomputable def ph_24 : List (List (List Nat)) := [[[], [], [], [], [], [220], [191], [], [], [], [], [], [540, 374, 72, 375], [], [], []]]
noncomputable def pp_25 : List (List Nat) := [[0, 2, 3, 4, 5, 6, 7, 10, 13, 16, 17, 18, 21, 22, 25, 26, 27, 29, 32, 33, 35, 38, 39, 42, 43, 44, 45, 48, 49, 50, 53, 54], [55, 58, 61, 62]]
noncomputable def ph_25 : List (List (List Nat)) := [[[], [], [], [], [], [], [220], [181], [], [], [], [], [], [231], [], [], [], [], [], [], [], [], [231], [], [], [], [231], [], [], [], [], []], [[], [], [], []]]
noncomputable def pp_26 : List (List Nat) := [[0, 1, 4, 5, 6, 9, 10, 11, 14, 15, 16, 19, 20, 22, 25, 26, 28, 31, 32, 34, 37, 38, 40, 43]]
noncomputable def ph_26 : List (List (List Nat)) := [[[], [125, 83, 84], [], [], [126], [], [], [128], [], [], [130], [], [], [132], [], [], [134], [], [], [136], [], [], [138], []]]
noncomputable def pp_27 : List (List Nat) := [[0, 1, 4, 5, 9, 10, 13, 15, 18, 19, 21, 23, 26, 27, 29, 31, 34]]
noncomputable def ph_27 : List (List (List Nat)) := [[[], [276, 83, 84], [], [277], [], [], [112], [279], [], [], [112], [280], [], [], [112], [281], []]]
noncomputable def pp_28 : List (List Nat) := [[0, 1, 4, 5, 6, 9, 10, 11, 14, 15, 18, 19, 22, 23, 24, 27, 28, 29, 32, 33, 36, 37, 40, 41, 42, 45, 46, 47, 50, 51, 54, 55], [59]]
noncomputable def ph_28 : List (List (List Nat)) := [[[], [193], [], [], [279], [], [], [279], [], [802, 173, 172, 64], [], [197], [], [], [280], [], [], [280], [], [802, 173, 172, 64], [], [265], [], [], [281], [], [], [281], [], [802, 173, 172, 64], [], [277]], [[]]]
noncomputable def pp_29 : List (List Nat) := [[0, 1, 4, 5, 6, 9, 10, 11, 14, 15, 18, 19, 22, 23, 24, 27, 28, 29, 32, 33, 36, 37, 40, 41, 42, 45, 46, 47, 50, 51, 54]]
noncomputable def ph_29 : List (List (List Nat)) := [[[], [279], [], [], [193], [], [], [279], [], [802, 173, 172, 64], [], [280], [], [], [197], [], [], [280], [], [802, 173, 172, 64], [], [281], [], [], [265], [], [], [281], [], [802, 173, 172, 64], []]]
noncomputable def pp_30 : List (List Nat) := [[0, 1, 4, 5, 6, 8, 11, 12, 13, 16, 17, 19, 21, 24, 25, 27, 29, 32, 33, 35, 37, 40, 41, 44, 46, 49, 50, 52, 54, 57, 60, 61], [62, 65, 66, 67, 70, 71, 74, 75, 78, 79, 82, 84, 87, 88, 91, 93, 96]]
noncomputable def ph_30 : List (List (List Nat)) := [[[], [168, 83, 84], [], [], [112], [177], [], [], [180], [], [], [112], [183], [], [], [112], [186], [], [], [112], [189], [], [], [112], [192], [], [], [112], [196], [], [], []], [[177], [], [], [171, 173, 172, 64], [], [183], [], [174, 175], [], [192], [], [174, 175], [], [196], [], [174, 175], []]]
noncomputable def pp_31 : List (List Nat) := [[0, 3, 4, 5, 8, 9, 10, 13, 14, 15, 16, 17, 20, 23, 24, 27, 28, 31, 32, 33, 34, 37, 38, 39, 40, 43, 46]]
noncomputable def ph_31 : List (List (List Nat)) := [[[], [], [], [177], [], [], [171, 173, 172, 64], [], [], [], [], [99], [], [], [177], [], [95], [], [], [], [97], [], [], [], [], [], []]]
noncomputable def pp_32 : List (List Nat) := [[0, 1, 2, 5, 8, 9, 10, 11, 12, 15, 18, 19, 22, 23, 24, 25, 26, 29, 30, 31, 34, 35, 36, 37, 38, 41, 42, 43, 46, 48, 49, 52], [53, 55, 58, 59, 61, 62, 65, 66, 67, 68, 71, 72, 74, 77, 78, 80, 81, 84, 85, 86, 89, 92]]
noncomputable def ph_32 : List (List (List Nat)) := [[[], [], [99], [180], [], [], [], [], [180], [], [], [97], [], [], [], [], [183], [], [], [95], [], [], [], [], [183], [], [], [452, 453], [], [], [186], []], [[], [], [], [], [], [], [], [], [], [189], [], [], [], [], [], [], [], [], [], [], [], []]]
noncomputable def pp_33 : List (List Nat) := [[0, 1, 2, 5, 6, 7, 10, 11, 12, 15, 16, 19, 20]]
noncomputable def ph_33 : List (List (List Nat)) := [[[], [], [], [], [], [], [], [], [], [], [], [], []]]
noncomputable def pp_34 : List (List Nat) := [[0, 1, 4, 6, 9, 10, 13, 15, 18]]
noncomputable def ph_34 : List (List (List Nat)) := [[[], [192], [], [174, 175], [], [196], [], [174, 175], []]]
noncomputable def pp_35 : List (List Nat) := [[0, 1, 4, 5, 6, 9, 10, 11, 14, 15, 18, 19, 20, 23, 24, 26, 29, 30, 33, 34, 35, 38, 39, 41, 44, 45, 48, 49, 50, 53, 54, 56], [59, 60, 63, 64, 65, 68, 69, 70, 73, 74, 77, 78, 81, 82, 83, 86, 87, 89, 92, 93, 94, 97, 100]]
noncomputable def ph_35 : List (List (List Nat)) := [[[], [177], [], [], [177], [], [], [171, 173, 172, 64], [], [183], [], [], [183], [], [], [171, 173, 172, 64], [], [186], [], [], [186], [], [], [171, 173, 172, 64], [], [189], [], [], [189], [], [], [171, 173, 172, 64]], [[], [192], [], [], [192], [], [], [192], [], [171, 173, 172, 64], [], [196], [], [], [196], [], [], [171, 173, 172, 64], [], [], [180], [180], []]]
noncomputable def pp_36 : List (List Nat) := [[0, 1, 4, 5, 6, 9, 10, 11, 14, 15, 18, 19, 20, 23, 24, 25, 26, 27, 30, 33, 34, 35, 36, 37, 38, 39, 42, 43, 46, 47, 50, 51], [54, 55, 56, 57, 58, 61, 62, 65, 66, 69, 70, 71, 72, 73, 76, 77, 80, 81, 84, 85, 86, 87, 88, 89, 92, 93, 94, 97, 100, 103]]
noncomputable def ph_36 : List (List (List Nat)) := [[[], [177], [], [], [177], [], [], [171, 173, 172, 64], [], [689, 456, 457], [], [], [180], [], [], [], [], [180], [], [], [], [], [], [], [], [], [], [183], [], [180], [], [183]], [[], [], [], [], [186], [], [180], [], [186], [], [], [], [], [189], [], [180], [], [189], [], [], [], [], [], [180], [], [], [180], [], [], []]]
noncomputable def pp_37 : List (List Nat) := [[0, 1, 2, 5, 6, 7, 10, 11, 14, 15]]
noncomputable def ph_37 : List (List (List Nat)) := [[[], [], [196], [], [], [], [], [], [], []]]
noncomputable def pp_38 : List (List Nat) := [[0, 1, 2, 3, 4, 5, 6, 9, 12, 13, 14, 15, 18, 21, 24, 27, 30, 31]]
noncomputable def ph_38 : List (List (List Nat)) := [[[], [], [], [], [], [], [180], [], [], [], [], [496, 497, 498], [], [], [], [], [], []]]
noncomputable def pp_39 : List (List Nat) := [[0, 1, 3, 6, 7, 8, 10, 13, 16, 17, 20, 21, 22, 23, 24, 25, 28, 29, 32, 33]]
noncomputable def ph_39 : List (List (List Nat)) := [[[], [], [492, 493, 494], [], [], [], [496, 497, 498], [], [], [], [], [], [], [], [], [], [], [], [], []]]
noncomputable def pp_40 : List (List Nat) := [[0, 1, 4, 5, 7, 9, 12, 13, 14, 17, 18, 20, 22, 25, 26, 28, 30, 33, 34, 35, 38]]
noncomputable def ph_40 : List (List (List Nat)) := [[[], [90, 83, 84], [], [], [112], [91], [], [], [92], [], [], [112], [94], [], [], [112], [96], [], [], [98], []]]
noncomputable def pp_41 : List (List Nat) := [[0, 1, 4, 6, 9, 10, 13, 14, 17, 18, 19, 20, 21, 24, 25, 26, 29]]
noncomputable def ph_41 : List (List (List Nat)) := [[[], [92], [], [], [], [91], [], [92], [], [], [], [], [92], [], [], [92], []]]
noncomputable def pp_42 : List (List Nat) := [[0, 1, 2, 5, 6, 7, 8, 9, 10, 11, 14, 17, 18, 19, 22, 25, 26, 29, 30, 33, 34, 35, 36, 39, 41, 42, 43, 46, 49, 51, 54, 55], [58, 61, 62, 64, 67, 70, 71, 72, 73, 74, 76, 77, 78, 79, 80, 83, 85, 87, 89, 92, 94, 95, 96, 99, 100, 102, 103, 104, 105, 106, 107, 110], [111, 112, 113, 116, 118, 119, 120, 121, 122, 125, 128, 129, 132, 133, 136, 139, 140, 143, 146, 148]]
noncomputable def ph_42 : List (List (List Nat)) := [[[], [], [98], [], [], [], [], [], [], [139], [], [], [], [92], [], [], [127], [], [91], [], [], [], [342, 343, 344], [], [], [], [139], [], [], [], [], [135]], [[], [], [], [428, 430, 0], [], [], [], [], [], [], [], [], [], [], [432, 434, 1], [], [], [], [], [], [], [], [94], [], [], [], [], [], [], [], [98], []], [[], [], [129], [], [], [], [], [], [], [], [], [98], [], [137], [], [], [92], [], [], []]]
noncomputable def pp_43 : List (List Nat) := [[0, 1, 2, 3, 4, 7, 10, 11, 14, 15, 16, 17, 20, 21, 22, 25, 28, 29]]
noncomputable def ph_43 : List (List (List Nat)) := [[[], [], [], [], [98], [], [], [94], [], [], [], [], [], [], [], [], [], []]]
noncomputable def pp_44 : List (List Nat) := [[0, 1, 4, 5, 6, 8, 9, 11, 12, 14, 16, 18, 21, 22, 24, 25, 27, 29, 30, 33, 36, 37, 40, 41, 42, 45, 47, 48, 50, 51, 53, 55], [58, 60, 62, 65, 67, 68, 70, 72, 73, 75, 76, 78, 80, 81, 82, 84, 87, 89, 92, 93, 95, 97, 99, 100, 101, 104, 105, 106, 109, 111, 113, 114], [116, 117, 118, 119, 120, 123, 124, 125, 128, 130, 131, 134, 137, 138, 141, 143, 145, 146, 148]]
noncomputable def ph_44 : List (List (List Nat)) := [[[], [129], [], [], [], [], [], [], [], [], [], [], [], [], [], [], [], [], [92], [], [], [92], [], [], [91], [], [], [], [], [], [], []], [[], [], [], [], [], [], [], [], [], [], [], [], [], [], [], [], [], [], [], [], [], [], [], [], [133], [], [], [], [], [], [], []], [[], [], [], [], [131], [], [], [], [], [], [], [], [], [96], [], [], [], [], []]]
noncomputable def pp_45 : List (List Nat) := [[0, 1, 4, 5, 8, 9, 12, 15, 16, 19, 20, 22, 25, 28, 31, 32, 33, 34, 37, 40, 41, 44, 45, 47, 50, 53, 56, 57, 58, 60, 63, 66], [67, 70, 71, 74, 77, 78, 81, 82, 83, 86, 89, 92, 93, 96, 97, 100, 103, 104, 107, 108, 109, 112, 115, 118, 119, 122, 123, 126, 129, 130, 131, 134], [137, 138, 142, 143, 144, 145, 146, 149, 150, 153, 154, 157, 158, 161, 162, 165, 168]]
noncomputable def ph_45 : List (List (List Nat)) := [[[], [82, 83, 84], [], [85, 86, 61], [], [88], [291], [], [113, 114, 62], [], [], [116], [118], [120], [], [], [], [122, 123], [292], [], [113, 114, 62], [], [], [157], [159], [161], [], [], [], [122, 123], [293], []], [[163, 164, 63], [], [165, 166], [294], [], [214, 215, 66], [], [], [294], [216, 217], [295], [], [163, 164, 63], [], [165, 166], [296], [], [214, 215, 66], [], [], [296], [216, 217], [297], [], [257, 258, 67], [], [259, 260], [298], [], [], [270], [299]], [[], [300], [], [], [], [], [], [], [299], [], [270, 272, 68], [], [274], [], [], [], []]]
noncomputable def pp_46 : List (List Nat) := [[0, 1, 2, 5, 6, 8, 11, 13, 14, 15, 18, 21, 22, 23, 25, 28, 30, 31, 32, 33, 34, 36, 38, 41, 42, 45, 46, 48, 50, 51, 52, 53], [56, 57, 60, 63, 66, 67, 70, 73]]
noncomputable def ph_46 : List (List (List Nat)) := [[[], [], [], [], [], [], [], [], [], [291], [93], [], [], [], [], [], [], [], [], [], [], [], [], [], [291], [], [], [], [], [], [], []], [[], [326, 327, 328], [], [], [], [291], [93], []]]
noncomputable def pp_47 : List (List Nat) := [[0, 1, 4, 7, 8, 9, 12, 13, 16, 17]]
noncomputable def ph_47 : List (List (List Nat)) := [[[], [291], [93], [], [], [291], [], [93], [], []]]
noncomputable def pp_48 : List (List Nat) := [[0, 1, 4, 5, 8, 9, 12, 15, 16, 19, 22]]
noncomputable def ph_48 : List (List (List Nat)) := [[[], [291], [], [], [], [293], [], [], [292], [338, 339, 340], []]]
noncomputable def pp_49 : List (List Nat) := [[0, 1, 4, 5, 8, 11, 13, 16, 18, 19, 20, 23, 24, 27, 30, 31, 35, 36, 39, 42]]
noncomputable def ph_49 : List (List (List Nat)) := [[[], [291], [], [292], [338, 339, 340], [], [], [], [], [], [294], [], [291], [440, 441, 442], [], [300], [], [291], [100], []]]
noncomputable def pp_50 : List (List Nat) := [[0, 1, 4, 5, 8, 11, 13, 16, 18, 19, 20, 23, 24, 27, 30, 31, 34, 37, 38, 39, 40, 41, 44, 45, 48, 49, 50, 54, 57, 60, 61, 65], [66, 69, 72]]
noncomputable def ph_50 : List (List (List Nat)) := [[[], [291], [], [293], [338, 339, 340], [], [], [], [], [], [294], [], [291], [448, 449, 450], [], [294], [455, 456, 457], [], [], [], [], [], [], [299], [], [], [278], [], [], [], [300], []], [[294], [182], []]]
noncomputable def pp_51 : List (List Nat) := [[0, 1, 4, 5, 6, 9, 11, 14, 15, 18, 21, 22, 23]]
noncomputable def ph_51 : List (List (List Nat)) := [[[], [], [], [], [], [], [], [], [294], [179], [], [], []]]
noncomputable def pp_52 : List (List Nat) := [[0, 1, 2, 5, 8, 9, 10, 11, 36, 37, 40, 43, 44, 45, 46, 47, 50, 53, 54, 55, 56, 57, 60, 63, 64, 65, 66, 68]]
noncomputable def ph_52 : List (List (List Nat)) := [[[], [], [467, 469, 2], [], [], [], [], [], [], [294], [185], [], [], [], [], [294], [188], [], [], [], [], [294], [190], [], [], [], [], []]]
noncomputable def pp_53 : List (List Nat) := [[0, 1, 2, 5, 8, 9, 12, 15, 16, 17, 18, 21, 24, 26, 27, 28, 29, 32, 34, 35, 38, 41, 43, 44, 46, 47, 50, 53, 55, 56, 57, 58], [62, 64]]
noncomputable def ph_53 : List (List (List Nat)) := [[[], [], [467, 469, 2], [], [], [475, 476], [], [], [], [], [478, 479], [], [], [], [], [], [481, 482], [], [], [294], [195], [], [], [], [], [294], [195], [], [], [], [], [300]], [[], []]]
noncomputable def pp_54 : List (List Nat) := [[0, 1, 2, 5, 8, 9, 10, 11, 14, 15, 17, 20, 22, 23, 24, 26, 29, 30, 33, 34, 37, 40, 42, 43, 44, 47, 50, 51, 52, 53, 54, 57], [60, 61, 62, 63, 64, 68, 69]]
noncomputable def ph_54 : List (List (List Nat)) := [[[], [], [467, 469, 2], [], [], [], [], [], [], [], [], [], [], [], [], [], [], [294], [], [488, 489, 490], [], [], [], [], [294], [198], [], [], [], [], [294], [198]], [[], [], [], [], [300], [], []]]
noncomputable def pp_55 : List (List Nat) := [[0, 1, 4, 5, 7, 10, 12, 13, 14, 17, 20, 21, 22, 23, 24, 27, 30, 31, 32, 33, 34, 38, 39]]
noncomputable def ph_55 : List (List (List Nat)) := [[[], [], [], [], [], [], [], [], [294], [179], [], [], [], [], [294], [179], [], [], [], [], [300], [], []]]
noncomputable def pp_56 : List (List Nat) := [[0, 1, 2, 5, 8, 9, 12, 15, 16, 17, 18, 21, 24, 25, 26, 29, 30]]
noncomputable def ph_56 : List (List (List Nat)) := [[[], [], [467, 469, 2], [], [], [475, 476], [], [], [], [], [508, 510, 3], [222], [], [], [481, 482], [], []]]
noncomputable def pp_57 : List (List Nat) := [[0, 1, 2, 5, 8, 9, 10, 13, 16, 17, 20, 23, 24, 25, 26, 27, 30, 32, 33, 34, 37, 40, 41, 42, 43, 46, 47]]
noncomputable def ph_57 : List (List (List Nat)) := [[[], [], [467, 469, 2], [], [], [], [467, 469, 2], [], [], [475, 476], [], [], [], [], [], [], [], [], [], [508, 510, 3], [224], [], [], [], [583, 538], [], []]]
noncomputable def pp_58 : List (List Nat) := [[0, 1, 4, 7, 8, 11, 14, 15, 16, 19, 20]]
noncomputable def ph_58 : List (List (List Nat)) := [[[], [475, 476], [], [], [508, 510, 3], [230], [], [], [], [], []]]
noncomputable def pp_59 : List (List Nat) := [[0, 1, 4, 7, 8, 11, 12, 15, 18, 19]]
noncomputable def ph_59 : List (List (List Nat)) := [[[], [475, 476], [], [], [294], [], [592, 493, 494], [], [], []]]
noncomputable def pp_60 : List (List Nat) := [[0, 1, 2, 5, 8, 9, 12, 15, 18, 19, 22, 23, 26, 29, 30, 31, 34, 35, 36]]
noncomputable def ph_60 : List (List (List Nat)) := [[[], [], [467, 469, 2], [], [], [475, 476], [], [597], [], [598], [], [508, 510, 3], [228], [], [], [481, 482], [], [], []]]
noncomputable def pp_61 : List (List Nat) := [[0, 1, 4, 7, 10, 11, 12, 15, 16, 17, 20, 23, 24, 27, 28, 31, 32, 33, 36, 37]]
noncomputable def ph_61 : List (List (List Nat)) := [[[], [475, 476], [], [597], [], [], [], [], [], [603, 605, 17], [], [], [508, 510, 3], [], [598], [], [], [611, 612, 613], [], []]]
noncomputable def pp_62 : List (List Nat) := [[0, 1, 2, 5, 8, 9, 12, 15, 16, 17, 18, 21, 24, 25, 26, 29, 30]]
noncomputable def ph_62 : List (List (List Nat)) := [[[], [], [467, 469, 2], [], [], [475, 476], [], [], [], [], [508, 510, 3], [226], [], [], [481, 482], [], []]]
noncomputable def pp_63 : List (List Nat) := [[0, 1, 4, 5, 6, 9, 10, 11, 14, 16, 17, 18, 19, 20, 22, 25, 26, 27, 30, 31, 32, 33, 34, 37, 38, 39, 42, 43, 44, 47, 50, 52]]
noncomputable def ph_63 : List (List (List Nat)) := [[[], [508, 510, 3], [], [], [230], [], [], [], [], [], [], [], [], [], [], [], [], [230], [], [], [], [], [230], [], [], [], [], [], [], [], [], []]]
noncomputable def pp_64 : List (List Nat) := [[0, 1, 4, 5, 6, 7, 10, 11, 13, 14, 16, 18, 20, 23, 24, 26, 29, 30, 32, 35, 36, 39, 40, 41, 43, 44, 47, 50, 51]]
noncomputable def ph_64 : List (List (List Nat)) := [[[], [508, 510, 3], [], [], [], [603, 605, 17], [], [], [], [], [], [], [], [], [], [611, 612, 613], [], [], [611, 612, 613], [], [], [], [], [], [], [], [], [], []]]
noncomputable def pp_65 : List (List Nat) := [[0, 1, 4, 7, 8, 9, 10, 13, 14, 15, 16, 19, 20, 21, 23, 24, 26, 28, 29, 32, 35, 38, 40, 41, 44, 46, 47, 50, 52, 53, 54, 57], [59, 60, 61, 64, 66, 67, 69, 70, 71, 73, 76, 79, 81]]
noncomputable def ph_65 : List (List (List Nat)) := [[[], [475, 476], [], [], [], [], [508, 510, 3], [], [], [], [603, 605, 17], [], [], [], [], [], [], [], [294], [182], [], [], [], [481, 482], [], [], [228], [], [], [], [228], []], [[], [], [], [], [], [], [], [], [], [], [], [], []]]
noncomputable def pp_66 : List (List Nat) := [[0, 1, 4, 7, 8, 9, 10, 13, 14, 16, 19, 21, 22, 23, 24, 27, 28, 31, 32, 33, 34, 36, 38, 40, 43, 44, 46, 49, 52, 53, 54, 55], [58, 60, 61, 64, 67, 69]]
noncomputable def ph_66 : List (List (List Nat)) := [[[], [475, 476], [], [], [], [], [], [], [], [], [], [], [], [], [294], [], [592, 493, 494], [], [], [], [], [], [], [], [], [], [603, 605, 17], [230], [], [], [], []], [[], [], [], [], [], []]]
noncomputable def pp_67 : List (List Nat) := [[0, 1, 2, 3, 4, 5, 7, 9, 10, 13, 16, 19, 20, 22, 25, 27, 29, 32, 34, 35, 36, 39, 41, 42, 44, 45, 48, 51, 52]]
noncomputable def ph_67 : List (List (List Nat)) := [[[], [], [], [], [], [], [], [], [294], [182], [], [], [], [639, 641, 18], [], [], [], [], [], [], [], [], [], [], [], [], [], [], []]]
noncomputable def pp_68 : List (List Nat) := [[0, 1, 2, 5, 6, 7, 8, 9, 10, 13, 16, 19, 20, 21, 22, 25, 28, 29, 32, 35, 38, 39, 40]]
noncomputable def ph_68 : List (List (List Nat)) := [[[], [], [639, 641, 18], [], [], [], [], [], [294], [182], [], [], [], [], [639, 641, 18], [647, 648, 72, 649], [], [], [], [598], [], [], []]]
noncomputable def pp_69 : List (List Nat) := [[0, 2, 3, 4, 5, 6, 8, 10, 11, 14, 17, 20, 21, 24, 26, 29, 32, 33, 35, 38, 40, 41, 43, 46, 48, 49, 50, 53, 55, 56, 58, 59], [62, 65, 66]]
noncomputable def ph_69 : List (List (List Nat)) := [[[], [], [], [], [], [], [], [], [294], [182], [], [], [294], [], [488, 489, 490], [], [], [], [654, 656, 19], [], [], [], [], [], [], [], [], [], [], [], [], []], [[], [], []]]
noncomputable def pp_70 : List (List Nat) := [[0, 1, 2, 5, 8, 11, 12, 13, 16, 17, 20, 23, 26, 27, 28, 31, 32, 35, 38]]
noncomputable def ph_70 : List (List (List Nat)) := [[[], [], [467, 469, 2], [], [597], [], [], [294], [], [488, 489, 490], [], [598], [], [], [654, 656, 19], [], [], [662], []]]
noncomputable def pp_71 : List (List Nat) := [[0, 2, 3, 4, 5, 6, 8, 9, 12, 15, 17, 18, 19, 22, 25, 26, 29, 30, 32, 35, 38, 39, 41, 44, 46, 47, 49, 52, 54, 55, 56, 59], [61, 62, 64, 65, 68, 71, 72]]
noncomputable def ph_71 : List (List (List Nat)) := [[[], [], [], [], [], [], [], [667, 669, 20], [], [], [], [], [294], [182], [], [], [], [], [671, 673, 21], [], [], [], [681, 683, 22], [], [], [], [], [], [], [], [], []], [[], [], [], [], [], [], []]]
noncomputable def pp_72 : List (List Nat) := [[0, 1, 4, 7, 10, 11, 14, 15, 16, 17, 18, 19, 20, 23, 26, 27, 30, 31, 32, 35, 38, 39, 40, 41, 44, 47, 48, 51, 54, 57, 58, 59]]
noncomputable def ph_72 : List (List (List Nat)) := [[[], [667, 669, 20], [], [662], [], [694], [], [], [], [], [], [], [294], [182], [], [], [], [], [671, 673, 21], [], [], [], [], [681, 683, 22], [647, 648, 72, 649], [], [], [], [598], [], [], []]]
noncomputable def pp_73 : List (List Nat) := [[0, 1, 2, 5, 8, 9, 12, 15, 16, 17, 18, 21, 22, 23, 26, 29, 30, 33, 34, 35, 38, 41, 43]]
noncomputable def ph_73 : List (List (List Nat)) := [[[], [], [467, 469, 2], [], [], [475, 476], [], [], [], [], [294], [], [], [699, 497, 498], [], [], [508, 510, 3], [], [], [700, 701, 702], [], [], []]]
noncomputable def pp_74 : List (List Nat) := [[0, 1, 2, 5, 8, 9, 12, 15, 18, 19, 20, 23, 24, 25, 28, 31, 32, 33, 36, 39, 40, 41, 44, 45, 46, 49, 52, 55, 56, 59, 60, 61], [62, 65, 66, 69, 72]]
noncomputable def ph_74 : List (List (List Nat)) := [[[], [], [467, 469, 2], [], [], [475, 476], [], [597], [], [], [], [], [], [294], [179], [], [], [], [712], [], [], [294], [], [], [699, 497, 498], [], [598], [], [508, 510, 3], [], [], []], [[713, 705, 706], [], [], [662], []]]
noncomputable def pp_75 : List (List Nat) := [[0, 1, 4, 7, 8, 9, 10, 13, 14, 17, 20, 21, 24, 25]]
noncomputable def ph_75 : List (List (List Nat)) := [[[], [475, 476], [], [], [], [], [508, 510, 3], [], [718, 719, 720], [], [], [], [], []]]
noncomputable def pp_76 : List (List Nat) := [[0, 1, 4, 7, 8, 11, 14, 15, 16, 17, 20, 23, 25, 26, 27, 28, 31, 33, 34, 37, 40, 42, 43, 45, 46, 49, 52, 54, 55, 56, 58]]
noncomputable def ph_76 : List (List (List Nat)) := [[[], [727, 728], [], [], [730, 731], [], [], [], [], [478, 479], [], [], [], [], [], [733, 734], [], [], [298], [266], [], [], [], [], [298], [266], [], [], [], [], []]]
noncomputable def pp_77 : List (List Nat) := [[0, 1, 4, 7, 8, 11, 14, 15, 16, 17, 20, 23, 24, 27, 28, 29, 30, 33, 36, 38]]
noncomputable def ph_77 : List (List (List Nat)) := [[[], [727, 728], [], [], [730, 731], [], [], [], [], [740, 741], [], [], [298], [], [], [], [743, 744, 745], [], [], []]]
noncomputable def pp_78 : List (List Nat) := [[0, 1, 4, 7, 8, 9, 10, 13, 16, 17, 20, 21, 22, 25, 28, 30]]
noncomputable def ph_78 : List (List (List Nat)) := [[[], [727, 728], [], [], [], [], [740, 741], [], [], [298], [], [], [758, 759, 760], [], [], []]]
noncomputable def pp_79 : List (List Nat) := [[0, 1, 4, 7, 8, 11, 12, 15, 18, 19]]
noncomputable def ph_79 : List (List (List Nat)) := [[[], [727, 728], [], [], [298], [], [767, 768, 769], [], [], []]]
noncomputable def pp_80 : List (List Nat) := [[0, 1, 4, 7, 8, 9, 10, 13, 14, 16, 19, 21, 24, 25, 28, 29, 30, 33]]
noncomputable def ph_80 : List (List (List Nat)) := [[[], [727, 728], [], [], [], [], [], [], [], [], [], [], [], [298], [], [], [779, 780, 781], []]]
noncomputable def pp_81 : List (List Nat) := [[0, 1, 4, 5, 6, 9, 12, 14, 17, 18, 19, 20, 21, 24, 27, 30, 31, 32, 33, 35, 38, 39, 42, 45, 46, 47, 50, 51, 54, 55, 56, 59], [60, 61, 64, 67, 70, 73, 74, 77, 80, 83]]
noncomputable def ph_81 : List (List (List Nat)) := [[[], [508, 510, 3], [], [], [298], [266], [], [787, 175], [], [], [], [], [294], [182], [], [], [], [], [], [], [], [298], [266], [], [], [733, 734], [], [222], [], [], [481, 482], []], [[], [], [], [], [], [], [298], [266], [788, 789], []]]
noncomputable def pp_82 : List (List Nat) := [[0, 1, 4, 7, 8, 9, 10, 13, 14, 15, 16, 19, 20, 23, 26, 27, 30, 33, 36]]
noncomputable def ph_82 : List (List (List Nat)) := [[[], [795, 796], [], [], [], [], [299], [], [], [], [294], [], [298], [798, 799, 800], [], [294], [195], [788, 789], []]]
noncomputable def pp_83 : List (List Nat) := [[0, 1, 4, 7, 8, 9, 10, 13, 14, 15, 18, 21, 23, 24, 25, 28, 29, 30, 31, 34, 35, 38, 41, 42, 46, 47, 50, 53, 56]]
noncomputable def ph_83 : List (List (List Nat)) := [[[], [795, 796], [], [], [], [], [299], [], [], [278], [], [], [], [], [299], [], [], [], [294], [], [298], [807, 808, 809], [], [300], [], [294], [195], [788, 789], []]]
noncomputable def pp_84 : List (List Nat) := [[0, 1, 36, 37, 40, 43, 44, 45, 48, 51, 54, 55, 56, 59, 62, 63, 66, 68, 71, 72, 73, 74, 77, 80, 83, 84, 85, 88, 91, 92, 94]]
noncomputable def ph_84 : List (List (List Nat)) := [[[], [], [], [294], [182], [], [], [294], [195], [788, 789], [], [], [294], [182], [], [294], [], [592, 493, 494], [], [], [], [298], [266], [788, 789], [], [], [291], [93], [], [], []]]
noncomputable def pp_85 : List (List Nat) := [[0, 1, 4, 5, 6, 9, 12, 15, 16, 19, 20]]
noncomputable def ph_85 : List (List (List Nat)) := [[[], [], [], [], [294], [182], [], [], [], [], []]]
noncomputable def pp_86 : List (List Nat) := [[0, 1, 4, 5, 7, 10, 11, 14, 15]]
noncomputable def ph_86 : List (List (List Nat)) := [[[], [], [], [], [], [], [], [], []]]
noncomputable def pp_87 : List (List Nat) := [[0, 1, 4, 5, 6, 9, 10, 13, 14]]
noncomputable def ph_87 : List (List (List Nat)) := [[[], [], [], [], [], [], [], [], []]]
noncomputable def pp_88 : List (List Nat) := [[0, 1, 3, 6, 7, 10, 11, 13, 16, 17, 20, 21]]
noncomputable def ph_88 : List (List (List Nat)) := [[[], [], [], [], [], [], [], [], [], [], [], []]]
noncomputable def pp_89 : List (List Nat) := [[0, 1, 4, 5, 7, 10, 11, 14, 15]]
noncomputable def ph_89 : List (List (List Nat)) := [[[], [], [], [], [], [], [], [], []]]
noncomputable def pp_90 : List (List Nat) := [[0, 1, 4, 5, 7, 10, 11, 14, 15]]
noncomputable def ph_90 : List (List (List Nat)) := [[[], [], [], [], [], [], [], [], []]]
noncomputable def pp_91 : List (List Nat) := [[0, 1, 4, 5, 7, 10, 11, 13, 16, 17, 20, 23, 24, 27, 30, 31, 34, 37, 38, 41, 44, 45, 48, 49]]
noncomputable def ph_91 : List (List (List Nat)) := [[[], [], [], [], [], [], [], [], [], [], [], [], [], [], [], [], [], [], [], [], [], [], [], []]]
noncomputable def pp_92 : List (List Nat) := [[0, 1, 3, 4, 5, 6]]
noncomputable def ph_92 : List (List (List Nat)) := [[[], [], [], [], [], []]]
noncomputable def pp_93 : List (List Nat) := [[0, 1, 3, 4, 5, 6, 8, 9, 10, 11]]
noncomputable def ph_93 : List (List (List Nat)) := [[[], [], [], [], [], [], [], [], [], []]]
noncomputable def pp_94 : List (List Nat) := [[0, 1, 3, 4, 5, 6]]
noncomputable def ph_94 : List (List (List Nat)) := [[[], [], [], [], [], []]]
noncomputable def pp_95 : List (List Nat) := [[0, 1, 2, 3, 4, 5, 6, 7, 10, 11, 12, 13, 15, 18, 21, 24, 27, 28]]
noncomputable def ph_95 : List (List (List Nat)) := [[[], [], [], [], [], [], [], [], [], [], [], [], [], [], [], [], [], []]]
noncomputable def pp_96 : List (List Nat) := [[0, 1, 4, 5, 6, 7, 10, 11]]
noncomputable def ph_96 : List (List (List Nat)) := [[[], [], [], [], [], [], [], []]]
noncomputable def pp_97 : List (List Nat) := [[0, 1, 4, 7, 8, 11, 14, 15, 19, 20, 23]]
noncomputable def ph_97 : List (List (List Nat)) := [[[], [300], [], [], [295], [512, 513, 514], [], [300], [], [295], []]]
noncomputable def pp_98 : List (List Nat) := [[0, 1, 4, 5, 8, 11, 12, 15, 18, 19, 20, 21, 22, 25, 28, 29, 32]]
noncomputable def ph_98 : List (List (List Nat)) := [[[], [296], [], [294], [607, 608, 609], [], [296], [179], [], [], [], [], [297], [512, 513, 514], [], [297], []]]
noncomputable def pp_99 : List (List Nat) := [[0, 1, 4, 5, 8, 11, 12, 15, 18, 19, 20, 23, 24, 27, 30, 31, 32, 33, 34, 37, 40, 41, 44, 46, 49]]
noncomputable def ph_99 : List (List (List Nat)) := [[[], [296], [], [294], [607, 608, 609], [], [296], [195], [], [], [481, 482], [], [294], [179], [], [], [], [], [297], [512, 513, 514], [], [297], [], [611, 612, 613], []]]
noncomputable def pp_100 : List (List Nat) := [[0, 1, 4, 5, 8, 11, 12, 15, 18, 19, 20, 21, 22, 25, 28, 29, 32, 34, 37]]
noncomputable def ph_100 : List (List (List Nat)) := [[[], [296], [], [294], [607, 608, 609], [], [296], [198], [], [], [], [], [297], [512, 513, 514], [], [297], [], [611, 612, 613], []]]
noncomputable def pp_101 : List (List Nat) := [[0, 1, 4, 7, 8, 11, 12, 15, 18, 20, 23, 24, 27, 28]]
noncomputable def ph_101 : List (List (List Nat)) := [[[], [294], [182], [], [], [], [294], [182], [], [], [], [], [], []]]
noncomputable def pp_102 : List (List Nat) := [[0, 1, 2, 5, 6, 7, 10, 13, 16, 17, 20, 21]]
noncomputable def ph_102 : List (List (List Nat)) := [[[], [], [675, 676], [], [], [294], [182], [], [], [], [], []]]
noncomputable def pp_103 : List (List Nat) := [[0, 1, 4, 5, 8, 9, 12, 13, 16, 19, 20, 23, 25, 28, 29, 30, 33, 34, 37, 38, 39, 40, 43, 44, 47, 50, 51, 52, 55, 57, 60, 61]]
noncomputable def ph_103 : List (List (List Nat)) := [[[], [296], [], [294], [], [685, 686, 687], [], [297], [512, 513, 514], [], [297], [], [611, 612, 613], [], [], [296], [], [294], [], [], [], [685, 686, 687], [], [297], [512, 513, 514], [], [], [297], [], [611, 612, 613], [], []]]
noncomputable def pp_104 : List (List Nat) := [[0, 1, 4, 5, 7, 9, 12, 13, 14, 16, 19, 20, 21, 23, 26, 27, 29, 31, 34, 35, 37, 39, 42, 43, 45, 47, 50, 51, 53, 55, 58, 59], [61, 63, 66, 67, 69, 71, 74, 75, 78, 80, 83, 84, 86, 88, 91, 92, 95, 97, 100, 101, 103, 105, 108, 109, 111, 113, 116, 117, 118, 120, 123, 124], [126, 128, 131, 132, 134, 136, 139, 140, 143, 145, 148, 149, 152, 154, 157, 158, 161, 163, 166, 167, 170, 172, 175, 176, 178, 180, 183, 184, 186, 188, 191, 192], [195, 196, 198, 199, 200, 203, 204, 206, 207, 208, 211, 212, 213, 214, 215, 218, 219, 220, 221, 222, 223, 226, 227, 230, 231, 232, 233, 234, 237, 238, 239, 240], [241, 244, 245, 246, 247, 249, 252, 253, 256, 257, 259, 260, 263, 266]]
noncomputable def ph_104 : List (List (List Nat)) := [[[], [820, 83, 84], [], [], [112], [826], [], [], [112], [829], [], [], [112], [830], [], [], [112], [833], [], [], [112], [834], [], [], [112], [835], [], [], [112], [837], [], []], [[112], [838], [], [], [112], [839], [], [], [112], [840], [], [], [112], [841], [], [], [112], [842], [], [], [112], [843], [], [], [112], [844], [], [], [919], [845], [], []], [[112], [846], [], [], [112], [847], [], [], [112], [850], [], [], [112], [851], [], [], [256], [852], [], [], [256], [853], [], [], [112], [854], [], [], [112], [855], [], [829]], [[], [], [], [], [829], [], [], [], [], [829], [], [], [], [], [829], [], [], [], [], [], [832], [], [833], [], [], [], [], [833], [], [], [], []], [[821, 823, 24], [], [], [], [], [], [], [846], [], [], [], [], [], []]]
noncomputable def pp_105 : List (List Nat) := [[0, 1, 2, 3, 6, 7, 9, 10, 13, 14, 17, 18]]
noncomputable def ph_105 : List (List (List Nat)) := [[[], [], [], [], [], [], [], [], [], [], [], []]]
noncomputable def pp_106 : List (List Nat) := [[0, 1, 2, 3, 6, 9, 10, 13, 14, 16, 17, 20, 23, 24, 25, 26, 28, 31, 32, 35, 36, 38, 39, 42, 45, 46, 49, 50, 52, 53, 56, 57], [59]]
noncomputable def ph_106 : List (List (List Nat)) := [[[], [], [], [], [], [], [840], [], [], [], [], [], [], [], [], [], [], [], [841], [], [], [], [], [], [], [845], [], [], [], [845], [], []], [[]]]
noncomputable def pp_107 : List (List Nat) := [[0, 1, 2, 3, 4, 7, 8, 9, 10, 13, 16, 17, 20, 21]]
noncomputable def ph_107 : List (List (List Nat)) := [[[], [], [], [], [832], [], [], [], [925, 926], [], [], [], [], []]]
noncomputable def pp_108 : List (List Nat) := [[0, 1, 2, 3, 6, 9, 12, 13, 16, 17]]
noncomputable def ph_108 : List (List (List Nat)) := [[[], [], [], [984], [925, 926], [], [], [], [], []]]
noncomputable def pp_109 : List (List Nat) := [[0, 1, 2, 5, 6, 7, 8, 11, 14, 17, 19, 20, 21, 24, 25, 26, 28, 31, 33, 34, 35, 36, 37, 39, 41, 44, 45, 48, 49, 52, 53, 55], [57, 58, 59, 60, 63, 64, 65, 66, 67, 70, 71, 72, 75, 78, 81, 82, 85]]
noncomputable def ph_109 : List (List (List Nat)) := [[[], [], [825], [], [], [], [924], [925, 926], [], [], [], [], [827], [], [], [], [], [], [], [], [], [], [], [], [], [], [826], [], [827], [], [], []], [[], [], [], [], [], [], [], [], [827], [], [], [827], [], [], [], [827], []]]
noncomputable def pp_110 : List (List Nat) := [[0, 1, 2, 5, 6, 9, 10, 11, 12, 15, 16]]
noncomputable def ph_110 : List (List (List Nat)) := [[[], [], [825], [], [827], [], [], [], [827], [], []]]
noncomputable def pp_111 : List (List Nat) := [[0, 1, 4, 5, 8, 11, 12, 15, 16, 19, 20, 22, 23, 24, 25, 26, 27, 28, 31, 34, 36, 37, 38, 39, 42, 43, 44, 47, 48, 51, 52, 55], [56, 57, 58, 60, 61]]
noncomputable def ph_111 : List (List (List Nat)) := [[[], [828], [], [827], [], [], [826], [], [828], [], [], [], [], [], [], [], [], [925, 926], [], [], [], [], [], [828], [], [], [828], [], [826], [], [828], []], [[], [], [], [], []]]
noncomputable def pp_112 : List (List Nat) := [[0, 1, 2, 3, 5, 6, 9, 10, 11, 13, 16, 18, 19, 20, 21, 24, 25, 28, 29, 30, 31, 33, 34, 37, 38, 41, 43, 46, 48, 50, 52, 55], [57, 60, 62, 63, 64, 66, 67]]
noncomputable def ph_112 : List (List (List Nat)) := [[[], [], [], [], [], [947, 949, 27], [], [], [], [], [], [], [], [], [], [], [], [], [], [], [], [], [], [], [], [], [947, 949, 27], [], [], [], [], []], [[], [], [], [], [], [], []]]
noncomputable def pp_113 : List (List Nat) := [[0, 1, 2, 5, 6, 7, 10, 11, 14, 15, 17, 18, 19, 22, 23, 25, 26, 27, 30, 31, 32, 33, 34, 37, 38, 39, 40, 41, 42, 43, 46, 47], [50, 53, 54, 57, 58, 61, 62, 63, 64, 66, 69, 70, 73, 74, 76, 79, 80, 83, 84, 86, 89, 90, 93, 94, 96, 99, 100, 103, 105, 106, 107, 109], [112, 113, 114, 115, 116, 117, 118, 121, 122, 125, 126, 127, 128, 131, 132, 133, 136, 137, 140, 141, 142, 144, 147, 150, 151, 152, 155, 156, 157, 159, 162, 165], [166, 167, 168, 171, 172, 175, 176, 178, 181, 183, 185, 187, 190, 191, 194, 195, 196, 199, 200, 202, 203, 204, 205, 206, 207, 208, 209, 210, 211, 214, 215, 216], [219, 222, 224]]
noncomputable def ph_113 : List (List (List Nat)) := [[[], [], [828], [], [], [831], [], [830], [], [], [], [], [830], [], [], [], [], [830], [], [], [], [], [830], [], [], [], [], [], [], [828], [], [827]], [[], [], [826], [], [828], [], [], [], [], [], [], [], [], [], [], [], [], [], [], [], [], [], [], [], [], [], [], [], [], [], [], []], [[], [], [], [], [], [], [], [], [828], [], [], [], [828], [], [], [828], [], [], [], [], [], [943, 945, 26], [], [], [], [], [], [], [], [943, 945, 26], [], []], [[], [], [], [], [], [], [], [947, 949, 27], [], [], [], [], [], [828], [], [], [830], [], [], [], [], [], [], [], [], [], [], [], [831], [], [], [831]], [[], [], []]]
noncomputable def pp_114 : List (List Nat) := [[0, 1, 3, 6, 7, 10, 11, 13, 16, 17, 20, 21, 23, 26, 27, 30, 31, 33, 36, 37, 40, 41, 43, 46, 47, 50, 51, 53, 56, 57, 60, 61], [63, 66, 68, 71, 73]]
noncomputable def ph_114 : List (List (List Nat)) := [[[], [], [], [], [], [], [], [], [], [], [], [], [], [], [], [], [], [], [], [], [], [], [], [], [], [], [], [], [], [], [], []], [[], [], [], [], []]]
noncomputable def pp_115 : List (List Nat) := [[0, 1, 2, 5, 6, 7, 10, 11, 14, 15, 18, 21, 22, 25, 26, 29, 30, 33, 34, 35, 37, 40, 41, 44, 46, 49, 50, 53, 54, 55, 56, 59], [60, 61, 64, 65, 68, 69, 70, 72, 75, 78, 79, 80, 83, 84, 87, 88, 89, 91, 94, 95, 96, 98, 101, 103, 106, 107, 108, 111, 114, 117, 120, 121], [122, 124, 127, 130, 131, 132, 133, 135, 138, 139, 142, 143, 144, 147, 148, 151, 152, 153, 154, 157, 158, 161, 162, 163, 164, 167, 168, 171, 172, 173, 174, 175], [178, 179, 180, 183, 186, 187, 190, 191, 194, 195, 198, 201, 203]]
noncomputable def ph_115 : List (List (List Nat)) := [[[], [], [828], [], [], [836], [], [828], [], [827], [], [], [826], [], [828], [], [940, 941], [], [], [], [], [], [836], [], [], [], [828], [], [], [], [828], []], [[], [828], [], [], [], [], [], [943, 945, 26], [], [], [], [], [], [], [], [], [], [947, 949, 27], [], [], [], [], [], [], [], [], [951], [952], [925, 926], [], [], []], [[], [947, 949, 27], [], [], [], [], [], [], [], [828], [], [], [837], [], [836], [], [], [], [838], [], [836], [], [], [], [839], [], [836], [], [], [], [], [836]], [[], [], [836], [], [], [836], [], [], [], [828], [], [], []]]
noncomputable def pp_116 : List (List Nat) := [[0, 1, 2, 5, 6, 9, 10, 13, 16, 17, 20]]
noncomputable def ph_116 : List (List (List Nat)) := [[[], [], [825], [], [], [], [936, 938, 25], [], [], [953, 955, 28], []]]
noncomputable def pp_117 : List (List Nat) := [[0, 1, 2, 5, 6, 9, 11, 14, 16, 17, 18, 19, 20, 21, 24, 25, 28, 29, 30, 33, 34, 35, 36, 39, 42, 43, 46]]
noncomputable def ph_117 : List (List (List Nat)) := [[[], [], [825], [], [953, 955, 28], [], [], [], [], [], [], [], [], [], [], [829], [], [], [830], [], [], [], [], [], [], [831], []]]
noncomputable def pp_118 : List (List Nat) := [[0, 1, 2, 5, 6, 9, 11, 14, 16, 17, 18, 19, 22, 25, 26, 27, 28, 30, 33, 34, 37, 38, 39, 42, 43, 44, 45, 46, 49, 50, 51, 54], [55, 56, 57, 58, 61, 62, 63, 66, 67, 68, 69, 72, 75, 76, 79, 80, 83]]
noncomputable def ph_118 : List (List (List Nat)) := [[[], [], [825], [], [936, 938, 25], [], [], [], [], [], [], [836], [832], [], [], [], [], [], [], [833], [], [], [837], [], [], [], [], [834], [], [], [838], []], [[], [], [], [835], [], [], [839], [], [], [], [], [], [], [821, 823, 24], [], [832], []]]
noncomputable def pp_119 : List (List Nat) := [[0, 1, 2, 5, 6, 7, 8, 11, 14, 17, 18, 21, 22, 23, 26, 28]]
noncomputable def ph_119 : List (List (List Nat)) := [[[], [], [825], [], [], [], [951], [925, 926], [], [], [829], [], [], [], [], []]]
noncomputable def pp_120 : List (List Nat) := [[0, 1, 2, 5, 6, 7, 10, 13, 14, 15, 16, 19, 20, 23, 24, 25, 28, 29, 30, 33, 34, 37, 38, 39, 42, 43, 44, 47, 48, 51, 52, 53], [56, 58]]
noncomputable def ph_120 : List (List (List Nat)) := [[[], [], [825], [], [], [973, 975, 29], [], [], [], [], [], [], [833], [], [], [], [], [], [], [], [834], [], [], [], [], [], [], [], [835], [], [], []], [[], []]]
noncomputable def pp_121 : List (List Nat) := [[0, 1, 2, 5, 6, 7, 10, 13, 14, 17, 20, 21, 22, 23, 24, 25, 28, 31, 34, 35, 37, 40, 42, 43, 44, 47, 49, 50, 51, 52, 53, 54], [56, 57, 60, 62, 63, 64, 65, 66, 67, 68, 70]]
noncomputable def ph_121 : List (List (List Nat)) := [[[], [], [825], [], [], [973, 975, 29], [], [], [981, 982], [], [], [], [], [], [], [985], [925, 926], [], [], [], [], [], [], [], [840], [], [], [], [], [], [], []], [[], [840], [], [], [], [], [], [], [], [], []]]
noncomputable def pp_122 : List (List Nat) := [[0, 1, 2, 3, 4, 5, 6, 9, 12, 13, 14, 17, 18, 19, 21, 24, 25, 28, 29, 30, 31, 34, 37, 38]]
noncomputable def ph_122 : List (List (List Nat)) := [[[], [], [], [], [], [], [832], [], [], [], [841], [], [], [], [], [], [], [], [], [], [], [], [], []]]
noncomputable def pp_123 : List (List Nat) := [[0, 1, 2, 5, 6, 7, 10, 13, 14, 15, 16, 17, 18, 21, 24, 27, 29, 30, 31, 34, 35, 36, 37, 38, 41, 42, 43, 44, 45, 48, 49, 52], [53, 56, 57, 58, 59, 61, 62, 63]]
noncomputable def ph_123 : List (List (List Nat)) := [[[], [], [825], [], [], [973, 975, 29], [], [], [], [], [], [], [990], [925, 926], [], [], [], [], [841], [], [], [], [], [841], [], [], [], [], [991, 993, 30], [], [], []], [[841], [], [], [], [], [], [], []]]
noncomputable def pp_124 : List (List Nat) := [[0, 1, 2, 5, 6, 7, 8, 11, 14, 17, 19, 20, 21, 24, 25, 26, 27, 28, 31, 32, 33, 34, 35]]
noncomputable def ph_124 : List (List (List Nat)) := [[[], [], [825], [], [], [], [999], [925, 926], [], [], [], [], [829], [], [], [], [], [829], [], [], [], [], []]]
noncomputable def pp_125 : List (List Nat) := [[0, 1, 4, 7, 8, 11, 12, 15, 16, 17, 18, 19, 22, 23, 26, 27]]
noncomputable def ph_125 : List (List (List Nat)) := [[[], [849], [], [], [841], [], [847], [], [], [], [], [], [], [], [], []]]
noncomputable def pp_126 : List (List Nat) := [[0, 1, 2, 3, 4, 5, 6, 9, 12, 13, 14, 15, 16, 19, 22, 23, 26, 27, 28, 29, 32, 35, 36]]
noncomputable def ph_126 : List (List (List Nat)) := [[[], [], [], [], [], [], [848], [], [], [], [], [], [1012, 1014, 33], [], [], [], [], [], [], [], [], [], []]]
noncomputable def pp_127 : List (List Nat) := [[0, 1, 4, 5, 8, 9, 10, 13, 14, 15, 18, 19, 22, 23, 24, 27, 28]]
noncomputable def ph_127 : List (List (List Nat)) := [[[], [], [], [], [], [], [829], [], [], [], [], [829], [], [], [], [], []]]
noncomputable def pp_128 : List (List Nat) := [[0, 1, 2, 3, 5, 6, 8, 10, 11, 14, 17, 19, 20, 23, 24, 26, 27, 30, 33, 34, 35, 38, 40, 41, 42, 43, 44, 46, 47, 48, 49, 50], [53, 56, 59, 60, 62, 63]]
noncomputable def ph_128 : List (List (List Nat)) := [[[], [], [], [], [], [], [], [], [848], [], [], [], [], [], [], [], [1012, 1014, 33], [], [], [], [850], [], [], [], [], [], [], [], [], [], [], []], [[], [], [], [], [], []]]
noncomputable def pp_129 : List (List Nat) := [[0, 1, 2, 3, 5, 7, 8, 11, 14, 15, 16, 19, 21, 22, 23, 25, 27, 28, 29, 30, 31, 32, 33, 34, 37, 40, 41]]
noncomputable def ph_129 : List (List (List Nat)) := [[[], [], [], [], [], [], [848], [], [], [], [851], [], [], [], [], [], [], [], [], [], [], [], [], [], [], [], []]]
noncomputable def pp_130 : List (List Nat) := [[0, 1, 4, 5, 6, 7, 8, 11, 14, 15, 18, 20, 21, 22, 23, 24, 25, 27, 30, 31, 32, 35, 37, 38, 39, 40, 41, 42, 45, 46, 47, 50], [51, 52, 53, 56, 57, 58, 61, 62, 63, 66, 67, 70, 71, 72, 75, 76, 79, 80, 81, 84, 85, 88, 89, 90, 91, 92, 93, 94, 97, 98, 99, 101], [104, 105, 106, 107, 108, 111, 112, 115, 116, 117, 118, 121, 122, 123, 124, 125, 126, 127, 130, 132, 133, 134, 137, 139, 140, 141, 142, 143, 144, 145, 146, 148], [151, 152, 155, 156, 157, 159, 160, 163, 164, 167, 168, 169, 170, 171, 174]]
noncomputable def ph_130 : List (List (List Nat)) := [[[], [847], [], [], [], [], [849], [], [], [840], [], [], [], [], [], [], [], [], [], [], [840], [], [], [], [], [], [], [1020, 1022, 35], [], [], [833], []], [[], [], [], [], [], [833], [], [], [], [], [834], [], [], [], [], [1020, 1022, 35], [], [], [], [], [829], [], [], [], [], [], [], [833], [], [], [], []], [[], [], [], [], [1024, 1026, 36], [], [834], [], [], [], [1020, 1022, 35], [], [], [], [], [], [], [1028, 1030, 37], [], [], [], [850], [], [], [], [], [], [], [], [], [], []], [[], [829], [], [], [], [], [], [], [834], [], [], [], [], [1020, 1022, 35], []]]
noncomputable def pp_131 : List (List Nat) := [[0, 1, 2, 3, 4, 5, 7, 9, 11, 14, 15, 18, 20, 21, 22, 25, 28, 29, 31, 33, 34, 37, 40, 41, 43, 44, 47, 50, 51, 52, 55, 57], [58, 59, 60, 63, 66, 69, 70, 71, 72, 74, 75, 77, 79, 80, 83, 86, 87, 90, 91, 92, 95, 96, 98, 99, 102, 105, 106, 108, 109, 111, 114, 117], [120]]
noncomputable def ph_131 : List (List (List Nat)) := [[[], [], [], [], [], [], [], [], [], [], [855], [], [], [], [], [], [], [], [], [], [848], [], [], [], [], [1012, 1014, 33], [], [], [], [854], [], []], [[], [], [], [], [], [], [], [], [], [], [], [], [], [848], [], [], [829], [], [], [], [], [], [], [1012, 1014, 33], [], [], [], [], [], [1036, 1038, 39], [], []], [[]]]
noncomputable def pp_132 : List (List Nat) := [[0, 1, 3, 6, 8, 11, 12]]
noncomputable def ph_132 : List (List (List Nat)) := [[[], [], [], [], [], [], []]]
noncomputable def pp_133 : List (List Nat) := [[0, 1, 4, 5, 8, 9, 10, 11, 13, 14, 17, 18, 21, 22, 23, 24, 26, 28, 29, 32, 34, 36, 37, 39, 41, 42, 45, 48, 50, 51, 54, 55], [57, 58, 61, 64, 66, 68, 71, 72, 75, 77, 78, 79, 82, 84, 85, 88, 90, 92, 95, 98, 99, 102, 104, 105, 106, 109, 110, 113, 115, 116, 117, 119], [120, 121, 124, 126, 127, 128, 129, 131, 132, 134, 135, 138, 139, 142, 144, 145, 148, 150, 151, 154, 155, 157, 159, 160, 163, 166, 168, 169, 172, 173, 175, 176], [179, 182, 183, 186, 188, 189, 190, 193, 194, 195, 198, 200, 201, 202, 204, 205, 207, 208, 211, 214, 215, 217, 219, 220, 223, 224, 227, 228, 231, 233, 234, 235], [236, 237, 239, 241, 242, 243, 244, 245, 246, 249, 250, 252, 253, 256, 258, 259, 260, 262, 263, 265, 267, 268, 271, 272, 275, 278]]
noncomputable def ph_133 : List (List (List Nat)) := [[[], [833], [], [847], [], [], [], [], [], [835], [], [847], [], [], [], [], [], [], [], [], [], [], [], [], [], [848], [], [], [], [], [], []], [[], [1012, 1014, 33], [], [], [], [], [], [854], [], [], [], [854], [], [], [], [], [], [], [], [], [854], [], [], [], [], [], [855], [], [], [], [], []], [[], [854], [], [], [], [], [], [], [], [], [1040, 1041], [], [], [], [], [], [], [], [], [], [], [], [], [848], [], [], [], [], [], [], [], [1012, 1014, 33]], [[], [], [854], [], [], [], [], [], [], [854], [], [], [], [], [], [], [], [1040, 1041], [], [], [], [], [], [], [], [], [], [851], [], [], [], []], [[], [], [], [], [], [], [], [], [], [], [], [], [855], [], [], [], [], [], [], [], [], [1040, 1041], [], [], [], []]]
noncomputable def pp_134 : List (List Nat) := [[0, 1, 2, 3, 5, 6, 8, 9, 11, 13, 14, 17, 20, 21, 22, 24, 25, 28, 31, 32, 35, 37, 38, 39, 42, 43, 44, 45, 47, 48, 51, 53], [54, 55, 57, 58, 59, 60, 62, 64, 65, 68, 70, 72, 73, 74, 75, 76, 77, 79, 82, 85, 88, 89, 90, 91, 94, 95, 96, 97, 98, 99, 100, 103], [104, 105, 107, 110, 111, 114, 115, 116, 117, 120, 121, 122, 123, 124, 125, 127, 128, 131, 132, 135, 136, 137, 138, 139, 141, 142, 143, 144, 147, 148, 151, 152], [153, 154, 155, 157, 158, 159, 160]]
noncomputable def ph_134 : List (List (List Nat)) := [[[], [], [], [], [], [], [], [], [], [], [848], [], [], [], [], [], [1012, 1014, 33], [], [], [854], [], [], [], [], [], [], [], [], [], [855], [], []], [[], [], [], [], [], [], [], [], [855], [], [], [], [], [], [], [], [], [], [], [1047], [], [], [], [829], [], [], [], [], [], [], [1048, 1050, 41], []], [[], [], [1052], [], [829], [], [], [], [854], [], [], [], [], [], [], [], [1052], [], [829], [], [], [], [], [], [], [], [], [1052], [], [829], [], []], [[], [], [], [], [], [], []]]
noncomputable def pp_135 : List (List Nat) := [[0, 1, 2, 3, 5, 8, 9, 10, 11, 12, 15, 18, 19, 22, 23, 24, 25, 26, 29, 32, 33, 34, 35, 38, 41, 42, 43, 46, 49, 50, 51, 54], [55, 56, 57, 58, 61, 64, 65, 68, 69, 72, 73, 76, 78, 79, 80, 81, 82, 83, 84, 85, 86, 87, 90, 92, 93, 94, 95, 96, 97, 98, 99, 100], [103, 106, 107, 108, 109, 112, 115, 116, 117, 118, 119, 122, 124, 125, 126, 127, 128, 129, 132, 133, 134, 135, 138, 141, 142, 143, 144, 146, 149, 150, 153, 155], [156, 157, 158, 159, 160, 163, 164, 165, 166, 169, 172, 175, 178]]
noncomputable def ph_135 : List (List (List Nat)) := [[[], [], [], [], [], [], [], [], [], [848], [], [], [854], [], [], [], [], [1012, 1014, 33], [], [], [], [], [1016, 1018, 34], [], [], [], [], [], [], [], [1032, 1034, 38], []], [[], [], [], [848], [], [], [], [], [], [], [852], [], [], [], [], [], [], [], [], [], [], [852], [], [], [], [], [], [], [], [], [], [1012, 1014, 33]], [[], [], [], [], [1043, 1045, 40], [], [], [], [], [], [850], [], [], [], [], [], [], [854], [], [], [], [], [], [], [], [], [], [], [], [851], [], []], [[], [], [], [], [855], [], [], [], [], [], [], [], []]]
noncomputable def pp_136 : List (List Nat) := [[0, 1, 2, 5, 8, 9, 13, 14, 15, 16, 17, 20, 23, 24, 27, 28, 29, 30, 33, 36, 37, 40]]
noncomputable def ph_136 : List (List (List Nat)) := [[[], [], [832], [848], [], [849], [], [], [], [], [832], [], [], [847], [], [], [], [], [], [], [1008, 1010, 32], []]]
noncomputable def pp_137 : List (List Nat) := [[0, 1, 2, 3, 5, 7, 8, 11, 14, 15, 16, 19, 21, 22, 23, 25, 26, 27, 28, 29, 32, 35, 36]]
noncomputable def ph_137 : List (List (List Nat)) := [[[], [], [], [], [], [], [848], [], [], [], [852], [], [], [], [], [], [], [], [], [], [], [], []]]
noncomputable def pp_138 : List (List Nat) := [[0, 1, 4, 5, 6, 7, 8, 11, 12, 13, 14, 15, 18, 19, 22, 23, 24, 25, 26, 27, 28, 31, 34, 35, 38, 39, 40, 43, 44, 45, 46, 49], [52, 53, 56]]
noncomputable def ph_138 : List (List (List Nat)) := [[[], [829], [], [], [], [], [829], [], [], [], [], [1004, 1006, 31], [], [829], [], [], [], [], [], [], [], [], [], [853], [], [], [852], [], [], [], [], []], [[], [1004, 1006, 31], []]]
noncomputable def pp_139 : List (List Nat) := [[0, 1, 2, 3, 5, 7, 8, 11, 14, 15, 16, 19, 21, 22, 23, 25, 26, 27, 28, 29, 32, 35, 36]]
noncomputable def ph_139 : List (List (List Nat)) := [[[], [], [], [], [], [], [848], [], [], [], [853], [], [], [], [], [], [], [], [], [], [], [], []]]
noncomputable def pp_140 : List (List Nat) := [[0, 1, 2, 5, 6, 7, 10, 13, 14, 17, 20, 21, 22, 23, 26, 27, 28, 29, 32, 35, 36, 39, 41, 42, 43, 44, 45, 46, 49, 51]]
noncomputable def ph_140 : List (List (List Nat)) := [[[], [], [825], [], [], [973, 975, 29], [], [], [981, 982], [], [], [], [], [1004, 1006, 31], [], [], [], [1012, 1014, 33], [], [], [850], [], [], [], [], [], [], [], [], []]]
noncomputable def pp_141 : List (List Nat) := [[0, 1, 2, 5, 6, 7, 10, 13, 14, 15, 18, 21, 22, 25, 28, 29, 30, 31, 32, 35, 37, 38, 39, 42, 43, 46, 48, 49, 50, 52, 53, 54], [55, 56, 57, 58]]
noncomputable def ph_141 : List (List (List Nat)) := [[[], [], [825], [], [], [973, 975, 29], [], [], [], [973, 975, 29], [], [], [981, 982], [], [], [], [], [], [], [], [], [], [1004, 1006, 31], [], [851], [], [], [], [], [], [], []], [[], [], [], []]]
noncomputable def pp_142 : List (List Nat) := [[0, 1, 2, 3, 4, 5, 6, 9, 12, 13, 14, 17, 19, 20, 21, 22, 23, 24, 25, 26, 29, 32, 33]]
noncomputable def ph_142 : List (List (List Nat)) := [[[], [], [], [], [], [], [848], [], [], [], [850], [], [], [], [], [], [], [], [], [], [], [], []]]
noncomputable def pp_143 : List (List Nat) := [[0, 1, 2, 5, 6, 9, 12, 13, 14, 15, 18, 19, 20, 23]]
noncomputable def ph_143 : List (List (List Nat)) := [[[], [], [825], [], [981, 982], [], [], [], [], [1004, 1006, 31], [], [], [1061, 1063, 42], []]]
noncomputable def pp_144 : List (List Nat) := [[0, 1, 2, 5, 6, 9, 12, 13, 14, 15, 18, 19, 20, 23]]
noncomputable def ph_144 : List (List (List Nat)) := [[[], [], [825], [], [981, 982], [], [], [], [], [1004, 1006, 31], [], [], [1048, 1050, 41], []]]
noncomputable def pp_145 : List (List Nat) := [[0, 1, 2, 5, 6, 7, 10, 13, 14, 17, 20, 23, 24, 25, 28, 31, 32, 35, 37, 38, 39, 40, 41, 42, 43]]
noncomputable def ph_145 : List (List (List Nat)) := [[[], [], [825], [], [], [973, 975, 29], [], [], [981, 982], [], [1073], [], [], [1004, 1006, 31], [1074], [], [852], [], [], [], [], [], [], [], []]]
noncomputable def pp_146 : List (List Nat) := [[0, 1, 2, 5, 6, 9, 12, 15, 16, 17, 20, 23, 24, 27, 28, 29, 32, 35, 36, 37, 40, 41]]
noncomputable def ph_146 : List (List (List Nat)) := [[[], [], [825], [], [981, 982], [], [1073], [], [], [1079, 1081, 43], [1074], [], [], [], [], [1083, 1085, 44], [], [], [], [1087, 1089, 45], [], []]]
noncomputable def pp_147 : List (List Nat) := [[0, 1, 2, 5, 6, 7, 10, 13, 14, 17, 20, 21, 22, 23, 26, 27, 28, 29, 31, 33, 34, 37, 38, 40, 42, 43, 46, 49, 50, 51, 54, 55], [56, 57, 60, 62, 64, 65, 67, 68, 69, 70, 72, 73, 74, 75, 76, 79, 80, 81, 82, 85, 87, 89, 90, 92, 94, 95, 96, 97, 98, 99, 100, 101], [102, 103, 106, 109, 112, 115, 116]]
noncomputable def ph_147 : List (List (List Nat)) := [[[], [], [825], [], [], [973, 975, 29], [], [], [981, 982], [], [], [], [], [1004, 1006, 31], [], [], [], [], [], [], [], [], [], [], [], [848], [], [], [], [829], [], []], [[], [851], [], [], [], [], [], [], [], [], [], [], [], [], [829], [], [], [], [851], [], [], [], [], [], [], [], [], [], [], [], [], []], [[], [], [], [], [], [], []]]
noncomputable def pp_148 : List (List Nat) := [[0, 1, 2, 5, 6, 9, 10, 11, 14, 15, 16, 17, 18, 20, 23, 24, 27, 28, 29, 30, 33, 34, 35, 38, 39, 40, 43, 46, 48]]
noncomputable def ph_148 : List (List (List Nat)) := [[[], [], [825], [], [1004, 1006, 31], [], [], [1061, 1063, 42], [], [], [], [], [], [], [], [], [], [], [], [1061, 1063, 42], [], [], [], [], [], [], [], [], []]]
noncomputable def pp_149 : List (List Nat) := [[0, 1, 2, 5, 6, 9, 11, 12, 14, 15, 16, 19, 20, 21, 24, 25, 26, 29, 30, 33, 34, 35, 38, 41, 42]]
noncomputable def ph_149 : List (List (List Nat)) := [[[], [], [825], [], [1079, 1081, 43], [], [], [], [], [], [], [], [], [1087, 1089, 45], [], [], [1083, 1085, 44], [], [], [], [], [], [], [], []]]
noncomputable def pp_150 : List (List Nat) := [[0, 1, 2, 5, 6, 9, 12, 13, 14, 15, 18, 19, 20, 21, 22, 23, 24, 27, 30, 31, 32, 35, 37, 38, 39, 40, 41, 42, 43, 46, 48, 49], [50, 51, 52, 53, 54, 57, 58, 59, 60, 63, 64, 65, 66, 69, 72, 73]]
noncomputable def ph_150 : List (List (List Nat)) := [[[], [], [825], [], [981, 982], [], [], [], [], [1079, 1081, 43], [], [], [], [], [], [], [832], [], [], [], [852], [], [], [], [], [], [], [], [853], [], [], []], [[], [], [], [], [], [], [], [], [], [], [], [], [], [], [], []]]
noncomputable def pp_151 : List (List Nat) := [[0, 1, 2, 5, 6, 9, 12, 13, 14, 15, 16, 17, 20, 23, 26, 28, 29, 30, 33, 34, 35, 36, 38, 40, 42, 44, 46, 49, 50, 53, 54, 56], [57, 58, 61, 62, 63, 66, 67, 68, 69, 72, 73, 76, 78, 81, 83, 85, 88, 91, 92, 95, 96, 97, 98, 100]]
noncomputable def ph_151 : List (List (List Nat)) := [[[], [], [825], [], [981, 982], [], [], [], [], [], [], [985], [925, 926], [], [], [], [], [829], [], [], [], [], [], [], [], [], [], [], [829], [], [], []], [[], [1004, 1006, 31], [], [], [1061, 1063, 42], [], [], [], [1048, 1050, 41], [], [], [], [], [], [], [], [], [], [829], [], [], [], [], []]]
noncomputable def pp_152 : List (List Nat) := [[0, 1, 4, 6, 7, 8, 9, 10, 11, 14, 16, 17, 18, 20, 21, 22, 25, 26, 29, 31, 32, 33, 34, 35, 36, 38, 41]]
noncomputable def ph_152 : List (List (List Nat)) := [[[], [840], [], [], [], [], [], [], [840], [], [], [], [], [], [], [1004, 1006, 31], [], [840], [], [], [], [], [], [], [], [1087, 1089, 45], []]]
noncomputable def pp_153 : List (List Nat) := [[0, 1, 2, 3, 4, 5, 7, 9, 10, 13, 16, 17, 19, 22, 24, 26, 29, 31, 32, 33, 36, 38, 39, 41, 42, 45, 48, 49]]
noncomputable def ph_153 : List (List (List Nat)) := [[[], [], [], [], [], [], [], [], [832], [], [], [], [1119, 1121, 47], [], [], [], [], [], [], [], [], [], [], [], [], [], [], []]]
noncomputable def pp_154 : List (List Nat) := [[0, 1, 2, 5, 6, 9]]
noncomputable def ph_154 : List (List (List Nat)) := [[[], [], [825], [], [1115, 1117, 46], []]]
noncomputable def pp_155 : List (List Nat) := [[0, 1, 2, 5, 8, 9, 10, 13, 16, 17]]
noncomputable def ph_155 : List (List (List Nat)) := [[[], [], [825], [1074], [], [], [1115, 1117, 46], [1119, 1121, 47], [], []]]
noncomputable def pp_156 : List (List Nat) := [[0, 1, 4, 5, 6, 7, 8, 11, 12, 13, 14, 15, 18, 19, 22, 23, 26, 27, 28, 29, 32, 33, 34, 35, 36]]
noncomputable def ph_156 : List (List (List Nat)) := [[[], [841], [], [], [], [], [841], [], [], [], [], [991, 993, 30], [], [], [], [], [], [], [], [841], [], [], [], [], []]]
noncomputable def pp_157 : List (List Nat) := [[0, 1, 4, 5, 6, 7, 8, 11, 12, 13, 14, 15, 18, 19, 22, 23, 24, 25, 26, 28, 31, 32, 35, 38, 39, 40, 41, 42]]
noncomputable def ph_157 : List (List (List Nat)) := [[[], [841], [], [], [], [], [841], [], [], [], [], [1004, 1006, 31], [], [841], [], [], [], [], [], [1087, 1089, 45], [], [852], [], [], [], [], [], []]]
noncomputable def pp_158 : List (List Nat) := [[0, 1, 2, 5, 7, 8, 9, 10, 11, 13, 15, 16, 19, 22, 23, 25, 28, 31, 32, 35, 36, 38, 41, 43, 44, 46, 49, 52, 53, 55, 58, 60], [61, 62, 65, 67, 68, 70, 71, 74, 77, 78]]
noncomputable def ph_158 : List (List (List Nat)) := [[[], [], [825], [], [], [], [], [], [], [], [], [832], [], [], [], [1131, 1133, 48], [], [], [], [], [], [1135, 1137, 49], [], [], [], [1131, 1133, 48], [], [], [], [], [], []], [[], [], [], [], [], [], [], [], [], []]]
noncomputable def pp_159 : List (List Nat) := [[0, 1, 2, 5, 6, 7, 10, 13, 16, 17, 18, 19, 22, 25, 28, 31, 34, 35, 36, 39, 40]]
noncomputable def ph_159 : List (List (List Nat)) := [[[], [], [825], [], [], [973, 975, 29], [], [1073], [], [], [], [1131, 1133, 48], [], [1143], [], [1074], [], [], [1135, 1137, 49], [], []]]
noncomputable def pp_160 : List (List Nat) := [[0, 1, 2, 5, 6, 10, 11, 12, 13, 14, 17, 20, 21, 22, 23, 24, 25, 26, 29, 30, 33, 34, 37, 38, 39, 40, 41, 44, 45, 46, 49, 52], [55, 56, 59, 60, 62, 65]]
noncomputable def ph_160 : List (List (List Nat)) := [[[], [], [848], [], [849], [], [], [], [], [832], [], [], [], [], [], [], [], [], [], [847], [], [848], [], [], [], [], [848], [], [], [848], [], []], [[], [1008, 1010, 32], [], [], [1087, 1089, 45], []]]
noncomputable def pp_161 : List (List Nat) := [[0, 1, 2, 3, 4, 5, 7, 10, 11, 12, 13, 14, 15, 16, 17, 18, 21, 24, 25]]
noncomputable def ph_161 : List (List (List Nat)) := [[[], [], [], [], [], [], [], [], [], [], [], [], [], [], [], [], [], [], []]]
noncomputable def pp_162 : List (List Nat) := [[0, 1, 2, 5, 6, 7, 8, 11, 12, 13, 14, 15, 16, 17, 18, 21, 22]]
noncomputable def ph_162 : List (List (List Nat)) := [[[], [], [1163, 1165, 53], [], [], [], [832], [], [], [], [], [], [], [], [1163, 1165, 53], [], []]]
noncomputable def pp_163 : List (List Nat) := [[0, 1, 2, 3, 4, 5, 7, 9, 10, 11, 14, 15, 18, 20, 23, 24, 25, 26, 29, 32, 33, 35, 38, 40, 41, 44, 46, 47, 48, 51, 53, 54], [56, 57, 60, 63, 64]]
noncomputable def ph_163 : List (List (List Nat)) := [[[], [], [], [], [], [], [], [], [], [832], [], [], [], [1156, 1157], [], [], [], [832], [], [], [], [1159, 1161, 52], [], [], [], [], [], [], [], [], [], []], [[], [], [], [], []]]
noncomputable def pp_164 : List (List Nat) := [[0, 1, 4, 5, 8, 9, 12, 14, 17, 18, 21, 22]]
noncomputable def ph_164 : List (List (List Nat)) := [[[], [832], [], [], [], [832], [], [], [], [], [], []]]
noncomputable def pp_165 : List (List Nat) := [[0, 1, 2, 5, 6, 9, 12, 14, 17, 18, 21]]
noncomputable def ph_165 : List (List (List Nat)) := [[[], [], [825], [], [1148, 1150, 50], [], [], [], [], [1152, 1154, 51], []]]
noncomputable def pp_166 : List (List Nat) := [[0, 1, 2, 5, 6, 9, 12, 15, 18, 21, 22, 23, 26, 29, 30]]
noncomputable def ph_166 : List (List (List Nat)) := [[[], [], [825], [], [1148, 1150, 50], [], [1143], [], [1074], [], [], [1152, 1154, 51], [1159, 1161, 52], [], []]]
noncomputable def pp_167 : List (List Nat) := [[0, 1, 3, 5, 6, 9, 12, 13, 16, 18, 19, 22, 24, 25, 26, 28, 29, 30, 31, 34, 37, 38, 41, 42, 43, 44, 45, 46, 49, 50, 51, 52], [55]]
noncomputable def ph_167 : List (List (List Nat)) := [[[], [], [], [], [848], [], [], [854], [], [], [850], [], [], [], [], [], [], [], [], [], [], [854], [], [], [], [], [], [1032, 1034, 38], [], [], [], [1043, 1045, 40]], [[]]]
noncomputable def pp_168 : List (List Nat) := [[0, 1, 2, 3, 4, 5, 6, 9, 11, 12, 14, 16, 17, 20, 21, 22, 25, 26, 27, 28, 30, 33, 35, 37, 39, 40, 43, 45, 47, 49, 50, 53], [56, 57]]
noncomputable def ph_168 : List (List (List Nat)) := [[[], [], [], [], [], [], [1179, 1181, 55], [], [], [], [], [], [829], [], [], [], [], [], [], [], [1179, 1181, 55], [], [], [], [], [], [], [], [], [], [], []], [[], []]]
noncomputable def pp_169 : List (List Nat) := [[0, 1, 2, 5, 6, 7, 10, 13, 14, 17, 20, 21, 22, 23, 26, 27, 28, 29, 32, 35, 36, 37, 38, 41, 44, 46]]
noncomputable def ph_169 : List (List (List Nat)) := [[[], [], [825], [], [], [973, 975, 29], [], [], [981, 982], [], [], [], [], [1004, 1006, 31], [], [], [], [1012, 1014, 33], [], [], [], [], [1175, 1177, 54], [], [], []]]
noncomputable def pp_170 : List (List Nat) := [[0, 1, 2, 5, 6, 7, 10, 13, 14, 17, 20, 23, 24, 25, 26, 27, 28, 31, 32, 33, 34, 37, 40, 43, 44, 45, 48, 49, 50, 51, 54, 57], [60, 61, 62, 63, 64, 67, 68, 71, 74]]
noncomputable def ph_170 : List (List (List Nat)) := [[[], [], [825], [], [], [973, 975, 29], [], [], [981, 982], [], [1073], [], [], [], [], [], [829], [], [], [], [925, 926], [], [1187], [], [], [1004, 1006, 31], [], [], [], [1012, 1014, 33], [], [1074]], [[], [], [], [], [1179, 1181, 55], [], [], [1143], []]]
noncomputable def pp_171 : List (List Nat) := [[0, 1, 2, 5, 6, 9, 12, 13, 14, 15, 18, 19, 20, 21, 22, 23, 24, 27, 30, 31, 32, 33, 36, 39, 40, 43, 44, 45, 46, 47, 50, 52], [53, 54, 55, 56, 57, 60, 61, 62, 63, 64, 65, 66, 69, 72, 73, 76, 77, 80, 81, 82, 85, 88, 89, 92, 93, 96, 97]]
noncomputable def ph_171 : List (List (List Nat)) := [[[], [], [825], [], [981, 982], [], [], [], [], [1004, 1006, 31], [], [], [], [], [], [], [832], [], [], [], [], [1012, 1014, 33], [], [], [], [], [], [], [], [850], [], []], [[], [], [], [], [1179, 1181, 55], [], [], [], [], [], [], [1175, 1177, 54], [1179, 1181, 55], [], [], [], [], [], [], [], [], [], [], [], [], [], []]]
noncomputable def pp_172 : List (List Nat) := [[0, 1, 2, 3, 6, 9, 12, 13, 14, 15, 18, 21, 24, 25, 28, 29]]
noncomputable def ph_172 : List (List (List Nat)) := [[[], [], [], [952], [925, 926], [], [], [], [], [1199], [925, 926], [], [], [], [], []]]
noncomputable def pp_173 : List (List Nat) := [[0, 1, 2, 5, 6, 7, 10, 13, 14, 15, 16, 17, 18, 21, 24, 27, 28, 30, 33, 35, 36, 37, 40, 42, 43, 44, 45, 46, 47, 49, 50, 53], [55, 56, 57, 58, 59, 60, 61, 63]]
noncomputable def ph_173 : List (List (List Nat)) := [[[], [], [825], [], [], [1196, 1197], [], [], [], [], [], [], [985], [925, 926], [], [], [], [], [], [], [], [846], [], [], [], [], [], [], [], [], [846], []], [[], [], [], [], [], [], [], []]]
noncomputable def pp_174 : List (List Nat) := [[0, 1, 4, 5, 6, 9, 12, 15, 18, 19, 20, 23, 26, 29, 32, 33, 34, 37, 40, 43, 46, 47, 50, 51]]
noncomputable def ph_174 : List (List (List Nat)) := [[[], [], [], [], [1207], [1208], [925, 926], [], [], [], [1209], [1210], [925, 926], [], [], [], [1211], [1212], [925, 926], [], [], [], [], []]]
noncomputable def pp_175 : List (List Nat) := [[0, 1, 4, 7, 8, 11, 12, 15, 16, 18, 19, 20, 21, 24, 26, 27, 28, 30, 31, 33, 34, 36, 38, 40, 43, 44, 47, 49, 51, 52, 53, 54], [55, 56, 57, 59, 61, 63, 66, 67, 70, 73, 74, 77, 78, 80, 81, 84, 85, 88, 89, 92, 94, 96, 97, 99, 102, 105, 108, 110, 113, 115, 116, 118], [120, 121, 122, 124, 125, 126, 128, 130, 133, 134, 137, 139]]
noncomputable def ph_175 : List (List (List Nat)) := [[[], [], [], [], [], [], [], [], [], [], [], [], [], [], [], [], [], [], [], [], [], [], [], [], [], [846], [], [], [], [], [], []], [[], [], [], [], [], [], [], [], [], [], [], [], [], [], [], [], [], [], [], [], [], [], [], [], [], [], [], [], [], [], [], []], [[], [], [], [], [], [], [], [], [], [], [], []]]
noncomputable def pp_176 : List (List Nat) := [[0, 1, 2, 5, 6, 7, 10, 13, 14, 15, 16, 19, 22, 24, 27, 28, 29, 30, 31, 34]]
noncomputable def ph_176 : List (List (List Nat)) := [[[], [], [825], [], [], [1196, 1197], [], [], [], [], [1204, 1205], [], [], [], [], [], [], [], [1213, 1215, 56], []]]
noncomputable def pp_177 : List (List Nat) := [[0, 1, 2, 3, 5, 7, 9, 12, 13, 16, 18, 19, 20, 22, 23, 24, 26, 27, 28, 29, 31, 34, 36, 37, 39, 41, 44, 46, 48, 51, 53, 55], [58, 59, 62, 63, 64, 65, 68, 71, 72]]
noncomputable def ph_177 : List (List (List Nat)) := [[[], [], [], [], [], [], [], [], [846], [], [], [], [], [], [], [], [], [], [], [], [1213, 1215, 56], [], [], [], [], [], [], [], [], [], [], []], [[], [], [], [], [], [], [], [], []]]
noncomputable def pp_178 : List (List Nat) := [[0, 1, 2, 5, 6, 7, 8, 11, 14, 17, 18, 19, 20, 23, 26, 28, 31, 32, 33, 34, 37]]
noncomputable def ph_178 : List (List (List Nat)) := [[[], [], [825], [], [], [], [952], [925, 926], [], [], [], [], [1204, 1205], [], [], [], [], [], [], [1221, 1223, 57], []]]
noncomputable def pp_179 : List (List Nat) := [[0, 1, 2, 5, 6, 7, 8, 11, 14, 17, 18, 19, 20, 21, 23, 24, 25, 28, 31, 32, 35, 38, 39, 40, 41, 44, 45, 46, 47, 50, 53, 54], [57, 58, 59, 62, 65, 66]]
noncomputable def ph_179 : List (List (List Nat)) := [[[], [], [825], [], [], [], [952], [925, 926], [], [], [], [], [], [], [], [], [], [], [], [1204, 1205], [], [], [], [], [1221, 1223, 57], [], [], [], [1221, 1223, 57], [], [], []], [[], [], [], [], [], []]]
noncomputable def pp_180 : List (List Nat) := [[0, 1, 2, 5, 6, 7, 8, 11, 14, 17, 18, 19, 20, 21, 22, 25, 28, 31, 33, 34, 35, 36, 37, 39, 41, 44, 47, 48, 50, 53, 56, 57], [59, 60, 63, 64, 67, 68, 71, 72, 73, 74, 77, 80, 81]]
noncomputable def ph_180 : List (List (List Nat)) := [[[], [], [825], [], [], [], [952], [925, 926], [], [], [], [], [], [], [924], [925, 926], [], [], [], [], [], [], [], [], [], [], [], [], [1204, 1205], [], [], []], [[], [1221, 1223, 57], [], [], [], [], [], [], [], [], [], [], []]]
noncomputable def pp_181 : List (List Nat) := [[0, 1, 2, 5, 6, 9, 10, 11, 12, 13, 14, 16, 19, 20, 21, 22, 24, 27, 28, 29, 32, 35, 36, 37, 38, 41, 44, 45, 48, 49, 51, 52], [55, 57, 58, 59, 60, 61, 63, 66, 67, 70, 72, 73, 74, 75, 76, 77, 80, 82, 83, 84, 86, 89, 90, 93, 94, 95, 96, 99, 102, 105, 108, 109]]
noncomputable def ph_181 : List (List (List Nat)) := [[[], [], [825], [], [1004, 1006, 31], [], [], [], [], [], [], [], [], [], [], [], [], [], [], [832], [], [], [], [], [1012, 1014, 33], [], [], [], [], [], [], [846]], [[], [], [], [], [], [], [], [], [850], [], [], [], [], [], [], [], [], [], [], [], [], [], [], [], [], [], [], [], [], [], [], []]]
noncomputable def pp_182 : List (List Nat) := [[0, 1, 2, 3, 4, 5, 8, 11, 12, 13, 16, 17, 18, 20, 23, 24, 27, 28, 29, 30, 33, 36, 37]]
noncomputable def ph_182 : List (List (List Nat)) := [[[], [], [], [], [], [], [], [], [], [840], [], [], [], [], [], [], [], [], [], [], [], [], []]]
noncomputable def pp_183 : List (List Nat) := [[0, 1, 2, 5, 6, 7, 8, 9, 12, 15, 16, 17, 18, 21, 22, 24, 25, 26, 27, 30, 33, 34, 37, 40, 41, 42, 43, 44, 45, 48, 49, 50], [51, 54, 57, 58, 59, 60, 62, 65, 66, 69, 71, 72, 73, 74, 75, 76, 79, 80, 81, 82, 85, 88, 89, 90, 91, 93, 96, 97, 100, 102, 103, 104], [105, 106, 107, 110, 111, 112, 113, 116, 119, 120, 123]]
noncomputable def ph_183 : List (List (List Nat)) := [[[], [], [825], [], [], [], [], [925, 926], [], [], [], [], [845], [], [], [], [], [], [], [], [], [842], [], [], [], [], [], [], [840], [], [], []], [[], [], [], [], [], [], [], [], [843], [], [], [], [], [], [], [841], [], [], [], [], [], [], [], [], [], [], [], [844], [], [], [], []], [[], [], [846], [], [], [], [], [], [], [1241, 1243, 58], []]]
noncomputable def pp_184 : List (List Nat) := [[0, 1, 2, 5, 6, 7, 8, 9, 12, 15, 16, 17, 18, 21, 22, 23, 26, 28, 29, 30, 31, 32, 35, 38, 39, 42, 43, 44, 47, 50, 51, 52], [53, 54, 55, 56, 59, 62, 63, 64, 65, 67, 70, 71, 74, 75, 76, 79, 81, 82, 83, 84, 85, 86, 87, 90, 93, 94, 95, 96, 98, 101, 102, 105], [106, 107, 110, 112, 113, 114, 115, 116, 117, 118, 121, 124, 125, 128]]
noncomputable def ph_184 : List (List (List Nat)) := [[[], [], [825], [], [], [], [], [925, 926], [], [], [], [], [845], [], [], [], [], [], [], [], [], [], [], [], [840], [], [], [842], [], [], [], []], [[], [], [], [], [], [], [], [], [], [], [], [841], [], [], [843], [], [], [], [], [], [], [], [], [], [], [], [], [], [], [], [846], []], [[], [844], [], [], [], [], [], [], [], [], [], [], [1241, 1243, 58], []]]
noncomputable def pp_185 : List (List Nat) := [[0, 1, 2, 5, 6, 7, 8, 9, 10, 11, 14, 17, 18, 19, 22, 23, 24, 26, 29, 30, 33, 34, 35, 36, 39, 42, 43, 44, 45, 47, 49, 51], [54, 55, 56, 59, 61, 62, 64, 67, 68, 71, 72, 73, 74, 77, 80, 81, 116, 117, 120, 121, 122, 125, 126, 127, 128, 129, 130, 131, 134, 135, 137]]
noncomputable def ph_185 : List (List (List Nat)) := [[[], [], [825], [], [], [], [], [], [], [832], [], [], [], [841], [], [], [], [], [], [], [], [], [], [], [], [], [], [], [], [], [], []], [[], [], [846], [], [], [], [], [], [], [], [], [], [], [], [], [], [], [832], [], [], [1241, 1243, 58], [], [], [], [], [], [], [827], [], [], []]]
noncomputable def pp_186 : List (List Nat) := [[0, 1, 2, 3, 6]]
noncomputable def ph_186 : List (List (List Nat)) := [[[], [], [], [346, 347, 348], []]]
noncomputable def pp_187 : List (List Nat) := [[0, 1, 4, 7, 8, 11, 12, 13, 14, 17, 20, 23, 24, 27, 28, 29, 30, 33, 36]]
noncomputable def ph_187 : List (List (List Nat)) := [[[], [350, 351, 352], [], [], [1255], [], [], [], [356, 357, 358], [364, 365], [], [], [1255], [], [], [], [356, 357, 358], [], []]]
noncomputable def pp_188 : List (List Nat) := [[0, 3, 6, 7, 10, 13, 14, 17, 18]]
noncomputable def ph_188 : List (List (List Nat)) := [[[354], [], [], [1254], [], [], [], [], []]]
noncomputable def pp_189 : List (List Nat) := [[0, 1, 4, 5, 6, 9, 10]]
noncomputable def ph_189 : List (List (List Nat)) := [[[], [1255], [], [], [360, 361, 362], [], []]]
noncomputable def pp_190 : List (List Nat) := [[0, 3, 6, 7, 10, 13, 14]]
noncomputable def ph_190 : List (List (List Nat)) := [[[354], [], [], [1254], [], [], []]]
noncomputable def pp_191 : List (List Nat) := [[0, 1, 4, 5, 8, 11, 12, 15, 16]]
noncomputable def ph_191 : List (List (List Nat)) := [[[], [], [], [], [], [], [], [], []]]
noncomputable def pp_192 : List (List Nat) := [[0, 1, 4, 7, 8, 9, 10, 11, 14, 15, 16, 17, 18, 21, 22, 23, 24, 27, 28, 29, 30, 31, 32, 33, 36]]
noncomputable def ph_192 : List (List (List Nat)) := [[[], [367, 368], [], [], [], [], [], [370, 371, 72, 372], [], [], [], [], [373, 374, 72, 375], [], [], [], [], [], [], [], [], [], [], [376, 377], []]]
noncomputable def pp_193 : List (List Nat) := [[0, 1, 2, 4, 5, 7, 9, 10, 13, 14, 16, 17, 19, 22, 24, 25, 28, 31, 32]]
noncomputable def ph_193 : List (List (List Nat)) := [[[], [], [], [], [], [], [], [], [], [], [], [], [], [], [], [], [], [], []]]
noncomputable def pp_194 : List (List Nat) := [[0, 1, 2, 3, 4, 7, 8, 9, 10, 11, 14, 15, 16, 17, 18, 21, 22, 23, 24, 25, 26, 27, 28, 29, 32, 33, 34, 35, 36, 38, 39, 40], [41, 42, 43, 45, 46, 47, 48, 49, 51, 52]]
noncomputable def ph_194 : List (List (List Nat)) := [[[], [], [], [], [678], [], [], [], [], [679], [], [], [], [], [679], [], [], [], [], [], [], [], [], [680], [], [], [], [], [], [], [], []], [[], [], [], [], [], [], [], [], [], []]]
noncomputable def pp_195 : List (List Nat) := [[0, 1, 2, 3, 4, 5, 6, 7, 10, 11, 12, 13, 14, 17, 20]]
noncomputable def ph_195 : List (List (List Nat)) := [[[], [], [], [], [], [], [], [], [], [], [], [], [], [], []]]
noncomputable def pp_196 : List (List Nat) := [[0, 3, 4, 7, 8, 11, 12, 15, 16, 17, 18, 19, 20, 21, 22, 23, 26, 27, 28, 29, 31, 32, 204, 205, 206, 207, 208, 209, 210, 211, 212, 213], [214, 215, 216, 218, 219, 220, 221, 222, 223, 224, 225, 228, 229, 230, 233, 234, 235, 236, 237, 238, 239, 240, 241, 242, 243, 244, 245, 247, 248, 249, 250, 251], [252, 253, 254, 257, 258, 259, 262, 265, 266, 267, 268, 271, 272, 275, 278, 279, 280, 281, 282, 283, 284, 285, 286, 289, 290, 293, 294, 297, 298, 299, 300, 301], [302, 303, 306, 307, 310, 311, 314, 317, 318, 319, 320, 323, 324, 327, 330, 331, 332, 333, 336, 337, 340, 343, 344, 345, 346, 347, 348, 349, 350, 351, 354, 355], [356, 357, 358, 359, 360, 363, 366, 367, 368, 369, 370, 371, 372, 373, 374, 375, 376, 377, 378, 379, 382, 383, 384, 385, 386, 387, 388, 389, 390, 391, 392, 393], [396, 399, 400, 401, 402, 403, 404, 405, 406, 407, 408, 409, 410, 411, 412, 413, 414, 415, 416, 417, 420, 421, 422, 423, 424, 425, 426, 427, 428, 429, 430, 431], [432, 433, 434, 435, 436, 439, 442, 443, 444, 445, 446, 447, 448, 449, 450, 451, 452, 453, 454, 455, 458, 459, 460, 461, 462, 463, 464, 465, 466, 467, 468, 469], [472, 475, 476, 477, 478, 479, 480, 481, 482, 483, 486, 487, 488, 489, 490, 491, 492, 495, 498, 499, 500, 501, 502, 503, 504, 505, 506, 507, 508, 509, 510, 511], [514, 515, 516, 517, 518, 519, 520, 521, 522, 523, 524, 525, 528, 531, 532, 533, 534, 535, 536, 537, 538, 539, 540, 541, 542, 543, 544, 545, 546, 547, 548, 549], [552, 553, 554, 555, 556, 557, 558, 559, 560, 561, 562, 563, 564, 565, 566, 567, 568, 571, 574, 575, 576, 577, 578, 579, 580, 581, 582, 585, 586, 587, 588, 589], [590, 591, 594, 597, 598, 599, 600, 601, 602, 603, 604, 605, 608, 609, 610, 611, 612, 613, 614, 617, 620, 621, 622, 623, 624, 625, 626, 627, 628, 629, 630, 631], [632, 633, 636, 637, 638, 639, 640, 641, 642, 643, 644, 645, 646, 647, 650, 651, 654, 655, 656, 657, 658, 659, 660, 661, 662, 663, 664, 665, 666, 667, 670, 671], [674, 675, 678, 679, 680, 681, 682, 683, 684, 685, 686, 687, 688, 689, 692, 693, 696, 697, 700, 701, 704, 705, 706, 707, 708, 709, 710, 711, 712, 713, 714, 715], [716, 717, 720, 721, 722, 723, 724, 725, 726, 727, 728, 729, 730, 731, 734, 737, 738, 739, 740, 743, 744, 747, 750, 751, 752, 753, 756, 757, 760, 763, 764, 765], [766, 767, 768, 769, 770, 771, 774, 775, 776, 777, 778, 779, 780, 783, 786, 787, 788, 789, 790, 791, 792, 793, 794, 795, 796, 797, 798, 799, 802, 803, 804, 805], [806, 807, 808, 809, 810, 811, 812, 813, 816, 819, 820, 821, 822, 825, 826, 829, 832, 833, 834, 835, 838, 839, 842, 843, 846, 847, 848, 849, 852, 853, 856, 859], [860, 861, 862, 863, 864, 865, 866, 867, 870, 871, 872, 873, 874, 875, 876, 879, 880, 883, 884, 885, 886, 889, 890, 893, 896, 897, 898, 899, 902, 903, 906, 907], [910, 911, 912, 913, 914, 915, 916, 917, 918, 919, 920, 921, 922, 923, 926, 927, 928, 929, 930, 931, 932, 933, 934, 935, 936, 937, 940, 943, 944, 945, 946, 947], [948, 949, 950, 951, 952, 953, 954, 955, 956, 957, 958, 959, 960, 961, 964, 965, 966, 967, 968, 969, 970, 971, 972, 973, 974, 975, 976, 977, 978, 979, 980, 983], [984, 987, 988, 989, 990, 991, 992, 993, 994, 995, 998, 999, 1000, 1001, 1002, 1003, 1004, 1007, 1010, 1011, 1012, 1013, 1014, 1015, 1016, 1017, 1018, 1019, 1020, 1021, 1022, 1023], [1024, 1025, 1026, 1027, 1028, 1031, 1032, 1033, 1034, 1035, 1036, 1037, 1038, 1039, 1040, 1041, 1042, 1043, 1044, 1045, 1046, 1047, 1050, 1053, 1054, 1055, 1056, 1057, 1058, 1059, 1060, 1061], [1062, 1063, 1064, 1065, 1066, 1067, 1068, 1069, 1070, 1071, 1074, 1075, 1076, 1077, 1078, 1079, 1080, 1081, 1082, 1083, 1084, 1085, 1086, 1087, 1088, 1089, 1090, 1093, 1096, 1097, 1098, 1099], [1100, 1101, 1102, 1103, 1104, 1105, 1106, 1107, 1108, 1109, 1112, 1113, 1114, 1115, 1116, 1117, 1118, 1119, 1120, 1121, 1122, 1123, 1126, 1129, 1130, 1131, 1132, 1133, 1134, 1135, 1136, 1137], [1140, 1141, 1142, 1143, 1144, 1145, 1146, 1149, 1152, 1153, 1154, 1155, 1156, 1157, 1158, 1159, 1160, 1161, 1162, 1163, 1164, 1165, 1168, 1169, 1170, 1171, 1172, 1173, 1174, 1175, 1176, 1177], [1178, 1179, 1182, 1185, 1186, 1187, 1188, 1191, 1192, 1195, 1198, 1199, 1200, 1201, 1202, 1203, 1204, 1205, 1206, 1209, 1210, 1211, 1212, 1213, 1214, 1215, 1218, 1221, 1222, 1223, 1224, 1225], [1226, 1227, 1228, 1229, 1232, 1233, 1234, 1235, 1236, 1237, 1238, 1241, 1244, 1245, 1246, 1247, 1248, 1249, 1250, 1251, 1252, 1255, 1256, 1257, 1258, 1259, 1260, 1261, 1264, 1267, 1268, 1269], [1272, 1275, 1276]]
noncomputable def ph_196 : List (List (List Nat)) := [[[77, 78, 60], [], [79, 80], [], [815, 816, 69], [], [817, 818], [], [], [], [], [], [], [], [], [], [], [], [], [], [], [], [], [], [], [], [], [], [], [], [], []], [[], [], [], [], [], [], [], [], [], [], [1253], [], [], [322, 323, 324], [], [], [], [], [], [], [], [], [], [], [], [], [], [], [], [], [], []], [[], [], [1253], [], [], [920, 921, 922], [], [], [], [], [330, 331, 332], [], [928, 929, 930], [], [], [], [], [], [], [], [], [], [], [], [], [], [334, 335, 336], [], [], [], [], []], [[], [], [], [], [], [932, 933, 934], [], [], [], [], [436, 437, 438], [], [957, 958, 959], [], [], [], [], [444, 445, 446], [], [961, 962, 963], [], [], [], [], [], [], [], [], [], [459, 460, 461], [], []], [[], [], [], [], [965, 966, 967], [], [], [], [], [], [], [], [], [], [], [], [], [], [], [463, 464, 465], [], [], [], [], [], [], [], [], [], [], [], [969, 970, 971]], [[], [], [], [], [], [], [], [], [], [], [], [], [], [], [], [], [], [], [], [471, 472, 473], [], [], [], [], [], [], [], [], [], [], [], []], [[], [], [], [], [977, 978, 979], [], [], [], [], [], [], [], [], [], [], [], [], [], [], [484, 485, 486], [], [], [], [], [], [], [], [], [], [], [], [986, 987, 988]], [[], [], [], [], [], [], [], [], [], [500, 501, 502], [], [], [], [], [], [], [995, 996, 997], [], [], [], [], [], [], [], [], [], [], [], [], [], [], [504, 505, 506]], [[], [], [], [], [], [], [], [], [], [], [], [1000, 1001, 1002], [], [], [], [], [], [], [], [], [], [], [], [], [], [], [], [], [], [], [], [579, 580, 581]], [[], [], [], [], [], [], [], [], [], [], [], [], [], [], [], [], [1053, 1054, 1055], [], [], [], [], [], [], [], [], [], [584, 585, 586], [], [], [], [], []], [[], [1057, 1058, 1059], [], [], [], [], [], [], [], [], [], [588, 589, 590], [], [], [], [], [], [], [1065, 1066, 1067], [], [], [], [], [], [], [], [], [], [], [], [], []], [[], [593, 594, 595], [], [], [], [], [], [], [], [], [], [], [], [1069, 1070, 1071], [], [], [], [], [], [], [], [], [], [], [], [], [], [], [], [], [], []], [[], [599, 600, 601], [], [], [], [], [], [], [], [], [], [], [], [], [], [], [], [1075, 1076, 1077], [], [], [], [], [], [], [], [], [], [], [], [], [], []], [[], [615, 616, 617], [], [], [], [], [], [], [], [], [], [], [], [1091, 1092, 1093], [], [], [], [], [619, 620, 621], [], [1095, 1096, 1097], [], [], [], [], [623, 624, 625], [], [1099, 1100, 1101], [], [], [], []], [[], [], [], [], [], [627, 628, 629], [], [], [], [], [], [], [1103, 1104, 1105], [], [], [], [], [], [], [], [], [], [], [], [], [], [], [631, 632, 633], [], [], [], []], [[], [], [], [], [], [], [], [1107, 1108, 1109], [], [], [], [], [635, 636, 637], [], [1111, 1112, 1113], [], [], [], [], [643, 644, 645], [], [1123, 1124, 1125], [], [], [], [], [], [650, 651, 652], [], [1127, 1128, 1129], [], []], [[], [], [], [], [], [], [], [658, 659, 660], [], [], [], [], [], [], [1139, 1140, 1141], [], [], [], [], [], [663, 664, 665], [], [1144, 1145, 1146], [], [], [], [], [690, 691, 692], [], [1167, 1168, 1169], [], []], [[], [], [], [], [], [], [], [], [], [], [], [], [], [695, 696, 697], [], [], [], [], [], [], [], [], [], [], [], [1171, 1172, 1173], [], [], [], [], [], []], [[], [], [], [], [], [], [], [], [], [], [], [], [], [708, 709, 710], [], [], [], [], [], [], [], [], [], [], [], [], [], [], [], [], [1183, 1184, 1185], []], [[], [], [], [], [], [], [], [], [], [714, 715, 716], [], [], [], [], [], [], [1188, 1189, 1190], [], [], [], [], [], [], [], [], [], [], [], [], [], [], []], [[], [], [], [], [723, 724, 725], [], [], [], [], [], [], [], [], [], [], [], [], [], [], [], [], [1192, 1193, 1194], [], [], [], [], [], [], [], [], [], []], [[], [], [], [], [], [], [], [], [], [736, 737, 738], [], [], [], [], [], [], [], [], [], [], [], [], [], [], [], [], [1200, 1201, 1202], [], [], [], [], []], [[], [], [], [], [], [], [], [], [], [754, 755, 756], [], [], [], [], [], [], [], [], [], [], [], [1217, 1218, 1219], [], [], [], [], [], [], [], [], [], [763, 764, 765]], [[], [], [], [], [], [], [1225, 1226, 1227], [], [], [], [], [], [], [], [], [], [], [], [], [], [], [775, 776, 777], [], [], [], [], [], [], [], [], [], []], [[], [1229, 1230, 1231], [], [], [], [], [783, 784, 785], [], [1233, 1234, 1235], [], [], [], [], [], [], [], [], [], [791, 792, 793], [], [], [], [], [], [], [1237, 1238, 1239], [], [], [], [], [], []], [[], [], [], [803, 804, 805], [], [], [], [], [], [], [1245, 1246, 1247], [], [], [], [], [], [], [], [], [], [811, 812, 813], [], [], [], [], [], [], [1249, 1250, 1251], [], [], [], []], [[], [], []]]
noncomputable def pps : List (List (List (List Nat))) := [[pp_0, pp_1, pp_2, pp_3, pp_4, pp_5, pp_6, pp_7, pp_8, pp_9, pp_10, pp_11, pp_12, pp_13, pp_14, pp_15],
  [pp_16, pp_17, pp_18, pp_19, pp_20, pp_21, pp_22, pp_23, pp_24, pp_25, pp_26, pp_27, pp_28, pp_29, pp_30, pp_31],
  [pp_32, pp_33, pp_34, pp_35, pp_36, pp_37, pp_38, pp_39, pp_40, pp_41, pp_42, pp_43, pp_44, pp_45, pp_46, pp_47],
  [pp_48, pp_49, pp_50, pp_51, pp_52, pp_53, pp_54, pp_55, pp_56, pp_57, pp_58, pp_59, pp_60, pp_61, pp_62, pp_63],
  [pp_64, pp_65, pp_66, pp_67, pp_68, pp_69, pp_70, pp_71, pp_72, pp_73, pp_74, pp_75, pp_76, pp_77, pp_78, pp_79],
  [pp_80, pp_81, pp_82, pp_83, pp_84, pp_85, pp_86, pp_87, pp_88, pp_89, pp_90, pp_91, pp_92, pp_93, pp_94, pp_95],
  [pp_96, pp_97, pp_98, pp_99, pp_100, pp_101, pp_102, pp_103, pp_104, pp_105, pp_106, pp_107, pp_108, pp_109, pp_110, pp_111],
  [pp_112, pp_113, pp_114, pp_115, pp_116, pp_117, pp_118, pp_119, pp_120, pp_121, pp_122, pp_123, pp_124, pp_125, pp_126, pp_127],
  [pp_128, pp_129, pp_130, pp_131, pp_132, pp_133, pp_134, pp_135, pp_136, pp_137, pp_138, pp_139, pp_140, pp_141, pp_142, pp_143],
  [pp_144, pp_145, pp_146, pp_147, pp_148, pp_149, pp_150, pp_151, pp_152, pp_153, pp_154, pp_155, pp_156, pp_157, pp_158, pp_159],
  [pp_160, pp_161, pp_162, pp_163, pp_164, pp_165, pp_166, pp_167, pp_168, pp_169, pp_170, pp_171, pp_172, pp_173, pp_174, pp_175],
  [pp_176, pp_177, pp_178, pp_179, pp_180, pp_181, pp_182, pp_183, pp_184, pp_185, pp_186, pp_187, pp_188, pp_189, pp_190, pp_191],
  [pp_192, pp_193, pp_194, pp_195, pp_196]]
noncomputable def phs : List (List (List (List (List Nat)))) := [[ph_0, ph_1, ph_2, ph_3, ph_4, ph_5, ph_6, ph_7, ph_8, ph_9, ph_10, ph_11, ph_12, ph_13, ph_14, ph_15],
  [ph_16, ph_17, ph_18, ph_19, ph_20, ph_21, ph_22, ph_23, ph_24, ph_25, ph_26, ph_27, ph_28, ph_29, ph_30, ph_31],
  [ph_32, ph_33, ph_34, ph_35, ph_36, ph_37, ph_38, ph_39, ph_40, ph_41, ph_42, ph_43, ph_44, ph_45, ph_46, ph_47],
  [ph_48, ph_49, ph_50, ph_51, ph_52, ph_53, ph_54, ph_55, ph_56, ph_57, ph_58, ph_59, ph_60, ph_61, ph_62, ph_63],
  [ph_64, ph_65, ph_66, ph_67, ph_68, ph_69, ph_70, ph_71, ph_72, ph_73, ph_74, ph_75, ph_76, ph_77, ph_78, ph_79],
  [ph_80, ph_81, ph_82, ph_83, ph_84, ph_85, ph_86, ph_87, ph_88, ph_89, ph_90, ph_91, ph_92, ph_93, ph_94, ph_95],
  [ph_96, ph_97, ph_98, ph_99, ph_100, ph_101, ph_102, ph_103, ph_104, ph_105, ph_106, ph_107, ph_108, ph_109, ph_110, ph_111],
  [ph_112, ph_113, ph_114, ph_115, ph_116, ph_117, ph_118, ph_119, ph_120, ph_121, ph_122, ph_123, ph_124, ph_125, ph_126, ph_127],
  [ph_128, ph_129, ph_130, ph_131, ph_132, ph_133, ph_134, ph_135, ph_136, ph_137, ph_138, ph_139, ph_140, ph_141, ph_142, ph_143],
  [ph_144, ph_145, ph_146, ph_147, ph_148, ph_149, ph_150, ph_151, ph_152, ph_153, ph_154, ph_155, ph_156, ph_157, ph_158, ph_159],
  [ph_160, ph_161, ph_162, ph_163, ph_164, ph_165, ph_166, ph_167, ph_168, ph_169, ph_170, ph_171, ph_172, ph_173, ph_174, ph_175],
  [ph_176, ph_177, ph_178, ph_179, ph_180, ph_181, ph_182, ph_183, ph_184, ph_185, ph_186, ph_187, ph_188, ph_189, ph_190, ph_191],
  [ph_192, ph_193, ph_194, ph_195, ph_196]]
noncomputable def pms : List (List (Nat × Nat)) := [[(261, 67), (746, 67), (761, 67), (770, 67), (782, 67), (774, 67), (750, 67), (218, 66), (515, 66), (614, 66), (707, 66), (703, 66), (721, 66), (519, 66), (525, 66), (529, 66)],
  [(536, 66), (569, 66), (545, 66), (549, 66), (565, 66), (573, 66), (577, 66), (553, 66), (557, 66), (561, 66), (124, 62), (275, 68), (801, 68), (810, 68), (167, 63), (443, 63)],
  [(451, 63), (454, 63), (458, 63), (610, 63), (688, 63), (499, 63), (495, 63), (491, 63), (89, 61), (329, 61), (341, 61), (431, 61), (435, 61), (81, 60), (325, 60), (333, 60)],
  [(337, 60), (439, 60), (447, 60), (462, 60), (466, 60), (474, 60), (487, 60), (503, 60), (507, 60), (582, 60), (587, 60), (591, 60), (596, 60), (602, 60), (618, 60), (622, 60)],
  [(626, 60), (630, 60), (634, 60), (638, 60), (646, 60), (653, 60), (661, 60), (666, 60), (693, 60), (698, 60), (711, 60), (717, 60), (726, 60), (739, 60), (757, 60), (766, 60)],
  [(778, 60), (786, 60), (794, 60), (806, 60), (814, 60), (470, 60), (477, 60), (797, 60), (480, 60), (729, 60), (732, 60), (742, 60), (483, 60), (539, 60), (735, 60), (790, 60)],
  [(532, 60), (511, 60), (606, 60), (642, 60), (657, 60), (670, 60), (674, 60), (684, 60), (819, 69), (927, 69), (824, 69), (976, 69), (983, 69), (923, 69), (931, 69), (950, 69)],
  [(946, 69), (956, 69), (942, 69), (939, 69), (935, 69), (960, 69), (964, 69), (968, 69), (972, 69), (980, 69), (994, 69), (989, 69), (998, 69), (1015, 69), (1051, 69), (1023, 69)],
  [(1027, 69), (1031, 69), (1019, 69), (1035, 69), (1042, 69), (1039, 69), (1046, 69), (1011, 69), (1007, 69), (1090, 69), (1082, 69), (1086, 69), (1003, 69), (1056, 69), (1064, 69), (1060, 69)],
  [(1068, 69), (1072, 69), (1078, 69), (1094, 69), (1098, 69), (1102, 69), (1106, 69), (1110, 69), (1122, 69), (1118, 69), (1114, 69), (1126, 69), (1134, 69), (1138, 69), (1130, 69), (1142, 69)],
  [(1166, 69), (1158, 69), (1162, 69), (1155, 69), (1151, 69), (1147, 69), (1170, 69), (1182, 69), (1178, 69), (1174, 69), (1186, 69), (1191, 69), (1198, 69), (1195, 69), (1206, 69), (1216, 69)],
  [(1203, 69), (1224, 69), (1220, 69), (1228, 69), (1232, 69), (1236, 69), (1244, 69), (1240, 69), (1248, 69), (1252, 69), (345, 70), (349, 70), (353, 70), (359, 70), (363, 70), (369, 71)],
  [(366, 71), (378, 71), (677, 76), (176, 65), (0, 0)]]
/-- a place of the micro-code as a place of the bytes -/
noncomputable def pPc (y i : Nat) : Nat := mNth 0 (mNth [] (mNth [] (mNth [] pps (y / 16)) (y % 16)) (i / 32)) (i % 32)
noncomputable def pHi (y i : Nat) : List Nat := mNth [] (mNth [] (mNth [] (mNth [] phs (y / 16)) (y % 16)) (i / 32)) (i % 32)
noncomputable def pHm (y : Nat) : Nat × Nat := mNth (0, 0) (mNth [] pms (y / 16)) (y % 16)
/-- which fields of a class are references -/
noncomputable def pkin : List (List Nat) := [[1], [1, 1, 1, 1, 1, 1, 1, 0, 0, 0], [1, 1, 1, 1, 0, 0, 0], [0, 1, 1, 1], [1, 0, 1, 1, 1, 1, 1], [1, 0, 1, 1, 0], [1, 1, 1, 1, 1, 1, 1, 1, 1, 0], [0, 1, 0, 0, 1, 1, 0, 0, 1, 1, 1, 0, 1, 1, 1, 1, 1, 1, 1, 1, 1, 1, 1, 0, 0, 1, 1, 1, 1, 1, 1]]
/-- links to private members of a nest mate -/
noncomputable def pNW : List Cond := [(Jvm.Cond.methodLinkNest "PotAndFine" (9 : Nat) ({ cls := "PotAndFine$Text", name := "<init>", desc := "()V" } : Jvm.MethodName) "PotAndFine"), (Jvm.Cond.fieldLinkNest "PotAndFine$Setup" (34 : Nat) "PotAndFine" "RULE_ELSE" "[I" "PotAndFine"), (Jvm.Cond.methodLinkNest "PotAndFine" (90 : Nat) ({ cls := "PotAndFine$Kept", name := "<init>", desc := "()V" } : Jvm.MethodName) "PotAndFine"), (Jvm.Cond.methodLinkNest "PotAndFine$Course" (64 : Nat) ({ cls := "PotAndFine", name := "placeOf", desc := "(II)I" } : Jvm.MethodName) "PotAndFine"), (Jvm.Cond.methodLinkNest "PotAndFine$Course" (121 : Nat) ({ cls := "PotAndFine", name := "meanOf", desc := "(II)I" } : Jvm.MethodName) "PotAndFine"), (Jvm.Cond.methodLinkNest "PotAndFine$Course" (124 : Nat) ({ cls := "PotAndFine", name := "paymentOf", desc := "(III)I" } : Jvm.MethodName) "PotAndFine"), (Jvm.Cond.methodLinkNest "PotAndFine$Book" (25 : Nat) ({ cls := "PotAndFine", name := "bookPlaceOf", desc := "(II)I" } : Jvm.MethodName) "PotAndFine"), (Jvm.Cond.methodLinkNest "PotAndFine$Book" (44 : Nat) ({ cls := "PotAndFine", name := "meanOf", desc := "(II)I" } : Jvm.MethodName) "PotAndFine")]
/-- static rows by their places -/
noncomputable def pSt : List (Nat × String) := [(1004, "RULE_ELSE"), (1052, "RULE_DIGITS"), (1053, "RULE_LEAST"), (1054, "RULE_MOST"), (1062, "PEOPLE_DIGITS"), (1063, "PEOPLE_LEAST"), (1064, "PEOPLE_MOST")]
/-- texts: index in the pool, text, place -/
noncomputable def pTx : List (Nat × String × Nat) := [(18, "EMFC", 1050), (37, "PZMGSVL", 1060)]
