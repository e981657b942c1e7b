def RX0 : String := "FrankPost$Choice"
def TX0 : u_T := fun k => match k with
  | 0 => ("FrankPost$Choice", "best", "I", false)
  | _ => ("FrankPost$Choice", "most", "I", false)
def tyX0 : Nat → FieldType := fun k => match k with
  | 0 => .int
  | _ => .int
abbrev wsX00 : List Cond := u_ws RX0 TX0 2
theorem nmX0 : ∀ a, a < 2 → ∀ b, b < 2 → a ≠ b → (TX0 a).2.1 ≠ (TX0 b).2.1 := by decide +kernel
theorem tyX0_ok : ∀ k, k < 2 → parseFieldDescriptor (TX0 k).2.2.1 = some (tyX0 k) := by decide +kernel
def RX1 : String := "FrankPost$Post"
def TX1 : u_T := fun k => match k with
  | 0 => ("FrankPost$Post", "people", "I", false)
  | 1 => ("FrankPost$Post", "kindOf", "[I", true)
  | 2 => ("FrankPost$Post", "doorOf", "[I", true)
  | 3 => ("FrankPost$Post", "moodOf", "[I", true)
  | 4 => ("FrankPost$Post", "letters", "I", false)
  | 5 => ("FrankPost$Post", "fromOf", "[I", true)
  | 6 => ("FrankPost$Post", "toOf", "[I", true)
  | 7 => ("FrankPost$Post", "aboutOf", "[I", true)
  | 8 => ("FrankPost$Post", "toneOf", "[I", true)
  | 9 => ("FrankPost$Post", "atOf", "[I", true)
  | 10 => ("FrankPost$Post", "legOf", "[I", true)
  | 11 => ("FrankPost$Post", "doorsADay", "I", false)
  | 12 => ("FrankPost$Post", "today", "I", false)
  | 13 => ("FrankPost$Post", "seen", "I", false)
  | 14 => ("FrankPost$Post", "seenDay", "[I", true)
  | 15 => ("FrankPost$Post", "seenWho", "[I", true)
  | _ => ("FrankPost$Post", "seenMood", "[I", true)
def tyX1 : Nat → FieldType := fun k => match k with
  | 0 => .int
  | 1 => .array .int
  | 2 => .array .int
  | 3 => .array .int
  | 4 => .int
  | 5 => .array .int
  | 6 => .array .int
  | 7 => .array .int
  | 8 => .array .int
  | 9 => .array .int
  | 10 => .array .int
  | 11 => .int
  | 12 => .int
  | 13 => .int
  | 14 => .array .int
  | 15 => .array .int
  | _ => .array .int
abbrev wsX10 : List Cond := u_ws RX1 TX1 17
theorem nmX1 : ∀ a, a < 17 → ∀ b, b < 17 → a ≠ b → (TX1 a).2.1 ≠ (TX1 b).2.1 := by decide +kernel
theorem tyX1_ok : ∀ k, k < 17 → parseFieldDescriptor (TX1 k).2.2.1 = some (tyX1 k) := by decide +kernel
def RX2 : String := "FrankPost$Sheet"
def TX2 : u_T := fun k => match k with
  | 0 => ("FrankPost$Sheet", "size", "I", false)
  | 1 => ("FrankPost$Sheet", "cells", "[I", true)
  | _ => ("FrankPost$Sheet", "laneOfCells", "I", false)
def tyX2 : Nat → FieldType := fun k => match k with
  | 0 => .int
  | 1 => .array .int
  | _ => .int
abbrev wsX20 : List Cond := u_ws RX2 TX2 3
theorem nmX2 : ∀ a, a < 3 → ∀ b, b < 3 → a ≠ b → (TX2 a).2.1 ≠ (TX2 b).2.1 := by decide +kernel
theorem tyX2_ok : ∀ k, k < 3 → parseFieldDescriptor (TX2 k).2.2.1 = some (tyX2 k) := by decide +kernel
def RX3 : String := "FrankPost$Tape"
def TX3 : u_T := fun k => match k with
  | 0 => ("FrankPost$Tape", "bytes", "[I", true)
  | 1 => ("FrankPost$Tape", "length", "I", false)
  | 2 => ("FrankPost$Tape", "told", "LFrankPost$Post;", true)
  | 3 => ("FrankPost$Tape", "lines", "I", false)
  | 4 => ("FrankPost$Tape", "fault", "I", false)
  | 5 => ("FrankPost$Tape", "faultPlace", "I", false)
  | 6 => ("FrankPost$Tape", "place", "I", false)
  | 7 => ("FrankPost$Tape", "token", "I", false)
  | 8 => ("FrankPost$Tape", "start", "I", false)
  | 9 => ("FrankPost$Tape", "number", "I", false)
  | 10 => ("FrankPost$Tape", "paceTold", "Z", false)
  | _ => ("FrankPost$Tape", "values", "[I", true)
def tyX3 : Nat → FieldType := fun k => match k with
  | 0 => .array .int
  | 1 => .int
  | 2 => .object "FrankPost$Post"
  | 3 => .int
  | 4 => .int
  | 5 => .int
  | 6 => .int
  | 7 => .int
  | 8 => .int
  | 9 => .int
  | 10 => .boolean
  | _ => .array .int
abbrev wsX30 : List Cond := u_ws RX3 TX3 12
theorem nmX3 : ∀ a, a < 12 → ∀ b, b < 12 → a ≠ b → (TX3 a).2.1 ≠ (TX3 b).2.1 := by decide +kernel
theorem tyX3_ok : ∀ k, k < 12 → parseFieldDescriptor (TX3 k).2.2.1 = some (tyX3 k) := by decide +kernel
def RX4 : String := "FrankPost"
def TX4 : u_T := fun k => match k with
  | 0 => ("FrankPost", "now", "LFrankPost$Post;", true)
  | 1 => ("FrankPost", "trial", "LFrankPost$Post;", true)
  | 2 => ("FrankPost", "choice", "LFrankPost$Choice;", true)
  | 3 => ("FrankPost", "tape", "LFrankPost$Tape;", true)
  | 4 => ("FrankPost", "images", "[LFrankPost$Post;", true)
  | 5 => ("FrankPost", "imageKept", "[Z", true)
  | 6 => ("FrankPost", "sheets", "[LFrankPost$Sheet;", true)
  | 7 => ("FrankPost", "moodTable", "[I", true)
  | 8 => ("FrankPost", "tally", "[I", true)
  | 9 => ("FrankPost", "textFault", "I", false)
  | _ => ("FrankPost", "readFault", "I", false)
def tyX4 : Nat → FieldType := fun k => match k with
  | 0 => .object "FrankPost$Post"
  | 1 => .object "FrankPost$Post"
  | 2 => .object "FrankPost$Choice"
  | 3 => .object "FrankPost$Tape"
  | 4 => .array (.object "FrankPost$Post")
  | 5 => .array .boolean
  | 6 => .array (.object "FrankPost$Sheet")
  | 7 => .array .int
  | 8 => .array .int
  | 9 => .int
  | _ => .int
abbrev wsX40 : List Cond := u_ws RX4 TX4 11
theorem nmX4 : ∀ a, a < 11 → ∀ b, b < 11 → a ≠ b → (TX4 a).2.1 ≠ (TX4 b).2.1 := by decide +kernel
theorem tyX4_ok : ∀ k, k < 11 → parseFieldDescriptor (TX4 k).2.2.1 = some (tyX4 k) := by decide +kernel
def RX5 : String := "FrankPostModel"
def TX5 : u_T := fun k => match k with
  | 0 => ("FrankPostModel", "st", "[I", true)
  | 1 => ("FrankPostModel", "now", "[I", true)
  | 2 => ("FrankPostModel", "isKept", "[Z", true)
  | 3 => ("FrankPostModel", "draft", "[I", true)
  | 4 => ("FrankPostModel", "hasPace", "Z", false)
  | 5 => ("FrankPostModel", "highest", "I", false)
  | 6 => ("FrankPostModel", "tape", "[I", true)
  | 7 => ("FrankPostModel", "taped", "I", false)
  | 8 => ("FrankPostModel", "pos", "I", false)
  | 9 => ("FrankPostModel", "begun", "I", false)
  | 10 => ("FrankPostModel", "sort", "I", false)
  | 11 => ("FrankPostModel", "value", "I", false)
  | 12 => ("FrankPostModel", "fault", "I", false)
  | 13 => ("FrankPostModel", "wrongAt", "I", false)
  | 14 => ("FrankPostModel", "arrivals", "I", false)
  | 15 => ("FrankPostModel", "readings", "I", false)
  | 16 => ("FrankPostModel", "bestCode", "I", false)
  | 17 => ("FrankPostModel", "bestMuch", "I", false)
  | 18 => ("FrankPostModel", "cameSum", "J", false)
  | 19 => ("FrankPostModel", "moodSum", "J", false)
  | 20 => ("FrankPostModel", "allWays", "J", false)
  | 21 => ("FrankPostModel", "felt", "[I", true)
  | 22 => ("FrankPostModel", "byTone", "[I", true)
  | 23 => ("FrankPostModel", "lanes", "[I", true)
  | 24 => ("FrankPostModel", "sizes", "[I", true)
  | 25 => ("FrankPostModel", "cells", "[I", true)
  | 26 => ("FrankPostModel", "torn", "I", false)
  | _ => ("FrankPostModel", "before", "[I", true)
def tyX5 : Nat → FieldType := fun k => match k with
  | 0 => .array .int
  | 1 => .array .int
  | 2 => .array .boolean
  | 3 => .array .int
  | 4 => .boolean
  | 5 => .int
  | 6 => .array .int
  | 7 => .int
  | 8 => .int
  | 9 => .int
  | 10 => .int
  | 11 => .int
  | 12 => .int
  | 13 => .int
  | 14 => .int
  | 15 => .int
  | 16 => .int
  | 17 => .int
  | 18 => .long
  | 19 => .long
  | 20 => .long
  | 21 => .array .int
  | 22 => .array .int
  | 23 => .array .int
  | 24 => .array .int
  | 25 => .array .int
  | 26 => .int
  | _ => .array .int
abbrev wsX50 : List Cond := u_ws RX5 TX5 28
theorem nmX5 : ∀ a, a < 28 → ∀ b, b < 28 → a ≠ b → (TX5 a).2.1 ≠ (TX5 b).2.1 := by decide +kernel
theorem tyX5_ok : ∀ k, k < 28 → parseFieldDescriptor (TX5 k).2.2.1 = some (tyX5 k) := by decide +kernel
def kTt (ci : Nat) : u_T := match ci with
  | 0 => TX0
  | 1 => TX1
  | 2 => TX2
  | 3 => TX3
  | 4 => TX4
  | _ => TX5
def kRn (ci : Nat) : String := match ci with
  | 0 => RX0
  | 1 => RX1
  | 2 => RX2
  | 3 => RX3
  | 4 => RX4
  | _ => RX5
def kTyf (ci : Nat) : Nat → FieldType := match ci with
  | 0 => tyX0
  | 1 => tyX1
  | 2 => tyX2
  | 3 => tyX3
  | 4 => tyX4
  | _ => tyX5
def kNf (ci : Nat) : Nat := match ci with
  | 0 => 2
  | 1 => 17
  | 2 => 3
  | 3 => 12
  | 4 => 11
  | _ => 28
abbrev kCl : List vw_C := [(RX0, TX0, 2), (RX1, TX1, 17), (RX2, TX2, 3), (RX3, TX3, 12), (RX4, TX4, 11), (RX5, TX5, 28)]
/-- a field's kind: 0 int, 1 boolean, 2 long, 3 reference -/
def kTys (ci : Nat) : List Nat := match ci with
  | 0 => [0, 0]
  | 1 => [0, 3, 3, 3, 0, 3, 3, 3, 3, 3, 3, 0, 0, 0, 3, 3, 3]
  | 2 => [0, 3, 0]
  | 3 => [3, 0, 3, 0, 0, 0, 0, 0, 0, 0, 1, 3]
  | 4 => [3, 3, 3, 3, 3, 3, 3, 3, 3, 0, 0]
  | _ => [3, 3, 3, 3, 1, 0, 3, 0, 0, 0, 0, 0, 0, 0, 0, 0, 0, 0, 2, 2, 2, 3, 3, 3, 3, 3, 0, 3]
def kTy (ci j : Nat) : Nat := (kTys ci).getD j 3
def kOn (o : Nat) : String := match o with
  | 0 => "FrankPost$Choice"
  | 1 => "FrankPost$Post"
  | 2 => "FrankPost$Sheet"
  | 3 => "FrankPost$Tape"
  | 4 => "FrankPost"
  | 5 => "FrankPostModel"
  | 6 => "FrankPostLaw"
  | 7 => "java/lang/Integer"
  | _ => "java/lang/Math"
def kM : List (MethodName × ByteArray × Nat × Option FieldType × Nat) := [
  (⟨"FrankPost$Choice", "<init>", "()V"⟩, prog_2_method_1_code, 1, none, 2),
  (⟨"FrankPost$Choice", "startAbove", "(I)V"⟩, prog_2_method_2_code, 2, none, 1),
  (⟨"FrankPost$Choice", "weigh", "(II)V"⟩, prog_2_method_3_code, 3, none, 1),
  (⟨"FrankPost$Choice", "told", "(I)I"⟩, prog_2_method_4_code, 2, (some .int), 1),
  (⟨"FrankPost$Post", "<init>", "()V"⟩, prog_3_method_1_code, 1, none, 2),
  (⟨"FrankPost$Post", "clear", "()V"⟩, prog_3_method_2_code, 1, none, 1),
  (⟨"FrankPost$Post", "copyFrom", "(LFrankPost$Post;)V"⟩, prog_3_method_3_code, 2, none, 2),
  (⟨"FrankPost$Post", "hasOne", "(I)Z"⟩, prog_3_method_4_code, 2, (some .boolean), 1),
  (⟨"FrankPost$Post", "hasLetter", "(I)Z"⟩, prog_3_method_5_code, 2, (some .boolean), 1),
  (⟨"FrankPost$Post", "onItsWay", "(I)Z"⟩, prog_3_method_6_code, 2, (some .boolean), 1),
  (⟨"FrankPost$Post", "headsFor", "(I)I"⟩, prog_3_method_7_code, 2, (some .int), 1),
  (⟨"FrankPost$Post", "addOne", "(III)V"⟩, prog_3_method_8_code, 4, none, 1),
  (⟨"FrankPost$Post", "addLetter", "(IIII)V"⟩, prog_3_method_9_code, 5, none, 2),
  (⟨"FrankPost$Post", "writeAgain", "(II)V"⟩, prog_3_method_10_code, 3, none, 1),
  (⟨"FrankPost$Post", "addSeen", "(III)V"⟩, prog_3_method_11_code, 4, none, 1),
  (⟨"FrankPost$Post", "moods", "()I"⟩, prog_3_method_12_code, 1, (some .int), 2),
  (⟨"FrankPost$Post", "lettersOfLeg", "(I)I"⟩, prog_3_method_13_code, 4, (some .int), 1),
  (⟨"FrankPost$Post", "lettersTowards", "(I)I"⟩, prog_3_method_14_code, 4, (some .int), 2),
  (⟨"FrankPost$Post", "howManyCame", "()I"⟩, prog_3_method_15_code, 1, (some .int), 2),
  (⟨"FrankPost$Post", "anyOnItsWay", "()Z"⟩, prog_3_method_16_code, 2, (some .boolean), 2),
  (⟨"FrankPost$Post", "pass", "(I)V"⟩, prog_3_method_17_code, 3, none, 4),
  (⟨"FrankPost$Post", "moodsBehind", "(I)I"⟩, prog_3_method_18_code, 2, (some .int), 5),
  (⟨"FrankPost$Post", "passAndCountIdle", "(I)I"⟩, prog_3_method_19_code, 4, (some .int), 4),
  (⟨"FrankPost$Post", "passOne", "()I"⟩, prog_3_method_20_code, 4, (some .int), 3),
  (⟨"FrankPost$Post", "nearer", "(II)I"⟩, prog_3_method_21_code, 3, (some .int), 2),
  (⟨"FrankPost$Post", "bring", "(I)V"⟩, prog_3_method_22_code, 5, none, 2),
  (⟨"FrankPost$Post", "cheer", "(II)V"⟩, prog_3_method_23_code, 4, none, 1),
  (⟨"FrankPost$Post", "goesAsSeen", "()Z"⟩, prog_3_method_24_code, 4, (some .boolean), 5),
  (⟨"FrankPost$Post", "lastSeenDay", "()I"⟩, prog_3_method_25_code, 3, (some .int), 2),
  (⟨"FrankPost$Sheet", "<init>", "()V"⟩, prog_4_method_1_code, 1, none, 2),
  (⟨"FrankPost$Sheet", "isNothing", "()Z"⟩, prog_4_method_2_code, 1, (some .boolean), 1),
  (⟨"FrankPost$Sheet", "renew", "(II)V"⟩, prog_4_method_3_code, 4, none, 1),
  (⟨"FrankPost$Sheet", "put", "(II)V"⟩, prog_4_method_4_code, 3, none, 1),
  (⟨"FrankPost$Sheet", "faultOfLetter", "(II)I"⟩, prog_4_method_5_code, 3, (some .int), 3),
  (⟨"FrankPost$Sheet", "faultOfCells", "(II)I"⟩, prog_4_method_6_code, 3, (some .int), 2),
  (⟨"FrankPost$Tape", "<init>", "()V"⟩, prog_5_method_1_code, 1, none, 3),
  (⟨"FrankPost$Tape", "tellAll", "()V"⟩, prog_5_method_2_code, 2, none, 9),
  (⟨"FrankPost$Tape", "fail", "(II)V"⟩, prog_5_method_3_code, 3, none, 1),
  (⟨"FrankPost$Tape", "takeLine", "()V"⟩, prog_5_method_4_code, 4, none, 8),
  (⟨"FrankPost$Tape", "checkLine", "(I)V"⟩, prog_5_method_5_code, 2, none, 2),
  (⟨"FrankPost$Tape", "takeNumber", "(II)V"⟩, prog_5_method_6_code, 3, none, 5),
  (⟨"FrankPost$Tape", "mostOf", "(II)I"⟩, prog_5_method_7_code, 2, (some .int), 1),
  (⟨"FrankPost$Tape", "tell", "(I)V"⟩, prog_5_method_8_code, 2, none, 3),
  (⟨"FrankPost$Tape", "placeLetters", "()V"⟩, prog_5_method_9_code, 2, none, 2),
  (⟨"FrankPost$Tape", "takeToken", "()V"⟩, prog_5_method_10_code, 1, none, 4),
  (⟨"FrankPost$Tape", "isAmong", "(ICC)Z"⟩, prog_5_method_11_code, 4, (some .boolean), 2),
  (⟨"FrankPost$Tape", "skip", "(CC)V"⟩, prog_5_method_12_code, 3, none, 3),
  (⟨"FrankPost$Tape", "takeFigures", "()V"⟩, prog_5_method_13_code, 2, none, 2),
  (⟨"FrankPost$Tape", "lineOfName", "()I"⟩, prog_5_method_14_code, 2, (some .int), 7),
  (⟨"FrankPost$Tape", "nameOf", "(I)Ljava/lang/String;"⟩, prog_5_method_15_code, 1, (some (.object "java/lang/String")), 1),
  (⟨"FrankPost$Tape", "nameIs", "(Ljava/lang/String;)Z"⟩, prog_5_method_16_code, 3, (some .boolean), 6),
  (⟨"FrankPost", "<init>", "()V"⟩, prog_1_method_1_code, 2, none, 4),
  (⟨"FrankPost", "feed", "(I)I"⟩, prog_1_method_2_code, 2, (some .int), 2),
  (⟨"FrankPost", "end", "(I)I"⟩, prog_1_method_3_code, 3, (some .int), 2),
  (⟨"FrankPost", "text", "()I"⟩, prog_1_method_4_code, 2, (some .int), 10),
  (⟨"FrankPost", "fault", "()I"⟩, prog_1_method_5_code, 1, (some .int), 1),
  (⟨"FrankPost", "rule", "(I)I"⟩, prog_1_method_6_code, 2, (some .int), 3),
  (⟨"FrankPost", "one", "(II)I"⟩, prog_1_method_7_code, 3, (some .int), 3),
  (⟨"FrankPost", "letter", "(II)I"⟩, prog_1_method_8_code, 3, (some .int), 2),
  (⟨"FrankPost", "feels", "(II)I"⟩, prog_1_method_9_code, 3, (some .int), 2),
  (⟨"FrankPost", "alter", "(III)I"⟩, prog_1_method_10_code, 4, (some .int), 3),
  (⟨"FrankPost", "tone", "(II)I"⟩, prog_1_method_11_code, 3, (some .int), 3),
  (⟨"FrankPost", "pace", "(I)I"⟩, prog_1_method_12_code, 3, (some .int), 2),
  (⟨"FrankPost", "write", "(IIII)I"⟩, prog_1_method_13_code, 5, (some .int), 3),
  (⟨"FrankPost", "burn", "(I)I"⟩, prog_1_method_14_code, 3, (some .int), 2),
  (⟨"FrankPost", "days", "(I)I"⟩, prog_1_method_15_code, 3, (some .int), 5),
  (⟨"FrankPost", "runs", "(II)I"⟩, prog_1_method_16_code, 3, (some .int), 5),
  (⟨"FrankPost", "ahead", "(II)I"⟩, prog_1_method_17_code, 3, (some .int), 5),
  (⟨"FrankPost", "comes", "(I)I"⟩, prog_1_method_18_code, 3, (some .int), 5),
  (⟨"FrankPost", "say", "(III)I"⟩, prog_1_method_19_code, 5, (some .int), 6),
  (⟨"FrankPost", "need", "(II)I"⟩, prog_1_method_20_code, 4, (some .int), 5),
  (⟨"FrankPost", "about", "(III)I"⟩, prog_1_method_21_code, 5, (some .int), 6),
  (⟨"FrankPost", "swap", "(II)I"⟩, prog_1_method_22_code, 5, (some .int), 7),
  (⟨"FrankPost", "stop", "(II)I"⟩, prog_1_method_23_code, 4, (some .int), 7),
  (⟨"FrankPost", "kind", "(III)I"⟩, prog_1_method_24_code, 5, (some .int), 6),
  (⟨"FrankPost", "luck", "(IIII)J"⟩, prog_1_method_25_code, 8, (some .long), 5),
  (⟨"FrankPost", "mean", "(III)J"⟩, prog_1_method_26_code, 7, (some .long), 5),
  (⟨"FrankPost", "see", "(III)I"⟩, prog_1_method_27_code, 4, (some .int), 2),
  (⟨"FrankPost", "forget", "(I)I"⟩, prog_1_method_28_code, 3, (some .int), 2),
  (⟨"FrankPost", "kinds", "(I)I"⟩, prog_1_method_29_code, 4, (some .int), 6),
  (⟨"FrankPost", "tones", "(I)I"⟩, prog_1_method_30_code, 4, (some .int), 6),
  (⟨"FrankPost", "ask", "(II)I"⟩, prog_1_method_31_code, 9, (some .int), 7),
  (⟨"FrankPost", "drift", "(III)I"⟩, prog_1_method_32_code, 9, (some .int), 5),
  (⟨"FrankPost", "keep", "(I)I"⟩, prog_1_method_33_code, 3, (some .int), 3),
  (⟨"FrankPost", "back", "(I)I"⟩, prog_1_method_34_code, 2, (some .int), 3),
  (⟨"FrankPost", "sheet", "(III)I"⟩, prog_1_method_35_code, 4, (some .int), 2),
  (⟨"FrankPost", "lay", "(III)I"⟩, prog_1_method_36_code, 5, (some .int), 3),
  (⟨"FrankPost", "read", "(IIII)I"⟩, prog_1_method_37_code, 12, (some .int), 4),
  (⟨"FrankPost", "torn", "()I"⟩, prog_1_method_38_code, 1, (some .int), 1),
  (⟨"FrankPost", "count", "(I)I"⟩, prog_1_method_39_code, 2, (some .int), 2),
  (⟨"FrankPost", "within", "(III)Z"⟩, prog_1_method_40_code, 3, (some .boolean), 1),
  (⟨"FrankPost", "isQuestion", "(II)Z"⟩, prog_1_method_41_code, 2, (some .boolean), 2),
  (⟨"FrankPost", "isOdds", "(III)Z"⟩, prog_1_method_42_code, 3, (some .boolean), 2),
  (⟨"FrankPost", "put", "([IIII)I"⟩, prog_1_method_43_code, 5, (some .int), 2),
  (⟨"FrankPost", "sumOfFirst", "([II)I"⟩, prog_1_method_44_code, 4, (some .int), 1),
  (⟨"FrankPost", "moodsAsItIs", "(I)I"⟩, prog_1_method_45_code, 2, (some .int), 6),
  (⟨"FrankPost", "felt", "(II)I"⟩, prog_1_method_46_code, 3, (some .int), 1),
  (⟨"FrankPost", "sendsOn", "(II)Z"⟩, prog_1_method_47_code, 2, (some .boolean), 1),
  (⟨"FrankPost", "altered", "(II)I"⟩, prog_1_method_48_code, 2, (some .int), 1),
  (⟨"FrankPost", "power", "(JI)J"⟩, prog_1_method_49_code, 6, (some .long), 1),
  (⟨"FrankPost", "weight", "(III)J"⟩, prog_1_method_50_code, 6, (some .long), 2),
  (⟨"FrankPost", "ofLowestTerms", "(JJI)J"⟩, prog_1_method_51_code, 7, (some .long), 2),
  (⟨"FrankPost", "commonDivisor", "(JJ)J"⟩, prog_1_method_52_code, 11, (some .long), 1),
  (⟨"FrankPost", "tablePlace", "(III)I"⟩, prog_1_method_53_code, 3, (some .int), 1),
  (⟨"FrankPost", "fillMoodTable", "(II)V"⟩, prog_1_method_54_code, 5, none, 5),
  (⟨"FrankPost", "mostOfOneMood", "(III)I"⟩, prog_1_method_55_code, 7, (some .int), 2),
  (⟨"FrankPostModel", "<init>", "()V"⟩, prog_7_method_1_code, 2, none, 2),
  (⟨"FrankPostModel", "in", "(JJJ)Z"⟩, prog_7_method_3_code, 6, (some .boolean), 1),
  (⟨"FrankPostModel", "flag", "(Z)I"⟩, prog_7_method_4_code, 1, (some .int), 1),
  (⟨"FrankPostModel", "within", "(II)I"⟩, prog_7_method_5_code, 2, (some .int), 1),
  (⟨"FrankPostModel", "firstDraft", "()V"⟩, prog_7_method_6_code, 2, none, 1),
  (⟨"FrankPostModel", "keepDraft", "()V"⟩, prog_7_method_7_code, 3, none, 1),
  (⟨"FrankPostModel", "feed", "(I)I"⟩, prog_7_method_8_code, 2, (some .int), 2),
  (⟨"FrankPostModel", "end", "(I)I"⟩, prog_7_method_9_code, 3, (some .int), 2),
  (⟨"FrankPostModel", "requires", "(ZI)V"⟩, prog_7_method_10_code, 3, none, 1),
  (⟨"FrankPostModel", "byteAt", "(I)I"⟩, prog_7_method_11_code, 2, (some .int), 1),
  (⟨"FrankPostModel", "is", "(IIII)Z"⟩, prog_7_method_12_code, 5, (some .boolean), 2),
  (⟨"FrankPostModel", "endsIn", "(III)Z"⟩, prog_7_method_13_code, 4, (some .boolean), 2),
  (⟨"FrankPostModel", "lineNow", "()I"⟩, prog_7_method_14_code, 1, (some .int), 3),
  (⟨"FrankPostModel", "reads", "()V"⟩, prog_7_method_15_code, 2, none, 2),
  (⟨"FrankPostModel", "readNumber", "(II)I"⟩, prog_7_method_16_code, 4, (some .int), 3),
  (⟨"FrankPostModel", "readLetter", "()V"⟩, prog_7_method_17_code, 3, none, 4),
  (⟨"FrankPostModel", "readLineOf", "(I)V"⟩, prog_7_method_18_code, 2, none, 5),
  (⟨"FrankPostModel", "readLine", "()V"⟩, prog_7_method_19_code, 2, none, 6),
  (⟨"FrankPostModel", "text", "()I"⟩, prog_7_method_20_code, 2, (some .int), 7),
  (⟨"FrankPostModel", "fault", "()I"⟩, prog_7_method_21_code, 1, (some .int), 1),
  (⟨"FrankPostModel", "isOne", "(I)Z"⟩, prog_7_method_22_code, 2, (some .boolean), 2),
  (⟨"FrankPostModel", "isLetter", "(I)Z"⟩, prog_7_method_23_code, 2, (some .boolean), 2),
  (⟨"FrankPostModel", "isTone", "(I)Z"⟩, prog_7_method_24_code, 1, (some .boolean), 2),
  (⟨"FrankPostModel", "isPart", "(I)Z"⟩, prog_7_method_25_code, 1, (some .boolean), 2),
  (⟨"FrankPostModel", "starts", "()V"⟩, prog_7_method_26_code, 2, none, 1),
  (⟨"FrankPostModel", "settles", "()V"⟩, prog_7_method_27_code, 2, none, 1),
  (⟨"FrankPostModel", "of", "(II)I"⟩, prog_7_method_28_code, 3, (some .int), 1),
  (⟨"FrankPostModel", "becomesOf", "(III)V"⟩, prog_7_method_29_code, 4, none, 1),
  (⟨"FrankPostModel", "ofLetter", "(II)I"⟩, prog_7_method_30_code, 3, (some .int), 1),
  (⟨"FrankPostModel", "letterBecomes", "(III)V"⟩, prog_7_method_31_code, 4, none, 1),
  (⟨"FrankPostModel", "feelsBy", "(II)I"⟩, prog_7_method_32_code, 4, (some .int), 1),
  (⟨"FrankPostModel", "sendsOn", "(II)Z"⟩, prog_7_method_33_code, 3, (some .boolean), 1),
  (⟨"FrankPostModel", "altered", "(II)I"⟩, prog_7_method_34_code, 2, (some .int), 2),
  (⟨"FrankPostModel", "isOnItsWay", "(I)Z"⟩, prog_7_method_35_code, 2, (some .boolean), 2),
  (⟨"FrankPostModel", "toWhom", "(I)I"⟩, prog_7_method_36_code, 2, (some .int), 2),
  (⟨"FrankPostModel", "isMoved", "(II)V"⟩, prog_7_method_37_code, 3, none, 2),
  (⟨"FrankPostModel", "isRead", "(I)V"⟩, prog_7_method_38_code, 6, none, 3),
  (⟨"FrankPostModel", "letterGoes", "(I)V"⟩, prog_7_method_39_code, 7, none, 4),
  (⟨"FrankPostModel", "dayGoes", "(Z)V"⟩, prog_7_method_40_code, 3, none, 5),
  (⟨"FrankPostModel", "daysGo", "(I)V"⟩, prog_7_method_41_code, 3, none, 6),
  (⟨"FrankPostModel", "moods", "()I"⟩, prog_7_method_42_code, 3, (some .int), 2),
  (⟨"FrankPostModel", "moodsBehind", "(I)I"⟩, prog_7_method_43_code, 2, (some .int), 7),
  (⟨"FrankPostModel", "those", "(I)I"⟩, prog_7_method_44_code, 4, (some .int), 2),
  (⟨"FrankPostModel", "rule", "(I)I"⟩, prog_7_method_45_code, 2, (some .int), 3),
  (⟨"FrankPostModel", "one", "(II)I"⟩, prog_7_method_46_code, 5, (some .int), 3),
  (⟨"FrankPostModel", "letter", "(II)I"⟩, prog_7_method_47_code, 3, (some .int), 3),
  (⟨"FrankPostModel", "feels", "(II)I"⟩, prog_7_method_48_code, 3, (some .int), 3),
  (⟨"FrankPostModel", "becomes", "(II)I"⟩, prog_7_method_49_code, 4, (some .int), 1),
  (⟨"FrankPostModel", "alter", "(III)I"⟩, prog_7_method_50_code, 5, (some .int), 3),
  (⟨"FrankPostModel", "legOf", "(I)I"⟩, prog_7_method_51_code, 2, (some .int), 1),
  (⟨"FrankPostModel", "tone", "(II)I"⟩, prog_7_method_52_code, 3, (some .int), 3),
  (⟨"FrankPostModel", "pace", "(I)I"⟩, prog_7_method_53_code, 2, (some .int), 2),
  (⟨"FrankPostModel", "write", "(IIII)I"⟩, prog_7_method_54_code, 6, (some .int), 3),
  (⟨"FrankPostModel", "burn", "(I)I"⟩, prog_7_method_55_code, 2, (some .int), 2),
  (⟨"FrankPostModel", "days", "(I)I"⟩, prog_7_method_56_code, 2, (some .int), 7),
  (⟨"FrankPostModel", "isFar", "(I)Z"⟩, prog_7_method_57_code, 1, (some .boolean), 2),
  (⟨"FrankPostModel", "runs", "(II)I"⟩, prog_7_method_58_code, 6, (some .int), 6),
  (⟨"FrankPostModel", "ahead", "(II)I"⟩, prog_7_method_59_code, 3, (some .int), 7),
  (⟨"FrankPostModel", "comes", "(I)I"⟩, prog_7_method_60_code, 3, (some .int), 6),
  (⟨"FrankPostModel", "startsJudging", "(I)V"⟩, prog_7_method_61_code, 2, none, 1),
  (⟨"FrankPostModel", "judges", "(II)V"⟩, prog_7_method_62_code, 3, none, 1),
  (⟨"FrankPostModel", "judged", "(I)I"⟩, prog_7_method_63_code, 2, (some .int), 1),
  (⟨"FrankPostModel", "mostBy", "(IIII)I"⟩, prog_7_method_64_code, 6, (some .int), 8),
  (⟨"FrankPostModel", "say", "(III)I"⟩, prog_7_method_65_code, 4, (some .int), 9),
  (⟨"FrankPostModel", "need", "(II)I"⟩, prog_7_method_66_code, 4, (some .int), 7),
  (⟨"FrankPostModel", "about", "(III)I"⟩, prog_7_method_67_code, 4, (some .int), 9),
  (⟨"FrankPostModel", "swap", "(II)I"⟩, prog_7_method_68_code, 5, (some .int), 8),
  (⟨"FrankPostModel", "stop", "(II)I"⟩, prog_7_method_69_code, 4, (some .int), 8),
  (⟨"FrankPostModel", "kind", "(III)I"⟩, prog_7_method_70_code, 4, (some .int), 9),
  (⟨"FrankPostModel", "common", "(JJ)J"⟩, prog_7_method_71_code, 10, (some .long), 1),
  (⟨"FrankPostModel", "lowest", "(JJI)J"⟩, prog_7_method_72_code, 7, (some .long), 2),
  (⟨"FrankPostModel", "findOdds", "(III)V"⟩, prog_7_method_73_code, 9, none, 6),
  (⟨"FrankPostModel", "luck", "(IIII)J"⟩, prog_7_method_74_code, 5, (some .long), 7),
  (⟨"FrankPostModel", "mean", "(III)J"⟩, prog_7_method_75_code, 4, (some .long), 7),
  (⟨"FrankPostModel", "see", "(III)I"⟩, prog_7_method_76_code, 5, (some .int), 3),
  (⟨"FrankPostModel", "forget", "(I)I"⟩, prog_7_method_77_code, 2, (some .int), 2),
  (⟨"FrankPostModel", "isSoWith", "(II)Z"⟩, prog_7_method_78_code, 6, (some .boolean), 6),
  (⟨"FrankPostModel", "which", "(II)I"⟩, prog_7_method_79_code, 5, (some .int), 7),
  (⟨"FrankPostModel", "kinds", "(I)I"⟩, prog_7_method_80_code, 2, (some .int), 8),
  (⟨"FrankPostModel", "tones", "(I)I"⟩, prog_7_method_81_code, 2, (some .int), 8),
  (⟨"FrankPostModel", "findTones", "(I)I"⟩, prog_7_method_82_code, 5, (some .int), 7),
  (⟨"FrankPostModel", "ask", "(II)I"⟩, prog_7_method_83_code, 11, (some .int), 8),
  (⟨"FrankPostModel", "drift", "(III)I"⟩, prog_7_method_84_code, 8, (some .int), 6),
  (⟨"FrankPostModel", "copies", "(II)V"⟩, prog_7_method_85_code, 4, none, 1),
  (⟨"FrankPostModel", "keep", "(I)I"⟩, prog_7_method_86_code, 3, (some .int), 2),
  (⟨"FrankPostModel", "back", "(I)I"⟩, prog_7_method_87_code, 2, (some .int), 2),
  (⟨"FrankPostModel", "isSheet", "(II)Z"⟩, prog_7_method_88_code, 2, (some .boolean), 2),
  (⟨"FrankPostModel", "sheet", "(III)I"⟩, prog_7_method_89_code, 5, (some .int), 3),
  (⟨"FrankPostModel", "lay", "(III)I"⟩, prog_7_method_90_code, 4, (some .int), 3),
  (⟨"FrankPostModel", "read", "(IIII)I"⟩, prog_7_method_91_code, 11, (some .int), 4),
  (⟨"FrankPostModel", "torn", "()I"⟩, prog_7_method_92_code, 1, (some .int), 1),
  (⟨"FrankPostModel", "count", "(I)I"⟩, prog_7_method_93_code, 5, (some .int), 2),
  (⟨"java/lang/Integer", "bitCount", "(I)I"⟩, prog_8_method_49_code, 1, (some .int), 1),
  (⟨"FrankPostLaw", "law", "([I)Z"⟩, code, 4, (some .boolean), 11)]
def kMe (y : Nat) : MethodName × ByteArray × Nat × Option FieldType × Nat := kM.getD y (⟨"", "", ""⟩, code, 0, none, 0)
def mN (y : Nat) : MethodName := (kMe y).1
def mB (y : Nat) : ByteArray := (kMe y).2.1
def mL (y : Nat) : Nat := (kMe y).2.2.1
def mR (y : Nat) : Option FieldType := (kMe y).2.2.2.1
def mK (y : Nat) : Nat := (kMe y).2.2.2.2
def kOcs : List Nat := [0, 0, 0, 0, 1, 1, 1, 1, 1, 1, 1, 1, 1, 1, 1, 1, 1, 1, 1, 1, 1, 1, 1, 1, 1, 1, 1, 1, 1, 2, 2, 2, 2, 2, 2, 3, 3, 3, 3, 3, 3, 3, 3, 3, 3, 3, 3, 3, 3, 3, 3, 4, 4, 4, 4, 4, 4, 4, 4, 4, 4, 4, 4, 4, 4, 4, 4, 4, 4, 4, 4, 4, 4, 4, 4, 4, 4, 4, 4, 4, 4, 4, 4, 4, 4, 4, 4, 4, 4, 4, 4, 4, 4, 4, 4, 4, 4, 4, 4, 4, 4, 4, 4, 4, 4, 4, 5, 5, 5, 5, 5, 5, 5, 5, 5, 5, 5, 5, 5, 5, 5, 5, 5, 5, 5, 5, 5, 5, 5, 5, 5, 5, 5, 5, 5, 5, 5, 5, 5, 5, 5, 5, 5, 5, 5, 5, 5, 5, 5, 5, 5, 5, 5, 5, 5, 5, 5, 5, 5, 5, 5, 5, 5, 5, 5, 5, 5, 5, 5, 5, 5, 5, 5, 5, 5, 5, 5, 5, 5, 5, 5, 5, 5, 5, 5, 5, 5, 5, 5, 5, 5, 5, 5, 5, 5, 5, 5, 5, 7, 6]
def oC (y : Nat) : Nat := kOcs.getD y 99
def kStat (y : Nat) : Bool := [41, 49, 90, 91, 92, 93, 94, 96, 97, 98, 99, 100, 101, 102, 103, 107, 108, 109, 128, 129, 136, 137, 138, 161, 175, 176, 192, 198, 199].contains y
def kInit (y : Nat) : Bool := [0, 4, 29, 35, 51, 106].contains y
/-- field links by own class: index, (class, field) -/
def kFl (o : Nat) : List (Nat × Nat × Nat) := match o with
  | 0 => [(9, 0, 0), (15, 0, 1)]
  | 1 => [(52, 1, 0), (9, 1, 1), (15, 1, 2), (18, 1, 3), (55, 1, 4), (21, 1, 5), (24, 1, 6), (27, 1, 7), (30, 1, 8), (33, 1, 9), (36, 1, 10), (39, 1, 11), (58, 1, 12), (61, 1, 13), (43, 1, 14), (46, 1, 15), (49, 1, 16)]
  | 2 => [(11, 2, 0), (15, 2, 1), (19, 2, 2)]
  | 3 => [(81, 1, 0), (78, 1, 4), (106, 1, 5), (113, 1, 6), (116, 1, 7), (122, 1, 8), (95, 1, 11), (9, 3, 0), (119, 3, 1), (18, 3, 2), (28, 3, 3), (32, 3, 4), (35, 3, 5), (38, 3, 6), (48, 3, 7), (69, 3, 8), (84, 3, 9), (41, 3, 10), (22, 3, 11)]
  | 4 => [(88, 1, 0), (112, 1, 1), (115, 1, 2), (118, 1, 3), (91, 1, 4), (127, 1, 5), (130, 1, 6), (133, 1, 7), (136, 1, 8), (139, 1, 9), (142, 1, 10), (97, 1, 11), (94, 1, 12), (208, 1, 13), (63, 3, 0), (59, 3, 1), (78, 3, 2), (85, 3, 3), (69, 3, 4), (75, 3, 5), (262, 2, 0), (249, 2, 1), (10, 4, 0), (16, 4, 1), (22, 4, 2), (29, 4, 3), (33, 4, 4), (37, 4, 5), (43, 4, 6), (47, 4, 7), (51, 4, 8), (72, 4, 9), (256, 4, 10)]
  | 5 => [(7, 5, 0), (13, 5, 1), (16, 5, 2), (20, 5, 3), (50, 5, 4), (54, 5, 5), (23, 5, 6), (64, 5, 7), (76, 5, 8), (70, 5, 9), (91, 5, 10), (102, 5, 11), (67, 5, 12), (73, 5, 13), (132, 5, 14), (135, 5, 15), (236, 5, 16), (239, 5, 17), (265, 5, 18), (269, 5, 19), (272, 5, 20), (26, 5, 21), (29, 5, 22), (32, 5, 23), (35, 5, 24), (38, 5, 25), (309, 5, 26), (41, 5, 27)]
  | _ => []
/-- method links: index, (method, parameters) -/
def kCll (o : Nat) : List (Nat × Nat × Nat) := match o with
  | 1 => [(70, 13, 2), (74, 94, 2), (78, 9, 1), (82, 10, 1), (86, 16, 1), (89, 198, 1), (94, 19, 0), (98, 23, 0), (109, 24, 2), (113, 25, 1), (124, 96, 2), (127, 26, 2), (130, 97, 2), (134, 98, 2), (102, 20, 1), (106, 15, 0), (137, 28, 0)]
  | 2 => [(22, 30, 0), (26, 34, 2)]
  | 3 => [(17, 4, 0), (25, 5, 0), (45, 44, 0), (128, 45, 3), (91, 90, 3), (132, 46, 2), (136, 47, 0), (72, 37, 2), (51, 38, 0), (57, 48, 0), (139, 49, 1), (143, 50, 1), (61, 39, 1), (65, 40, 2), (87, 41, 2), (75, 42, 1), (98, 12, 4), (102, 11, 3), (54, 43, 0), (109, 7, 1), (125, 13, 2)]
  | 4 => [(9, 4, 0), (21, 0, 0), (28, 35, 0), (54, 29, 0), (55, 90, 3), (66, 36, 0), (81, 6, 1), (100, 15, 0), (104, 16, 1), (108, 7, 1), (121, 17, 1), (124, 8, 1), (145, 96, 2), (149, 93, 4), (153, 9, 1), (156, 12, 4), (160, 18, 0), (163, 20, 1), (167, 22, 1), (170, 91, 2), (174, 1, 1), (177, 21, 1), (180, 2, 2), (184, 3, 1), (186, 95, 1), (189, 92, 3), (194, 100, 3), (200, 99, 2), (204, 101, 3), (269, 102, 2), (211, 14, 3), (215, 27, 0), (219, 80, 1), (222, 104, 2), (273, 103, 3), (225, 198, 1), (230, 105, 3), (235, 13, 2), (238, 31, 2), (241, 34, 2), (244, 32, 2), (246, 33, 2), (252, 63, 4), (259, 30, 0), (265, 94, 2)]
  | 5 => [(44, 110, 0), (47, 111, 0), (60, 107, 3), (109, 119, 0), (79, 115, 1), (105, 114, 2), (127, 123, 0), (119, 118, 0), (83, 116, 4), (87, 117, 3), (123, 122, 1), (116, 121, 0), (112, 120, 2), (195, 130, 0), (188, 146, 0), (144, 132, 2), (198, 148, 1), (141, 134, 2), (191, 108, 1), (201, 126, 1), (174, 139, 1), (151, 140, 1), (206, 127, 1), (211, 128, 1), (154, 136, 2), (218, 153, 2), (221, 155, 1), (185, 145, 1), (181, 144, 1), (178, 143, 1), (161, 135, 3), (171, 142, 1), (157, 141, 2), (138, 109, 2), (147, 133, 3), (164, 137, 2), (168, 138, 2), (228, 131, 0), (233, 161, 1), (254, 129, 1), (257, 168, 4), (242, 165, 1), (245, 147, 1), (248, 166, 2), (251, 167, 1), (281, 177, 3), (284, 176, 3), (261, 175, 2), (291, 183, 2), (288, 182, 2), (294, 186, 1), (298, 189, 2), (303, 192, 2), (306, 158, 4)]
  | 6 => [(9, 51, 0), (13, 52, 1), (18, 53, 1), (22, 54, 0), (27, 55, 0), (31, 56, 1), (35, 57, 2), (40, 58, 2), (44, 59, 2), (48, 60, 3), (53, 61, 2), (57, 62, 1), (61, 63, 4), (66, 64, 1), (70, 65, 1), (74, 66, 2), (78, 67, 2), (82, 68, 1), (86, 69, 3), (90, 70, 2), (94, 71, 3), (98, 72, 2), (102, 73, 2), (106, 74, 3), (110, 75, 4), (115, 76, 3), (120, 77, 3), (124, 78, 1), (128, 79, 1), (132, 80, 1), (136, 81, 2), (140, 82, 3), (144, 83, 1), (148, 84, 1), (152, 85, 3), (156, 86, 3), (160, 87, 4), (164, 88, 0), (168, 89, 1), (12, 106, 0), (17, 112, 1), (21, 113, 1), (26, 124, 0), (30, 125, 0), (34, 149, 1), (39, 150, 2), (43, 151, 2), (47, 152, 2), (52, 154, 3), (56, 156, 2), (60, 157, 1), (65, 158, 4), (69, 159, 1), (73, 160, 1), (77, 162, 2), (81, 163, 2), (85, 164, 1), (89, 169, 3), (93, 170, 2), (97, 171, 3), (101, 172, 2), (105, 173, 2), (109, 174, 3), (114, 178, 4), (119, 179, 3), (123, 180, 3), (127, 181, 1), (131, 184, 1), (135, 185, 1), (139, 187, 2), (143, 188, 3), (147, 190, 1), (151, 191, 1), (155, 193, 3), (159, 194, 3), (163, 195, 4), (167, 196, 0), (171, 197, 1)]
  | _ => []
/-- links to what is not a method here: index, 0 Object(), 1 arraycopy, 2 length, 3 charAt, 4 max, 5 min -/
def kPl (o : Nat) : List (Nat × Nat) := match o with
  | 0 => [(3, 0)]
  | 1 => [(3, 0), (64, 1), (116, 5), (121, 4)]
  | 2 => [(3, 0)]
  | 3 => [(3, 0), (159, 2), (163, 3)]
  | 4 => [(1, 0), (276, 1), (282, 4)]
  | 5 => [(1, 0)]
  | _ => []
/-- int constants -/
def kIl (o : Nat) : List (Nat × Int32) := match o with
  | 4 => [(234, 1103515245)]
  | 5 => [(297, 1103515245)]
  | 7 => [(265, 1431655765), (266, 858993459), (267, 252645135)]
  | _ => []
/-- long constants -/
def kLl (o : Nat) : List (Nat × Int64) := match o with
  | 4 => [(192, -1), (198, 10)]
  | 5 => [(58, 127), (94, 97), (96, 122), (98, 48), (100, 57), (204, 3), (209, 5), (130, 18), (214, 9), (216, 20), (224, 4), (226, 30), (231, 60), (275, 10), (277, 8), (279, -1), (301, 2)]
  | _ => []
/-- String constants -/
def kSl (o : Nat) : List (Nat × Nat) := match o with
  | 3 => [(147, 0), (149, 1), (151, 2), (153, 3), (155, 4), (157, 5)]
  | _ => []
/-- class links -/
def kNl (o : Nat) : List (Nat × Nat) := match o with
  | 3 => [(15, 1)]
  | 4 => [(7, 1), (19, 0), (26, 3), (41, 2)]
  | 6 => [(7, 4), (10, 5)]
  | _ => []
/-- all cells in the order in which they are made: a class (below 10) or a kind of array (10 int, 11 boolean, 12 Post, 13 Sheet) and its length -/
def kTab : List (Nat × Nat) := [(4, 0), (1, 0), (10, 5), (10, 5), (10, 5), (10, 6), (10, 6), (10, 6), (10, 6), (10, 6), (10, 6), (10, 6), (10, 6), (10, 6), (1, 0), (10, 5), (10, 5), (10, 5), (10, 6), (10, 6), (10, 6), (10, 6), (10, 6), (10, 6), (10, 6), (10, 6), (10, 6), (0, 0), (3, 0), (10, 160), (1, 0), (10, 5), (10, 5), (10, 5), (10, 6), (10, 6), (10, 6), (10, 6), (10, 6), (10, 6), (10, 6), (10, 6), (10, 6), (10, 4), (12, 2), (11, 2), (13, 4), (10, 1995), (10, 21), (1, 0), (10, 5), (10, 5), (10, 5), (10, 6), (10, 6), (10, 6), (10, 6), (10, 6), (10, 6), (10, 6), (10, 6), (10, 6), (1, 0), (10, 5), (10, 5), (10, 5), (10, 6), (10, 6), (10, 6), (10, 6), (10, 6), (10, 6), (10, 6), (10, 6), (10, 6), (2, 0), (10, 40), (2, 0), (10, 40), (2, 0), (10, 40), (2, 0), (10, 40), (5, 0), (10, 222), (10, 74), (11, 2), (10, 74), (10, 160), (10, 105), (10, 1995), (10, 4), (10, 4), (10, 160), (10, 74)]
def kAt (q : Nat) : Nat × Nat := kTab.getD q (99, 0)
