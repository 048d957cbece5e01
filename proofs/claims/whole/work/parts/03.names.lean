def RX0 : String := "DoubleHeap$Evening"
def TX0 : u_T := fun k => match k with
  | 0 => ("DoubleHeap$Evening", "draw", "I", false)
  | _ => ("DoubleHeap$Evening", "taken", "I", false)
def tyX0 : Nat → FieldType := fun k => match k with
  | 0 => .int
  | _ => .int
abbrev wsX00 : List Cond := u_ws RX0 TX0 2
theorem nmX0 : ∀ a, a < 2 → ∀ b, b < 2 → a ≠ b → (TX0 a).2.1 ≠ (TX0 b).2.1 := by decide +kernel
theorem tyX0_ok : ∀ k, k < 2 → parseFieldDescriptor (TX0 k).2.2.1 = some (tyX0 k) := by decide +kernel
def RX1 : String := "DoubleHeap$Law"
def TX1 : u_T := fun k => match k with
  | 0 => ("DoubleHeap$Law", "rules", "LDoubleHeap$Rules;", true)
  | 1 => ("DoubleHeap$Law", "told", "Z", false)
  | 2 => ("DoubleHeap$Law", "takes", "[J", true)
  | 3 => ("DoubleHeap$Law", "losing", "[J", true)
  | _ => ("DoubleHeap$Law", "readyHeaps", "I", false)
def tyX1 : Nat → FieldType := fun k => match k with
  | 0 => .object "DoubleHeap$Rules"
  | 1 => .boolean
  | 2 => .array .long
  | 3 => .array .long
  | _ => .int
abbrev wsX10 : List Cond := u_ws RX1 TX1 5
theorem nmX1 : ∀ a, a < 5 → ∀ b, b < 5 → a ≠ b → (TX1 a).2.1 ≠ (TX1 b).2.1 := by decide +kernel
theorem tyX1_ok : ∀ k, k < 5 → parseFieldDescriptor (TX1 k).2.2.1 = some (tyX1 k) := by decide +kernel
def RX2 : String := "DoubleHeap$LawReader"
def TX2 : u_T := fun k => match k with
  | 0 => ("DoubleHeap$LawReader", "draft", "LDoubleHeap$Rules;", true)
  | 1 => ("DoubleHeap$LawReader", "text", "[I", true)
  | 2 => ("DoubleHeap$LawReader", "size", "I", false)
  | 3 => ("DoubleHeap$LawReader", "place", "I", false)
  | _ => ("DoubleHeap$LawReader", "failed", "I", false)
def tyX2 : Nat → FieldType := fun k => match k with
  | 0 => .object "DoubleHeap$Rules"
  | 1 => .array .int
  | 2 => .int
  | 3 => .int
  | _ => .int
abbrev wsX20 : List Cond := u_ws RX2 TX2 5
theorem nmX2 : ∀ a, a < 5 → ∀ b, b < 5 → a ≠ b → (TX2 a).2.1 ≠ (TX2 b).2.1 := by decide +kernel
theorem tyX2_ok : ∀ k, k < 5 → parseFieldDescriptor (TX2 k).2.2.1 = some (tyX2 k) := by decide +kernel
def RX3 : String := "DoubleHeap$Numbers"
def TX3 : u_T := fun k => match k with
  | 0 => ("DoubleHeap$Numbers", "row", "[I", true)
  | 1 => ("DoubleHeap$Numbers", "size", "I", false)
  | 2 => ("DoubleHeap$Numbers", "ways", "[[I", true)
  | 3 => ("DoubleHeap$Numbers", "simples", "[J", true)
  | _ => ("DoubleHeap$Numbers", "losing", "[J", true)
def tyX3 : Nat → FieldType := fun k => match k with
  | 0 => .array .int
  | 1 => .int
  | 2 => .array (.array .int)
  | 3 => .array .long
  | _ => .array .long
abbrev wsX30 : List Cond := u_ws RX3 TX3 5
theorem nmX3 : ∀ a, a < 5 → ∀ b, b < 5 → a ≠ b → (TX3 a).2.1 ≠ (TX3 b).2.1 := by decide +kernel
theorem tyX3_ok : ∀ k, k < 5 → parseFieldDescriptor (TX3 k).2.2.1 = some (tyX3 k) := by decide +kernel
def RX4 : String := "DoubleHeap$Rivals"
def TX4 : u_T := fun k => match k with
  | 0 => ("DoubleHeap$Rivals", "twins", "[J", true)
  | 1 => ("DoubleHeap$Rivals", "lost", "[J", true)
  | 2 => ("DoubleHeap$Rivals", "losing", "[J", true)
  | 3 => ("DoubleHeap$Rivals", "othersLosing", "[J", true)
  | _ => ("DoubleHeap$Rivals", "passing", "[J", true)
def tyX4 : Nat → FieldType := fun k => match k with
  | 0 => .array .long
  | 1 => .array .long
  | 2 => .array .long
  | 3 => .array .long
  | _ => .array .long
abbrev wsX40 : List Cond := u_ws RX4 TX4 5
theorem nmX4 : ∀ a, a < 5 → ∀ b, b < 5 → a ≠ b → (TX4 a).2.1 ≠ (TX4 b).2.1 := by decide +kernel
theorem tyX4_ok : ∀ k, k < 5 → parseFieldDescriptor (TX4 k).2.2.1 = some (tyX4 k) := by decide +kernel
def RX5 : String := "DoubleHeap$Rules"
def TX5 : u_T := fun k => match k with
  | 0 => ("DoubleHeap$Rules", "signs", "[I", true)
  | 1 => ("DoubleHeap$Rules", "values", "[I", true)
  | 2 => ("DoubleHeap$Rules", "size", "I", false)
  | 3 => ("DoubleHeap$Rules", "letters", "[I", true)
  | 4 => ("DoubleHeap$Rules", "amounts", "[I", true)
  | 5 => ("DoubleHeap$Rules", "conditions", "[I", true)
  | 6 => ("DoubleHeap$Rules", "count", "I", false)
  | 7 => ("DoubleHeap$Rules", "stack", "[I", true)
  | 8 => ("DoubleHeap$Rules", "top", "I", false)
  | _ => ("DoubleHeap$Rules", "refused", "Z", false)
def tyX5 : Nat → FieldType := fun k => match k with
  | 0 => .array .int
  | 1 => .array .int
  | 2 => .int
  | 3 => .array .int
  | 4 => .array .int
  | 5 => .array .int
  | 6 => .int
  | 7 => .array .int
  | 8 => .int
  | _ => .boolean
abbrev wsX50 : List Cond := u_ws RX5 TX5 10
theorem nmX5 : ∀ a, a < 10 → ∀ b, b < 10 → a ≠ b → (TX5 a).2.1 ≠ (TX5 b).2.1 := by decide +kernel
theorem tyX5_ok : ∀ k, k < 10 → parseFieldDescriptor (TX5 k).2.2.1 = some (tyX5 k) := by decide +kernel
def RX6 : String := "DoubleHeap$Stove"
def TX6 : u_T := fun k => match k with
  | 0 => ("DoubleHeap$Stove", "law", "I", false)
  | 1 => ("DoubleHeap$Stove", "heap", "I", false)
  | 2 => ("DoubleHeap$Stove", "last", "I", false)
  | 3 => ("DoubleHeap$Stove", "size", "I", false)
  | _ => ("DoubleHeap$Stove", "takes", "[I", true)
def tyX6 : Nat → FieldType := fun k => match k with
  | 0 => .int
  | 1 => .int
  | 2 => .int
  | 3 => .int
  | _ => .array .int
abbrev wsX60 : List Cond := u_ws RX6 TX6 5
theorem nmX6 : ∀ a, a < 5 → ∀ b, b < 5 → a ≠ b → (TX6 a).2.1 ≠ (TX6 b).2.1 := by decide +kernel
theorem tyX6_ok : ∀ k, k < 5 → parseFieldDescriptor (TX6 k).2.2.1 = some (tyX6 k) := by decide +kernel
def RX7 : String := "DoubleHeap$Tale"
def TX7 : u_T := fun k => match k with
  | 0 => ("DoubleHeap$Tale", "told", "Z", false)
  | 1 => ("DoubleHeap$Tale", "heap", "I", false)
  | 2 => ("DoubleHeap$Tale", "size", "I", false)
  | 3 => ("DoubleHeap$Tale", "takes", "[I", true)
  | _ => ("DoubleHeap$Tale", "heaps", "[I", true)
def tyX7 : Nat → FieldType := fun k => match k with
  | 0 => .boolean
  | 1 => .int
  | 2 => .int
  | 3 => .array .int
  | _ => .array .int
abbrev wsX70 : List Cond := u_ws RX7 TX7 5
theorem nmX7 : ∀ a, a < 5 → ∀ b, b < 5 → a ≠ b → (TX7 a).2.1 ≠ (TX7 b).2.1 := by decide +kernel
theorem tyX7_ok : ∀ k, k < 5 → parseFieldDescriptor (TX7 k).2.2.1 = some (tyX7 k) := by decide +kernel
def RX8 : String := "DoubleHeap$Tape"
def TX8 : u_T := fun k => match k with
  | 0 => ("DoubleHeap$Tape", "bytes", "[I", true)
  | _ => ("DoubleHeap$Tape", "size", "I", false)
def tyX8 : Nat → FieldType := fun k => match k with
  | 0 => .array .int
  | _ => .int
abbrev wsX80 : List Cond := u_ws RX8 TX8 2
theorem nmX8 : ∀ a, a < 2 → ∀ b, b < 2 → a ≠ b → (TX8 a).2.1 ≠ (TX8 b).2.1 := by decide +kernel
theorem tyX8_ok : ∀ k, k < 2 → parseFieldDescriptor (TX8 k).2.2.1 = some (tyX8 k) := by decide +kernel
def RX9 : String := "DoubleHeap$Walks"
def TX9 : u_T := fun k => match k with
  | 0 => ("DoubleHeap$Walks", "far", "[I", true)
  | 1 => ("DoubleHeap$Walks", "hers", "[I", true)
  | 2 => ("DoubleHeap$Walks", "childs", "[I", true)
  | 3 => ("DoubleHeap$Walks", "won", "[J", true)
  | _ => ("DoubleHeap$Walks", "lost", "[J", true)
def tyX9 : Nat → FieldType := fun k => match k with
  | 0 => .array .int
  | 1 => .array .int
  | 2 => .array .int
  | 3 => .array .long
  | _ => .array .long
abbrev wsX90 : List Cond := u_ws RX9 TX9 5
theorem nmX9 : ∀ a, a < 5 → ∀ b, b < 5 → a ≠ b → (TX9 a).2.1 ≠ (TX9 b).2.1 := by decide +kernel
theorem tyX9_ok : ∀ k, k < 5 → parseFieldDescriptor (TX9 k).2.2.1 = some (tyX9 k) := by decide +kernel
def RX10 : String := "DoubleHeap"
def TX10 : u_T := fun k => match k with
  | 0 => ("DoubleHeap", "tape", "LDoubleHeap$Tape;", true)
  | 1 => ("DoubleHeap", "laws", "[LDoubleHeap$Law;", true)
  | 2 => ("DoubleHeap", "tales", "[LDoubleHeap$Tale;", true)
  | 3 => ("DoubleHeap", "lawReader", "LDoubleHeap$LawReader;", true)
  | 4 => ("DoubleHeap", "draftTale", "LDoubleHeap$Tale;", true)
  | 5 => ("DoubleHeap", "walks", "LDoubleHeap$Walks;", true)
  | 6 => ("DoubleHeap", "rivals", "LDoubleHeap$Rivals;", true)
  | 7 => ("DoubleHeap", "numbers", "LDoubleHeap$Numbers;", true)
  | 8 => ("DoubleHeap", "evening", "LDoubleHeap$Evening;", true)
  | 9 => ("DoubleHeap", "stove", "LDoubleHeap$Stove;", true)
  | 10 => ("DoubleHeap", "keptStove", "LDoubleHeap$Stove;", true)
  | 11 => ("DoubleHeap", "wasKept", "Z", false)
  | 12 => ("DoubleHeap", "draw", "I", false)
  | _ => ("DoubleHeap", "keptDraw", "I", false)
def tyX10 : Nat → FieldType := fun k => match k with
  | 0 => .object "DoubleHeap$Tape"
  | 1 => .array (.object "DoubleHeap$Law")
  | 2 => .array (.object "DoubleHeap$Tale")
  | 3 => .object "DoubleHeap$LawReader"
  | 4 => .object "DoubleHeap$Tale"
  | 5 => .object "DoubleHeap$Walks"
  | 6 => .object "DoubleHeap$Rivals"
  | 7 => .object "DoubleHeap$Numbers"
  | 8 => .object "DoubleHeap$Evening"
  | 9 => .object "DoubleHeap$Stove"
  | 10 => .object "DoubleHeap$Stove"
  | 11 => .boolean
  | 12 => .int
  | _ => .int
abbrev wsX100 : List Cond := u_ws RX10 TX10 14
theorem nmX10 : ∀ a, a < 14 → ∀ b, b < 14 → a ≠ b → (TX10 a).2.1 ≠ (TX10 b).2.1 := by decide +kernel
theorem tyX10_ok : ∀ k, k < 14 → parseFieldDescriptor (TX10 k).2.2.1 = some (tyX10 k) := by decide +kernel
def RX11 : String := "DoubleHeapModel"
def TX11 : u_T := fun k => match k with
  | 0 => ("DoubleHeapModel", "takeSet", "[J", true)
  | 1 => ("DoubleHeapModel", "goodSet", "[J", true)
  | 2 => ("DoubleHeapModel", "lostSet", "[J", true)
  | 3 => ("DoubleHeapModel", "ruleMany", "[I", true)
  | 4 => ("DoubleHeapModel", "gameHeap", "[I", true)
  | 5 => ("DoubleHeapModel", "gameMany", "[I", true)
  | 6 => ("DoubleHeapModel", "gameTake", "[I", true)
  | 7 => ("DoubleHeapModel", "lawSet", "I", false)
  | 8 => ("DoubleHeapModel", "gameSet", "I", false)
  | 9 => ("DoubleHeapModel", "tape", "[B", true)
  | 10 => ("DoubleHeapModel", "taped", "I", false)
  | 11 => ("DoubleHeapModel", "place0", "I", false)
  | 12 => ("DoubleHeapModel", "length0", "I", false)
  | 13 => ("DoubleHeapModel", "fault", "I", false)
  | 14 => ("DoubleHeapModel", "number0", "I", false)
  | 15 => ("DoubleHeapModel", "open", "I", false)
  | 16 => ("DoubleHeapModel", "codeMany", "I", false)
  | 17 => ("DoubleHeapModel", "waiting", "I", false)
  | 18 => ("DoubleHeapModel", "saidMany", "I", false)
  | 19 => ("DoubleHeapModel", "said", "[I", true)
  | 20 => ("DoubleHeapModel", "waitsAt", "[I", true)
  | 21 => ("DoubleHeapModel", "saidLetter", "[I", true)
  | 22 => ("DoubleHeapModel", "saidFrom", "[I", true)
  | 23 => ("DoubleHeapModel", "saidHalf", "[I", true)
  | 24 => ("DoubleHeapModel", "saidTo", "[I", true)
  | 25 => ("DoubleHeapModel", "stack", "[I", true)
  | 26 => ("DoubleHeapModel", "facts", "[I", true)
  | 27 => ("DoubleHeapModel", "newTake", "[I", true)
  | 28 => ("DoubleHeapModel", "lengthOf", "[I", true)
  | 29 => ("DoubleHeapModel", "fewOf", "[I", true)
  | 30 => ("DoubleHeapModel", "manyOf", "[I", true)
  | 31 => ("DoubleHeapModel", "rowsOf", "[J", true)
  | 32 => ("DoubleHeapModel", "wonOf", "[J", true)
  | 33 => ("DoubleHeapModel", "lostRow", "[I", true)
  | 34 => ("DoubleHeapModel", "waysTo", "[I", true)
  | 35 => ("DoubleHeapModel", "lostMany", "I", false)
  | 36 => ("DoubleHeapModel", "isWonTwo", "[Z", true)
  | 37 => ("DoubleHeapModel", "isWonGrowing", "[Z", true)
  | 38 => ("DoubleHeapModel", "isWonMine", "[Z", true)
  | 39 => ("DoubleHeapModel", "isWonTheirs", "[Z", true)
  | 40 => ("DoubleHeapModel", "isWonPassing", "[Z", true)
  | 41 => ("DoubleHeapModel", "hopeHers", "[I", true)
  | 42 => ("DoubleHeapModel", "hopeChild", "[I", true)
  | 43 => ("DoubleHeapModel", "seenHeap", "I", false)
  | 44 => ("DoubleHeapModel", "seenLast", "I", false)
  | 45 => ("DoubleHeapModel", "seenTake", "I", false)
  | 46 => ("DoubleHeapModel", "stoveLaw", "I", false)
  | 47 => ("DoubleHeapModel", "stoveFirst", "I", false)
  | 48 => ("DoubleHeapModel", "stoveMany", "I", false)
  | 49 => ("DoubleHeapModel", "lot", "I", false)
  | 50 => ("DoubleHeapModel", "stoveTake", "[I", true)
  | 51 => ("DoubleHeapModel", "playedMany", "I", false)
  | 52 => ("DoubleHeapModel", "keptLaw", "I", false)
  | 53 => ("DoubleHeapModel", "keptFirst", "I", false)
  | 54 => ("DoubleHeapModel", "keptMany", "I", false)
  | 55 => ("DoubleHeapModel", "keptLot", "I", false)
  | 56 => ("DoubleHeapModel", "keptTake", "[I", true)
  | _ => ("DoubleHeapModel", "isKept", "Z", false)
def tyX11 : Nat → FieldType := fun k => match k with
  | 0 => .array .long
  | 1 => .array .long
  | 2 => .array .long
  | 3 => .array .int
  | 4 => .array .int
  | 5 => .array .int
  | 6 => .array .int
  | 7 => .int
  | 8 => .int
  | 9 => .array .byte
  | 10 => .int
  | 11 => .int
  | 12 => .int
  | 13 => .int
  | 14 => .int
  | 15 => .int
  | 16 => .int
  | 17 => .int
  | 18 => .int
  | 19 => .array .int
  | 20 => .array .int
  | 21 => .array .int
  | 22 => .array .int
  | 23 => .array .int
  | 24 => .array .int
  | 25 => .array .int
  | 26 => .array .int
  | 27 => .array .int
  | 28 => .array .int
  | 29 => .array .int
  | 30 => .array .int
  | 31 => .array .long
  | 32 => .array .long
  | 33 => .array .int
  | 34 => .array .int
  | 35 => .int
  | 36 => .array .boolean
  | 37 => .array .boolean
  | 38 => .array .boolean
  | 39 => .array .boolean
  | 40 => .array .boolean
  | 41 => .array .int
  | 42 => .array .int
  | 43 => .int
  | 44 => .int
  | 45 => .int
  | 46 => .int
  | 47 => .int
  | 48 => .int
  | 49 => .int
  | 50 => .array .int
  | 51 => .int
  | 52 => .int
  | 53 => .int
  | 54 => .int
  | 55 => .int
  | 56 => .array .int
  | _ => .boolean
abbrev wsX110 : List Cond := u_ws RX11 TX11 58
theorem nmX11 : ∀ a, a < 58 → ∀ b, b < 58 → a ≠ b → (TX11 a).2.1 ≠ (TX11 b).2.1 := by decide +kernel
theorem tyX11_ok : ∀ k, k < 58 → parseFieldDescriptor (TX11 k).2.2.1 = some (tyX11 k) := by decide +kernel
abbrev vwCl : List vw_C := [(RX0, TX0, 2), (RX1, TX1, 5), (RX2, TX2, 5), (RX3, TX3, 5), (RX4, TX4, 5), (RX5, TX5, 10), (RX6, TX6, 5), (RX7, TX7, 5), (RX8, TX8, 2), (RX9, TX9, 5), (RX10, TX10, 14), (RX11, TX11, 58)]
def dh_cnl : List String := ["DoubleHeap$Evening", "DoubleHeap$Law", "DoubleHeap$LawReader", "DoubleHeap$Numbers", "DoubleHeap$Rivals", "DoubleHeap$Rules", "DoubleHeap$Stove", "DoubleHeap$Tale", "DoubleHeap$Tape", "DoubleHeap$Walks", "DoubleHeap", "DoubleHeapModel", "DoubleHeapLaw", "java/lang/Long", "java/util/Arrays"]
def dh_cn (o : Nat) : String := dh_cnl.getD o ""
abbrev dh_RI : Type := Nat × Nat × Nat × Int × List (Int × Nat)
/-- a method: its name, code, locals, return, parameters, whether static, own class, where its blocks begin, the kind of its return (0 int, 1 long, 2 reference, 3 boolean, 4 none) -/
abbrev dh_MI : Type := MethodName × ByteArray × Nat × Option FieldType × Nat × Bool × Nat × List Nat × Nat
/-- the places of the world: kind (0 object of class a, 1 int[], 2 long[], 3 byte[], 4 boolean[], 5 Law[], 6 Tale[], 7 int[][]), a: class or length, b c: first element off the array, stride -/
def dh_shl : List (Nat × Nat × Nat × Nat) := [(0, 10, 0, 0), (5, 4, 79, 10), (6, 9, 118, 3), (0, 8, 0, 0), (1, 260, 0, 0), (0, 2, 0, 0), (0, 5, 0, 0), (1, 160, 0, 0), (1, 160, 0, 0), (1, 8, 0, 0), (1, 8, 0, 0), (1, 8, 0, 0), (1, 24, 0, 0), (1, 160, 0, 0), (0, 7, 0, 0), (1, 40, 0, 0), (1, 40, 0, 0), (0, 9, 0, 0), (1, 1681, 0, 0), (1, 1681, 0, 0), (1, 1681, 0, 0), (2, 1681, 0, 0), (2, 1681, 0, 0), (0, 4, 0, 0), (2, 441, 0, 0), (2, 41, 0, 0), (2, 41, 0, 0), (2, 41, 0, 0), (2, 164, 0, 0), (0, 3, 0, 0), (1, 40, 0, 0), (7, 41, 1, 1), (1, 201, 0, 0), (1, 201, 0, 0), (1, 201, 0, 0), (1, 201, 0, 0), (1, 201, 0, 0), (1, 201, 0, 0), (1, 201, 0, 0), (1, 201, 0, 0), (1, 201, 0, 0), (1, 201, 0, 0), (1, 201, 0, 0), (1, 201, 0, 0), (1, 201, 0, 0), (1, 201, 0, 0), (1, 201, 0, 0), (1, 201, 0, 0), (1, 201, 0, 0), (1, 201, 0, 0), (1, 201, 0, 0), (1, 201, 0, 0), (1, 201, 0, 0), (1, 201, 0, 0), (1, 201, 0, 0), (1, 201, 0, 0), (1, 201, 0, 0), (1, 201, 0, 0), (1, 201, 0, 0), (1, 201, 0, 0), (1, 201, 0, 0), (1, 201, 0, 0), (1, 201, 0, 0), (1, 201, 0, 0), (1, 201, 0, 0), (1, 201, 0, 0), (1, 201, 0, 0), (1, 201, 0, 0), (1, 201, 0, 0), (1, 201, 0, 0), (1, 201, 0, 0), (1, 201, 0, 0), (1, 201, 0, 0), (2, 25, 0, 0), (2, 41, 0, 0), (0, 0, 0, 0), (0, 6, 0, 0), (1, 40, 0, 0), (0, 6, 0, 0), (1, 40, 0, 0), (0, 1, 0, 0), (0, 5, 0, 0), (1, 160, 0, 0), (1, 160, 0, 0), (1, 8, 0, 0), (1, 8, 0, 0), (1, 8, 0, 0), (1, 24, 0, 0), (2, 1681, 0, 0), (2, 41, 0, 0), (0, 1, 0, 0), (0, 5, 0, 0), (1, 160, 0, 0), (1, 160, 0, 0), (1, 8, 0, 0), (1, 8, 0, 0), (1, 8, 0, 0), (1, 24, 0, 0), (2, 1681, 0, 0), (2, 41, 0, 0), (0, 1, 0, 0), (0, 5, 0, 0), (1, 160, 0, 0), (1, 160, 0, 0), (1, 8, 0, 0), (1, 8, 0, 0), (1, 8, 0, 0), (1, 24, 0, 0), (2, 1681, 0, 0), (2, 41, 0, 0), (0, 1, 0, 0), (0, 5, 0, 0), (1, 160, 0, 0), (1, 160, 0, 0), (1, 8, 0, 0), (1, 8, 0, 0), (1, 8, 0, 0), (1, 24, 0, 0), (2, 1681, 0, 0), (2, 41, 0, 0), (0, 7, 0, 0), (1, 40, 0, 0), (1, 40, 0, 0), (0, 7, 0, 0), (1, 40, 0, 0), (1, 40, 0, 0), (0, 7, 0, 0), (1, 40, 0, 0), (1, 40, 0, 0), (0, 7, 0, 0), (1, 40, 0, 0), (1, 40, 0, 0), (0, 7, 0, 0), (1, 40, 0, 0), (1, 40, 0, 0), (0, 7, 0, 0), (1, 40, 0, 0), (1, 40, 0, 0), (0, 7, 0, 0), (1, 40, 0, 0), (1, 40, 0, 0), (0, 7, 0, 0), (1, 40, 0, 0), (1, 40, 0, 0), (0, 7, 0, 0), (1, 40, 0, 0), (1, 40, 0, 0), (0, 11, 0, 0), (2, 6724, 0, 0), (2, 6724, 0, 0), (2, 4, 0, 0), (1, 4, 0, 0), (1, 9, 0, 0), (1, 9, 0, 0), (1, 360, 0, 0), (3, 260, 0, 0), (1, 260, 0, 0), (1, 260, 0, 0), (1, 8, 0, 0), (1, 8, 0, 0), (1, 8, 0, 0), (1, 8, 0, 0), (1, 260, 0, 0), (1, 3, 0, 0), (1, 40, 0, 0), (1, 1681, 0, 0), (1, 1681, 0, 0), (1, 1681, 0, 0), (2, 1681, 0, 0), (2, 1681, 0, 0), (1, 40, 0, 0), (1, 8643, 0, 0), (4, 18081, 0, 0), (4, 35301, 0, 0), (4, 1681, 0, 0), (4, 1681, 0, 0), (4, 6724, 0, 0), (1, 1681, 0, 0), (1, 1681, 0, 0), (1, 40, 0, 0), (1, 40, 0, 0)]
def dh_sh (p : Nat) : Option (Nat × Nat × Nat × Nat) := dh_shl[p]?
/-- the fields of a class: kind (0 int, 1 boolean, 3 reference), offset of the place -/
def dh_fkl : List (List (Nat × Nat)) := [[(0, 0), (0, 0)], [(3, 1), (1, 0), (3, 8), (3, 9), (0, 0)], [(3, 1), (3, 8), (0, 0), (0, 0), (0, 0)], [(3, 1), (0, 0), (3, 2), (3, 44), (3, 45)], [(3, 1), (3, 2), (3, 3), (3, 4), (3, 5)], [(3, 1), (3, 2), (0, 0), (3, 3), (3, 4), (3, 5), (0, 0), (3, 6), (0, 0), (1, 0)], [(0, 0), (0, 0), (0, 0), (0, 0), (3, 1)], [(1, 0), (0, 0), (0, 0), (3, 1), (3, 2)], [(3, 1), (0, 0)], [(3, 1), (3, 2), (3, 3), (3, 4), (3, 5)], [(3, 3), (3, 1), (3, 2), (3, 5), (3, 14), (3, 17), (3, 23), (3, 29), (3, 75), (3, 76), (3, 78), (1, 0), (0, 0), (0, 0)], [(3, 1), (3, 2), (3, 3), (3, 4), (3, 5), (3, 6), (3, 7), (0, 0), (0, 0), (3, 8), (0, 0), (0, 0), (0, 0), (0, 0), (0, 0), (0, 0), (0, 0), (0, 0), (0, 0), (3, 9), (3, 10), (3, 11), (3, 12), (3, 13), (3, 14), (3, 15), (3, 16), (3, 17), (3, 18), (3, 19), (3, 20), (3, 21), (3, 22), (3, 23), (3, 24), (0, 0), (3, 25), (3, 26), (3, 27), (3, 28), (3, 29), (3, 30), (3, 31), (0, 0), (0, 0), (0, 0), (0, 0), (0, 0), (0, 0), (0, 0), (3, 32), (0, 0), (0, 0), (0, 0), (0, 0), (0, 0), (3, 33), (1, 0)]]
def dh_fk (ci : Nat) : List (Nat × Nat) := dh_fkl.getD ci []
/-- pool entries: own class, index, class, slot, place of its word -/
def dh_fl : List (Nat × Nat × Nat × Nat × Nat) := [(0, 15, 0, 1, 359), (0, 9, 0, 0, 357), (1, 12, 1, 0, 399), (1, 18, 1, 1, 401), (1, 22, 1, 2, 403), (1, 29, 1, 4, 405), (1, 26, 1, 3, 404), (2, 29, 2, 4, 245), (2, 12, 2, 0, 240), (2, 40, 5, 2, 209), (2, 26, 2, 3, 244), (2, 22, 2, 2, 243), (2, 59, 5, 6, 214), (2, 18, 2, 1, 242), (3, 15, 3, 1, 335), (3, 9, 3, 0, 334), (3, 21, 3, 2, 337), (3, 24, 3, 3, 338), (3, 28, 3, 4, 339), (4, 11, 4, 0, 310), (4, 15, 4, 1, 311), (4, 18, 4, 2, 312), (4, 21, 4, 3, 313), (4, 24, 4, 4, 314), (5, 18, 5, 2, 208), (5, 31, 5, 6, 213), (5, 11, 5, 0, 206), (5, 15, 5, 1, 207), (5, 22, 5, 3, 210), (5, 25, 5, 4, 211), (5, 28, 5, 5, 212), (5, 37, 5, 8, 217), (5, 40, 5, 9, 218), (5, 34, 5, 7, 216), (6, 9, 6, 0, 372), (6, 15, 6, 1, 374), (6, 18, 6, 2, 376), (6, 21, 6, 3, 378), (6, 24, 6, 4, 380), (7, 9, 7, 0, 262), (7, 15, 7, 1, 264), (7, 19, 7, 2, 266), (7, 22, 7, 3, 268), (7, 26, 7, 4, 269), (8, 15, 8, 1, 182), (8, 11, 8, 0, 181), (9, 9, 9, 0, 287), (9, 21, 9, 3, 290), (9, 25, 9, 4, 291), (9, 18, 9, 2, 289), (9, 15, 9, 1, 288), (10, 12, 10, 0, 417), (10, 98, 8, 1, 183), (10, 31, 10, 3, 420), (10, 112, 2, 0, 241), (10, 36, 10, 4, 421), (10, 43, 10, 5, 422), (10, 57, 10, 7, 424), (10, 179, 3, 1, 336), (10, 50, 10, 6, 423), (10, 270, 7, 1, 265), (10, 283, 7, 2, 267), (10, 71, 10, 9, 426), (10, 305, 6, 0, 373), (10, 308, 6, 1, 375), (10, 309, 6, 2, 377), (10, 82, 10, 12, 429), (10, 64, 10, 8, 425), (10, 331, 0, 0, 358), (10, 336, 0, 1, 360), (10, 75, 10, 10, 427), (10, 86, 10, 13, 430), (10, 78, 10, 11, 428), (10, 345, 6, 3, 379), (10, 355, 1, 0, 400), (10, 358, 5, 6, 215), (10, 18, 10, 1, 418), (10, 363, 1, 1, 402), (10, 24, 10, 2, 419), (10, 369, 7, 0, 263), (11, 125, 11, 7, 1118), (11, 128, 11, 8, 1119), (11, 7, 11, 0, 1111), (11, 13, 11, 1, 1112), (11, 32, 11, 9, 1120), (11, 135, 11, 10, 1121), (11, 142, 11, 11, 1122), (11, 145, 11, 12, 1123), (11, 152, 11, 13, 1124), (11, 159, 11, 14, 1125), (11, 36, 11, 19, 1130), (11, 166, 11, 16, 1127), (11, 170, 11, 15, 1126), (11, 39, 11, 20, 1131), (11, 173, 11, 17, 1128), (11, 222, 11, 18, 1129), (11, 42, 11, 21, 1132), (11, 45, 11, 22, 1133), (11, 48, 11, 23, 1134), (11, 51, 11, 24, 1135), (11, 19, 11, 3, 1114), (11, 54, 11, 25, 1136), (11, 57, 11, 26, 1137), (11, 16, 11, 2, 1113), (11, 23, 11, 4, 1115), (11, 26, 11, 5, 1116), (11, 29, 11, 6, 1117), (11, 60, 11, 27, 1138), (11, 63, 11, 28, 1139), (11, 66, 11, 29, 1140), (11, 69, 11, 30, 1141), (11, 72, 11, 31, 1142), (11, 75, 11, 32, 1143), (11, 315, 11, 35, 1146), (11, 78, 11, 33, 1144), (11, 81, 11, 34, 1145), (11, 84, 11, 36, 1147), (11, 89, 11, 37, 1148), (11, 92, 11, 38, 1149), (11, 95, 11, 39, 1150), (11, 98, 11, 40, 1151), (11, 104, 11, 42, 1153), (11, 101, 11, 41, 1152), (11, 373, 11, 43, 1154), (11, 376, 11, 44, 1155), (11, 379, 11, 45, 1156), (11, 401, 11, 47, 1158), (11, 404, 11, 48, 1159), (11, 111, 11, 50, 1161), (11, 407, 11, 46, 1157), (11, 107, 11, 49, 1160), (11, 426, 11, 51, 1162), (11, 433, 11, 57, 1168), (11, 437, 11, 52, 1163), (11, 440, 11, 53, 1164), (11, 443, 11, 54, 1165), (11, 446, 11, 55, 1166), (11, 114, 11, 56, 1167)]
/-- own class, index, method, 1: of a nest mate, place of its word -/
def dh_ml : List (Nat × Nat × Nat × Nat × Nat) := [(0, 18, 3, 1, 1058), (0, 24, 7, 1, 1059), (0, 28, 143, 1, 1060), (0, 32, 144, 1, 1061), (1, 33, 46, 1, 561), (1, 39, 255, 0, 569), (1, 45, 5, 0, 623), (1, 49, 135, 1, 631), (1, 53, 139, 1, 632), (1, 57, 50, 1, 635), (1, 65, 51, 1, 658), (1, 69, 3, 0, 627), (1, 72, 4, 0, 662), (1, 76, 2, 0, 733), (1, 80, 141, 1, 1030), (2, 32, 9, 0, 484), (2, 36, 10, 0, 502), (2, 41, 13, 0, 514), (2, 45, 47, 1, 530), (2, 48, 17, 0, 526), (2, 52, 11, 0, 537), (2, 55, 49, 1, 549), (2, 71, 72, 1, 494), (2, 77, 45, 1, 498), (2, 80, 16, 0, 506), (2, 83, 18, 0, 510), (2, 86, 12, 0, 541), (2, 89, 48, 1, 545), (2, 92, 15, 0, 522), (2, 96, 14, 0, 518), (2, 99, 137, 1, 534), (3, 31, 140, 1, 742), (3, 36, 22, 0, 772), (3, 45, 20, 0, 776), (3, 52, 26, 0, 910), (3, 55, 29, 0, 923), (3, 59, 30, 0, 927), (3, 63, 31, 0, 931), (4, 33, 33, 0, 801), (4, 37, 3, 1, 809), (4, 43, 34, 0, 805), (4, 47, 141, 1, 810), (4, 53, 255, 0, 820), (4, 59, 36, 0, 821), (4, 62, 37, 0, 826), (4, 69, 40, 0, 849), (4, 73, 140, 1, 853), (4, 77, 43, 0, 862), (4, 81, 44, 0, 870), (4, 85, 42, 0, 866), (5, 50, 52, 0, 639), (5, 63, 53, 0, 643), (5, 67, 54, 0, 647), (5, 71, 55, 0, 652), (7, 35, 63, 0, 584), (7, 39, 64, 0, 589), (7, 42, 138, 1, 592), (7, 46, 72, 1, 587), (7, 52, 62, 0, 595), (7, 55, 137, 1, 588), (7, 59, 65, 0, 970), (7, 62, 66, 0, 962), (7, 65, 67, 0, 966), (7, 68, 5, 1, 974), (7, 74, 3, 1, 975), (7, 77, 140, 1, 976), (9, 28, 135, 1, 687), (9, 32, 139, 1, 688), (9, 36, 75, 0, 689), (9, 40, 3, 1, 693), (9, 46, 4, 1, 694), (9, 50, 140, 1, 695), (9, 54, 77, 0, 759), (9, 58, 80, 0, 709), (9, 70, 81, 0, 713), (9, 73, 83, 0, 883), (9, 79, 254, 0, 888), (10, 90, 70, 1, 464), (10, 94, 71, 1, 468), (10, 101, 126, 0, 476), (10, 105, 8, 1, 480), (10, 109, 73, 1, 553), (10, 116, 1, 1, 557), (10, 120, 129, 0, 576), (10, 124, 61, 1, 580), (10, 125, 60, 1, 599), (10, 128, 128, 0, 608), (10, 132, 5, 1, 666), (10, 136, 141, 0, 667), (10, 140, 142, 0, 673), (10, 143, 254, 0, 676), (10, 148, 3, 1, 682), (10, 151, 74, 1, 683), (10, 155, 132, 0, 696), (10, 161, 78, 1, 705), (10, 165, 79, 1, 721), (10, 168, 127, 0, 612), (10, 171, 6, 1, 729), (10, 175, 19, 1, 738), (10, 180, 20, 1, 743), (10, 184, 133, 0, 751), (10, 188, 21, 1, 767), (10, 191, 23, 1, 779), (10, 194, 24, 1, 783), (10, 200, 32, 1, 796), (10, 203, 135, 0, 616), (10, 207, 35, 1, 815), (10, 211, 134, 0, 830), (10, 215, 38, 1, 837), (10, 219, 39, 1, 845), (10, 223, 41, 1, 858), (10, 227, 43, 1, 873), (10, 231, 42, 1, 874), (10, 235, 82, 1, 879), (10, 239, 86, 1, 890), (10, 243, 84, 1, 894), (10, 247, 85, 1, 898), (10, 250, 25, 1, 906), (10, 254, 26, 1, 914), (10, 257, 27, 1, 919), (10, 260, 28, 1, 935), (10, 263, 130, 0, 951), (10, 266, 136, 0, 955), (10, 273, 68, 1, 958), (10, 276, 69, 1, 981), (10, 279, 131, 0, 989), (10, 284, 66, 1, 997), (10, 287, 67, 1, 998), (10, 290, 145, 0, 999), (10, 301, 56, 1, 1010), (10, 312, 140, 0, 670), (10, 316, 57, 1, 1018), (10, 319, 7, 1, 1026), (10, 322, 143, 0, 1035), (10, 325, 144, 0, 1039), (10, 328, 58, 1, 1046), (10, 332, 0, 1, 1054), (10, 340, 59, 1, 1074), (10, 344, 72, 1, 1087), (10, 346, 123, 0, 1092), (10, 349, 124, 0, 1096), (10, 352, 125, 0, 1100), (10, 366, 2, 1, 619), (10, 370, 76, 1, 755), (11, 117, 149, 0, 1415), (11, 121, 146, 0, 1300), (11, 131, 156, 0, 1408), (11, 138, 159, 0, 1292), (11, 148, 161, 0, 1307), (11, 155, 163, 0, 1311), (11, 162, 162, 0, 1328), (11, 176, 168, 0, 1350), (11, 179, 166, 0, 1336), (11, 183, 167, 0, 1323), (11, 187, 165, 0, 1332), (11, 190, 169, 0, 1340), (11, 194, 172, 0, 1319), (11, 197, 170, 0, 1343), (11, 200, 171, 0, 1346), (11, 204, 173, 0, 1354), (11, 207, 174, 0, 1315), (11, 210, 175, 0, 1366), (11, 213, 178, 0, 1362), (11, 216, 176, 0, 1370), (11, 219, 177, 0, 1374), (11, 225, 179, 0, 1358), (11, 228, 180, 0, 1303), (11, 231, 164, 0, 1378), (11, 234, 187, 0, 1382), (11, 237, 182, 0, 1398), (11, 240, 184, 0, 1390), (11, 244, 183, 0, 1394), (11, 248, 147, 0, 1401), (11, 251, 185, 0, 1386), (11, 254, 186, 0, 1404), (11, 257, 188, 0, 1411), (11, 261, 158, 0, 1418), (11, 265, 189, 0, 1426), (11, 268, 191, 0, 1430), (11, 271, 193, 0, 1462), (11, 274, 157, 0, 1454), (11, 278, 148, 0, 1467), (11, 281, 194, 0, 1470), (11, 287, 153, 0, 1438), (11, 290, 155, 0, 1442), (11, 293, 151, 0, 1445), (11, 297, 152, 0, 1448), (11, 300, 150, 0, 1451), (11, 303, 192, 0, 1458), (11, 306, 195, 0, 1474), (11, 311, 199, 0, 1491), (11, 318, 203, 0, 1510), (11, 323, 204, 0, 1515), (11, 328, 205, 0, 1506), (11, 331, 206, 0, 1519), (11, 335, 209, 0, 1532), (11, 338, 210, 0, 1535), (11, 342, 212, 0, 1543), (11, 346, 214, 0, 1551), (11, 350, 216, 0, 1559), (11, 353, 218, 0, 1567), (11, 357, 219, 0, 1571), (11, 361, 221, 0, 1579), (11, 364, 223, 0, 1587), (11, 367, 225, 0, 1599), (11, 370, 226, 0, 1595), (11, 382, 154, 0, 1611), (11, 385, 229, 0, 1615), (11, 388, 233, 0, 1627), (11, 391, 230, 0, 1631), (11, 395, 234, 0, 1636), (11, 410, 236, 0, 1648), (11, 413, 237, 0, 1652), (11, 416, 238, 0, 1656), (11, 420, 241, 0, 1664), (11, 423, 242, 0, 1672), (11, 429, 246, 0, 1685), (12, 13, 87, 0, 460), (12, 17, 160, 0, 1288), (12, 18, 88, 0, 472), (12, 22, 181, 0, 1296), (12, 23, 89, 0, 572), (12, 26, 190, 0, 1422), (12, 27, 90, 0, 604), (12, 31, 196, 0, 1434), (12, 32, 91, 0, 700), (12, 36, 197, 0, 1478), (12, 37, 92, 0, 725), (12, 41, 198, 0, 1483), (12, 42, 93, 0, 734), (12, 45, 200, 0, 1487), (12, 46, 94, 0, 747), (12, 49, 201, 0, 1494), (12, 50, 95, 0, 763), (12, 54, 207, 0, 1502), (12, 55, 96, 0, 787), (12, 59, 208, 0, 1524), (12, 60, 97, 0, 792), (12, 63, 211, 0, 1528), (12, 64, 98, 0, 811), (12, 67, 213, 0, 1539), (12, 68, 99, 0, 833), (12, 71, 215, 0, 1547), (12, 72, 100, 0, 841), (12, 75, 217, 0, 1555), (12, 76, 101, 0, 854), (12, 80, 220, 0, 1563), (12, 81, 102, 0, 875), (12, 84, 222, 0, 1575), (12, 85, 103, 0, 902), (12, 88, 224, 0, 1583), (12, 89, 104, 0, 915), (12, 92, 227, 0, 1591), (12, 93, 105, 0, 939), (12, 96, 202, 0, 1498), (12, 97, 106, 0, 943), (12, 100, 228, 0, 1603), (12, 101, 107, 0, 947), (12, 104, 230, 0, 1607), (12, 105, 108, 0, 977), (12, 108, 231, 0, 1619), (12, 109, 109, 0, 985), (12, 113, 232, 0, 1623), (12, 114, 110, 0, 993), (12, 117, 235, 0, 1632), (12, 118, 111, 0, 1006), (12, 122, 239, 0, 1640), (12, 123, 112, 0, 1014), (12, 126, 240, 0, 1644), (12, 127, 113, 0, 1022), (12, 131, 243, 0, 1660), (12, 132, 114, 0, 1031), (12, 135, 244, 0, 1668), (12, 136, 115, 0, 1042), (12, 139, 245, 0, 1677), (12, 140, 116, 0, 1050), (12, 143, 247, 0, 1681), (12, 144, 117, 0, 1062), (12, 147, 248, 0, 1689), (12, 148, 118, 0, 1066), (12, 152, 249, 0, 1693), (12, 153, 119, 0, 1070), (12, 156, 250, 0, 1698), (12, 157, 120, 0, 1079), (12, 161, 251, 0, 1702), (12, 162, 121, 0, 1083), (12, 165, 252, 0, 1706), (12, 166, 122, 0, 1088), (12, 169, 253, 0, 1710)]
def dh_cl : List (Nat × Nat × Int × Nat) := [(3, 35, 1000000000, 771), (9, 85, 1000000, 889), (10, 339, 65535, 1038), (11, 169, 1048576, 1327), (11, 277, 1000000, 1466), (11, 322, 1000000000, 1514), (11, 419, 65536, 1676), (11, 432, 65535, 1697)]
def dh_ll : List (Nat × Nat × Int × Nat) := [(1, 37, -1, 568), (3, 66, 2, 934), (4, 51, -1, 819), (9, 62, 1000000000000000000, 717), (10, 159, -1, 704), (10, 198, -2, 791), (10, 299, 1000000000000, 1005), (11, 285, 1000000000000000000, 1473), (11, 309, -1, 1482), (11, 326, -2, 1523), (11, 399, 1000000000000, 1639), (13, 314, 6148914691236517205, 679), (13, 316, 3689348814741910323, 680), (13, 318, 1085102592571150095, 681)]
def dh_yl : List (Nat × Nat × Nat) := [(5, 44, 565), (6, 28, 1078), (7, 29, 603)]
/-- Math: own class, index, 0 max 1 min 2 max 3 min of longs, place of its word -/
def dh_hl : List (Nat × Nat × Nat × Nat) := [(1, 60, 1, 657), (2, 62, 1, 488), (2, 68, 0, 491), (3, 40, 1, 778), (3, 49, 0, 777), (4, 27, 0, 800), (4, 66, 1, 825), (5, 54, 1, 656), (5, 60, 0, 651), (9, 64, 3, 718), (9, 76, 0, 887), (10, 294, 2, 1002)]
