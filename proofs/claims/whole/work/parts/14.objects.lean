def RX0 : String := "SoftController$Grammar"
def TX0 : u_T := fun k => match k with
  | 0 => ("SoftController$Grammar", "tokens", "LSoftController$Tokens;", true)
  | _ => ("SoftController$Grammar", "open", "I", false)
def tyX0 : Nat → FieldType := fun k => match k with
  | 0 => .object "SoftController$Tokens"
  | _ => .int
abbrev wsX00 : List Cond := u_ws RX0 TX0 2
theorem nmX0 : ∀ a, a < 2 → ∀ b, b < 2 → a ≠ b → (TX0 a).2.1 ≠ (TX0 b).2.1 := by decide +kernel
theorem tyX0_ok : ∀ k, k < 2 → parseFieldDescriptor (TX0 k).2.2.1 = some (tyX0 k) := by decide +kernel
def RX1 : String := "SoftController$Images"
def TX1 : u_T := fun k => match k with
  | _ => ("SoftController$Images", "rows", "[[I", true)
def tyX1 : Nat → FieldType := fun k => match k with
  | _ => .array (.array .int)
abbrev wsX10 : List Cond := u_ws RX1 TX1 1
theorem nmX1 : ∀ a, a < 1 → ∀ b, b < 1 → a ≠ b → (TX1 a).2.1 ≠ (TX1 b).2.1 := by decide +kernel
theorem tyX1_ok : ∀ k, k < 1 → parseFieldDescriptor (TX1 k).2.2.1 = some (tyX1 k) := by decide +kernel
def RX2 : String := "SoftController$Machine"
def TX2 : u_T := fun k => match k with
  | 0 => ("SoftController$Machine", "memory", "[J", true)
  | 1 => ("SoftController$Machine", "oldNumbers", "[J", true)
  | 2 => ("SoftController$Machine", "images", "LSoftController$Images;", true)
  | 3 => ("SoftController$Machine", "backSteps", "[I", true)
  | 4 => ("SoftController$Machine", "backFrames", "[I", true)
  | 5 => ("SoftController$Machine", "backTops", "[I", true)
  | 6 => ("SoftController$Machine", "program", "LSoftController$Program;", false)
  | 7 => ("SoftController$Machine", "top", "I", false)
  | 8 => ("SoftController$Machine", "frame", "I", false)
  | 9 => ("SoftController$Machine", "step", "I", false)
  | 10 => ("SoftController$Machine", "depth", "I", false)
  | 11 => ("SoftController$Machine", "tick", "I", false)
  | 12 => ("SoftController$Machine", "most", "I", false)
  | 13 => ("SoftController$Machine", "work", "I", false)
  | 14 => ("SoftController$Machine", "running", "Z", false)
  | 15 => ("SoftController$Machine", "fault", "I", false)
  | 16 => ("SoftController$Machine", "faultPlace", "I", false)
  | _ => ("SoftController$Machine", "faultNumber", "I", false)
def tyX2 : Nat → FieldType := fun k => match k with
  | 0 => .array .long
  | 1 => .array .long
  | 2 => .object "SoftController$Images"
  | 3 => .array .int
  | 4 => .array .int
  | 5 => .array .int
  | 6 => .object "SoftController$Program"
  | 7 => .int
  | 8 => .int
  | 9 => .int
  | 10 => .int
  | 11 => .int
  | 12 => .int
  | 13 => .int
  | 14 => .boolean
  | 15 => .int
  | 16 => .int
  | _ => .int
abbrev wsX20 : List Cond := u_ws RX2 TX2 18
theorem nmX2 : ∀ a, a < 18 → ∀ b, b < 18 → a ≠ b → (TX2 a).2.1 ≠ (TX2 b).2.1 := by decide +kernel
theorem tyX2_ok : ∀ k, k < 18 → parseFieldDescriptor (TX2 k).2.2.1 = some (tyX2 k) := by decide +kernel
def RX3 : String := "SoftController$Maker"
def TX3 : u_T := fun k => match k with
  | 0 => ("SoftController$Maker", "tokens", "LSoftController$Tokens;", true)
  | 1 => ("SoftController$Maker", "terms", "LSoftController$Terms;", true)
  | 2 => ("SoftController$Maker", "numbers", "[I", true)
  | 3 => ("SoftController$Maker", "program", "LSoftController$Program;", false)
  | 4 => ("SoftController$Maker", "address", "I", false)
  | 5 => ("SoftController$Maker", "loops", "I", false)
  | 6 => ("SoftController$Maker", "breaks", "I", false)
  | _ => ("SoftController$Maker", "continues", "I", false)
def tyX3 : Nat → FieldType := fun k => match k with
  | 0 => .object "SoftController$Tokens"
  | 1 => .object "SoftController$Terms"
  | 2 => .array .int
  | 3 => .object "SoftController$Program"
  | 4 => .int
  | 5 => .int
  | 6 => .int
  | _ => .int
abbrev wsX30 : List Cond := u_ws RX3 TX3 8
theorem nmX3 : ∀ a, a < 8 → ∀ b, b < 8 → a ≠ b → (TX3 a).2.1 ≠ (TX3 b).2.1 := by decide +kernel
theorem tyX3_ok : ∀ k, k < 8 → parseFieldDescriptor (TX3 k).2.2.1 = some (tyX3 k) := by decide +kernel
def RX4 : String := "SoftController$Name"
def TX4 : u_T := fun k => match k with
  | 0 => ("SoftController$Name", "head", "J", false)
  | 1 => ("SoftController$Name", "tail", "I", false)
  | 2 => ("SoftController$Name", "sort", "I", false)
  | 3 => ("SoftController$Name", "index", "I", false)
  | 4 => ("SoftController$Name", "number", "I", false)
  | 5 => ("SoftController$Name", "kind", "I", false)
  | 6 => ("SoftController$Name", "how", "I", false)
  | 7 => ("SoftController$Name", "size", "I", false)
  | 8 => ("SoftController$Name", "row", "Z", false)
  | 9 => ("SoftController$Name", "at", "I", false)
  | 10 => ("SoftController$Name", "first", "J", false)
  | 11 => ("SoftController$Name", "parameters", "I", false)
  | 12 => ("SoftController$Name", "locals", "I", false)
  | 13 => ("SoftController$Name", "entry", "I", false)
  | _ => ("SoftController$Name", "block", "I", false)
def tyX4 : Nat → FieldType := fun k => match k with
  | 0 => .long
  | 1 => .int
  | 2 => .int
  | 3 => .int
  | 4 => .int
  | 5 => .int
  | 6 => .int
  | 7 => .int
  | 8 => .boolean
  | 9 => .int
  | 10 => .long
  | 11 => .int
  | 12 => .int
  | 13 => .int
  | _ => .int
abbrev wsX40 : List Cond := u_ws RX4 TX4 15
theorem nmX4 : ∀ a, a < 15 → ∀ b, b < 15 → a ≠ b → (TX4 a).2.1 ≠ (TX4 b).2.1 := by decide +kernel
theorem tyX4_ok : ∀ k, k < 15 → parseFieldDescriptor (TX4 k).2.2.1 = some (tyX4 k) := by decide +kernel
def RX6 : String := "SoftController$Program"
def TX6 : u_T := fun k => match k with
  | 0 => ("SoftController$Program", "names", "[LSoftController$Name;", true)
  | 1 => ("SoftController$Program", "builtIns", "[LSoftController$Name;", true)
  | 2 => ("SoftController$Program", "unknown", "LSoftController$Name;", true)
  | 3 => ("SoftController$Program", "sorted", "[[I", true)
  | 4 => ("SoftController$Program", "sorts", "[I", true)
  | 5 => ("SoftController$Program", "tasks", "[LSoftController$Task;", true)
  | 6 => ("SoftController$Program", "operations", "[I", true)
  | 7 => ("SoftController$Program", "firsts", "[I", true)
  | 8 => ("SoftController$Program", "seconds", "[I", true)
  | 9 => ("SoftController$Program", "places", "[I", true)
  | 10 => ("SoftController$Program", "lows", "[J", true)
  | 11 => ("SoftController$Program", "highs", "[J", true)
  | 12 => ("SoftController$Program", "told", "I", false)
  | 13 => ("SoftController$Program", "steps", "I", false)
  | 14 => ("SoftController$Program", "labels", "I", false)
  | _ => ("SoftController$Program", "owner", "I", false)
def tyX6 : Nat → FieldType := fun k => match k with
  | 0 => .array (.object "SoftController$Name")
  | 1 => .array (.object "SoftController$Name")
  | 2 => .object "SoftController$Name"
  | 3 => .array (.array .int)
  | 4 => .array .int
  | 5 => .array (.object "SoftController$Task")
  | 6 => .array .int
  | 7 => .array .int
  | 8 => .array .int
  | 9 => .array .int
  | 10 => .array .long
  | 11 => .array .long
  | 12 => .int
  | 13 => .int
  | 14 => .int
  | _ => .int
abbrev wsX60 : List Cond := u_ws RX6 TX6 16
theorem nmX6 : ∀ a, a < 16 → ∀ b, b < 16 → a ≠ b → (TX6 a).2.1 ≠ (TX6 b).2.1 := by decide +kernel
theorem tyX6_ok : ∀ k, k < 16 → parseFieldDescriptor (TX6 k).2.2.1 = some (tyX6 k) := by decide +kernel
def RX7 : String := "SoftController$Task"
def TX7 : u_T := fun k => match k with
  | 0 => ("SoftController$Task", "every", "I", false)
  | 1 => ("SoftController$Task", "after", "I", false)
  | 2 => ("SoftController$Task", "entry", "I", false)
  | 3 => ("SoftController$Task", "stopped", "Z", false)
  | 4 => ("SoftController$Task", "runs", "I", false)
  | 5 => ("SoftController$Task", "work", "I", false)
  | 6 => ("SoftController$Task", "fault", "I", false)
  | 7 => ("SoftController$Task", "faultPlace", "I", false)
  | 8 => ("SoftController$Task", "faultTick", "I", false)
  | _ => ("SoftController$Task", "faultNumber", "I", false)
def tyX7 : Nat → FieldType := fun k => match k with
  | 0 => .int
  | 1 => .int
  | 2 => .int
  | 3 => .boolean
  | 4 => .int
  | 5 => .int
  | 6 => .int
  | 7 => .int
  | 8 => .int
  | _ => .int
abbrev wsX70 : List Cond := u_ws RX7 TX7 10
theorem nmX7 : ∀ a, a < 10 → ∀ b, b < 10 → a ≠ b → (TX7 a).2.1 ≠ (TX7 b).2.1 := by decide +kernel
theorem tyX7_ok : ∀ k, k < 10 → parseFieldDescriptor (TX7 k).2.2.1 = some (tyX7 k) := by decide +kernel
def RX8 : String := "SoftController$Terms"
def TX8 : u_T := fun k => match k with
  | 0 => ("SoftController$Terms", "tokens", "LSoftController$Tokens;", true)
  | 1 => ("SoftController$Terms", "signs", "[I", true)
  | 2 => ("SoftController$Terms", "signPlaces", "[I", true)
  | 3 => ("SoftController$Terms", "leftKinds", "[I", true)
  | 4 => ("SoftController$Terms", "jumps", "[I", true)
  | 5 => ("SoftController$Terms", "waiting", "I", false)
  | 6 => ("SoftController$Terms", "program", "LSoftController$Program;", false)
  | 7 => ("SoftController$Terms", "isConst", "Z", false)
  | _ => ("SoftController$Terms", "constNumber", "J", false)
def tyX8 : Nat → FieldType := fun k => match k with
  | 0 => .object "SoftController$Tokens"
  | 1 => .array .int
  | 2 => .array .int
  | 3 => .array .int
  | 4 => .array .int
  | 5 => .int
  | 6 => .object "SoftController$Program"
  | 7 => .boolean
  | _ => .long
abbrev wsX80 : List Cond := u_ws RX8 TX8 9
theorem nmX8 : ∀ a, a < 9 → ∀ b, b < 9 → a ≠ b → (TX8 a).2.1 ≠ (TX8 b).2.1 := by decide +kernel
theorem tyX8_ok : ∀ k, k < 9 → parseFieldDescriptor (TX8 k).2.2.1 = some (tyX8 k) := by decide +kernel
def RX9 : String := "SoftController$Tokens"
def TX9 : u_T := fun k => match k with
  | 0 => ("SoftController$Tokens", "text", "[B", true)
  | 1 => ("SoftController$Tokens", "types", "[I", true)
  | 2 => ("SoftController$Tokens", "places", "[I", true)
  | 3 => ("SoftController$Tokens", "values", "[J", true)
  | 4 => ("SoftController$Tokens", "tails", "[I", true)
  | 5 => ("SoftController$Tokens", "words", "[J", true)
  | 6 => ("SoftController$Tokens", "length", "I", false)
  | 7 => ("SoftController$Tokens", "size", "I", false)
  | 8 => ("SoftController$Tokens", "at", "I", false)
  | 9 => ("SoftController$Tokens", "fault", "I", false)
  | _ => ("SoftController$Tokens", "faultPlace", "I", false)
def tyX9 : Nat → FieldType := fun k => match k with
  | 0 => .array .byte
  | 1 => .array .int
  | 2 => .array .int
  | 3 => .array .long
  | 4 => .array .int
  | 5 => .array .long
  | 6 => .int
  | 7 => .int
  | 8 => .int
  | 9 => .int
  | _ => .int
abbrev wsX90 : List Cond := u_ws RX9 TX9 11
theorem nmX9 : ∀ a, a < 11 → ∀ b, b < 11 → a ≠ b → (TX9 a).2.1 ≠ (TX9 b).2.1 := by decide +kernel
theorem tyX9_ok : ∀ k, k < 11 → parseFieldDescriptor (TX9 k).2.2.1 = some (tyX9 k) := by decide +kernel
def RX10 : String := "SoftController$Trace"
def TX10 : u_T := fun k => match k with
  | 0 => ("SoftController$Trace", "variables", "[I", true)
  | 1 => ("SoftController$Trace", "places", "[I", true)
  | 2 => ("SoftController$Trace", "numbers", "[J", true)
  | 3 => ("SoftController$Trace", "traced", "I", false)
  | 4 => ("SoftController$Trace", "eventTicks", "[I", true)
  | 5 => ("SoftController$Trace", "eventVariables", "[I", true)
  | 6 => ("SoftController$Trace", "eventPlaces", "[I", true)
  | 7 => ("SoftController$Trace", "eventNumbers", "[J", true)
  | 8 => ("SoftController$Trace", "kept", "I", false)
  | _ => ("SoftController$Trace", "next", "I", false)
def tyX10 : Nat → FieldType := fun k => match k with
  | 0 => .array .int
  | 1 => .array .int
  | 2 => .array .long
  | 3 => .int
  | 4 => .array .int
  | 5 => .array .int
  | 6 => .array .int
  | 7 => .array .long
  | 8 => .int
  | _ => .int
abbrev wsX100 : List Cond := u_ws RX10 TX10 10
theorem nmX10 : ∀ a, a < 10 → ∀ b, b < 10 → a ≠ b → (TX10 a).2.1 ≠ (TX10 b).2.1 := by decide +kernel
theorem tyX10_ok : ∀ k, k < 10 → parseFieldDescriptor (TX10 k).2.2.1 = some (tyX10 k) := by decide +kernel
def RX11 : String := "SoftController"
def TX11 : u_T := fun k => match k with
  | 0 => ("SoftController", "tape", "[B", true)
  | 1 => ("SoftController", "tapeBytes", "I", false)
  | 2 => ("SoftController", "tokens", "LSoftController$Tokens;", true)
  | 3 => ("SoftController", "grammar", "LSoftController$Grammar;", true)
  | 4 => ("SoftController", "maker", "LSoftController$Maker;", true)
  | 5 => ("SoftController", "images", "LSoftController$Images;", true)
  | 6 => ("SoftController", "machine", "LSoftController$Machine;", true)
  | 7 => ("SoftController", "tracing", "LSoftController$Trace;", true)
  | 8 => ("SoftController", "loaded", "LSoftController$Program;", false)
  | 9 => ("SoftController", "draft", "LSoftController$Program;", false)
  | 10 => ("SoftController", "tick", "I", false)
  | _ => ("SoftController", "watchdogNumber", "I", false)
def tyX11 : Nat → FieldType := fun k => match k with
  | 0 => .array .byte
  | 1 => .int
  | 2 => .object "SoftController$Tokens"
  | 3 => .object "SoftController$Grammar"
  | 4 => .object "SoftController$Maker"
  | 5 => .object "SoftController$Images"
  | 6 => .object "SoftController$Machine"
  | 7 => .object "SoftController$Trace"
  | 8 => .object "SoftController$Program"
  | 9 => .object "SoftController$Program"
  | 10 => .int
  | _ => .int
abbrev wsX110 : List Cond := u_ws RX11 TX11 12
theorem nmX11 : ∀ a, a < 12 → ∀ b, b < 12 → a ≠ b → (TX11 a).2.1 ≠ (TX11 b).2.1 := by decide +kernel
theorem tyX11_ok : ∀ k, k < 12 → parseFieldDescriptor (TX11 k).2.2.1 = some (tyX11 k) := by decide +kernel
def TX12 : u_T := fun k => match k with
  | 0 => ("SoftControllerModel", "tape", "[I", true)
  | 1 => ("SoftControllerModel", "taped", "I", false)
  | 2 => ("SoftControllerModel", "tSort", "[I", true)
  | 3 => ("SoftControllerModel", "tAt", "[I", true)
  | 4 => ("SoftControllerModel", "tNumber", "[J", true)
  | 5 => ("SoftControllerModel", "tWide", "[Z", true)
  | 6 => ("SoftControllerModel", "tA", "[J", true)
  | 7 => ("SoftControllerModel", "tB", "[J", true)
  | 8 => ("SoftControllerModel", "tokens", "I", false)
  | 9 => ("SoftControllerModel", "thrown", "I", false)
  | 10 => ("SoftControllerModel", "vKind", "[I", true)
  | 11 => ("SoftControllerModel", "vSize", "[I", true)
  | 12 => ("SoftControllerModel", "vSort", "[I", true)
  | 13 => ("SoftControllerModel", "vRow", "[Z", true)
  | 14 => ("SoftControllerModel", "vAt", "[I", true)
  | 15 => ("SoftControllerModel", "vCell", "[I", true)
  | 16 => ("SoftControllerModel", "vFirst", "[J", true)
  | 17 => ("SoftControllerModel", "vA", "[J", true)
  | 18 => ("SoftControllerModel", "vB", "[J", true)
  | 19 => ("SoftControllerModel", "vMany", "[I", true)
  | 20 => ("SoftControllerModel", "sKind", "[I", true)
  | 21 => ("SoftControllerModel", "sSize", "[I", true)
  | 22 => ("SoftControllerModel", "sRow", "[Z", true)
  | 23 => ("SoftControllerModel", "sOff", "[I", true)
  | 24 => ("SoftControllerModel", "sFirst", "[J", true)
  | 25 => ("SoftControllerModel", "sA", "[J", true)
  | 26 => ("SoftControllerModel", "sB", "[J", true)
  | 27 => ("SoftControllerModel", "sMany", "[I", true)
  | 28 => ("SoftControllerModel", "bFrom", "[I", true)
  | 29 => ("SoftControllerModel", "bSlots", "[I", true)
  | 30 => ("SoftControllerModel", "bPars", "[I", true)
  | 31 => ("SoftControllerModel", "bCells", "[I", true)
  | 32 => ("SoftControllerModel", "bCode", "[I", true)
  | 33 => ("SoftControllerModel", "bKind", "[I", true)
  | 34 => ("SoftControllerModel", "bA", "[J", true)
  | 35 => ("SoftControllerModel", "bB", "[J", true)
  | 36 => ("SoftControllerModel", "bMany", "[I", true)
  | 37 => ("SoftControllerModel", "fMany", "[I", true)
  | 38 => ("SoftControllerModel", "iBlock", "[I", true)
  | 39 => ("SoftControllerModel", "iCell", "[I", true)
  | 40 => ("SoftControllerModel", "iA", "[J", true)
  | 41 => ("SoftControllerModel", "iB", "[J", true)
  | 42 => ("SoftControllerModel", "iMany", "[I", true)
  | 43 => ("SoftControllerModel", "kEvery", "[I", true)
  | 44 => ("SoftControllerModel", "kAfter", "[I", true)
  | 45 => ("SoftControllerModel", "kCode", "[I", true)
  | 46 => ("SoftControllerModel", "kA", "[J", true)
  | 47 => ("SoftControllerModel", "kB", "[J", true)
  | 48 => ("SoftControllerModel", "kMany", "[I", true)
  | 49 => ("SoftControllerModel", "cOp", "[I", true)
  | 50 => ("SoftControllerModel", "cA", "[I", true)
  | 51 => ("SoftControllerModel", "cB", "[I", true)
  | 52 => ("SoftControllerModel", "cL", "[J", true)
  | 53 => ("SoftControllerModel", "cM", "[J", true)
  | 54 => ("SoftControllerModel", "cMany", "[I", true)
  | 55 => ("SoftControllerModel", "side", "I", false)
  | 56 => ("SoftControllerModel", "to", "I", false)
  | 57 => ("SoftControllerModel", "gA", "[J", true)
  | 58 => ("SoftControllerModel", "gB", "[J", true)
  | 59 => ("SoftControllerModel", "gSort", "[I", true)
  | 60 => ("SoftControllerModel", "gWhich", "[I", true)
  | 61 => ("SoftControllerModel", "gMany", "I", false)
  | 62 => ("SoftControllerModel", "told", "I", false)
  | 63 => ("SoftControllerModel", "cells", "I", false)
  | 64 => ("SoftControllerModel", "numbers", "[I", true)
  | 65 => ("SoftControllerModel", "k", "I", false)
  | 66 => ("SoftControllerModel", "open", "I", false)
  | 67 => ("SoftControllerModel", "fault", "I", false)
  | 68 => ("SoftControllerModel", "place", "I", false)
  | 69 => ("SoftControllerModel", "judges", "Z", false)
  | 70 => ("SoftControllerModel", "where", "I", false)
  | 71 => ("SoftControllerModel", "which", "I", false)
  | 72 => ("SoftControllerModel", "from", "I", false)
  | 73 => ("SoftControllerModel", "cellsHere", "I", false)
  | 74 => ("SoftControllerModel", "loops", "I", false)
  | 75 => ("SoftControllerModel", "loopEnd", "[I", true)
  | 76 => ("SoftControllerModel", "loopOn", "[I", true)
  | 77 => ("SoftControllerModel", "constant", "J", false)
  | 78 => ("SoftControllerModel", "plain", "I", false)
  | 79 => ("SoftControllerModel", "value", "J", false)
  | 80 => ("SoftControllerModel", "pKind", "I", false)
  | 81 => ("SoftControllerModel", "pBit", "I", false)
  | 82 => ("SoftControllerModel", "memory", "[J", true)
  | 83 => ("SoftControllerModel", "next", "[J", true)
  | 84 => ("SoftControllerModel", "field", "[I", true)
  | 85 => ("SoftControllerModel", "image", "[I", true)
  | 86 => ("SoftControllerModel", "mask", "[I", true)
  | 87 => ("SoftControllerModel", "forced", "[I", true)
  | 88 => ("SoftControllerModel", "stopped", "[Z", true)
  | 89 => ("SoftControllerModel", "ran", "[I", true)
  | 90 => ("SoftControllerModel", "spent", "[I", true)
  | 91 => ("SoftControllerModel", "fNumber", "[I", true)
  | 92 => ("SoftControllerModel", "fPlace", "[I", true)
  | 93 => ("SoftControllerModel", "fTick", "[I", true)
  | 94 => ("SoftControllerModel", "fTold", "[I", true)
  | 95 => ("SoftControllerModel", "wVariable", "[I", true)
  | 96 => ("SoftControllerModel", "wPlace", "[I", true)
  | 97 => ("SoftControllerModel", "wLast", "[J", true)
  | 98 => ("SoftControllerModel", "watched", "I", false)
  | 99 => ("SoftControllerModel", "eTick", "[I", true)
  | 100 => ("SoftControllerModel", "eVariable", "[I", true)
  | 101 => ("SoftControllerModel", "ePlace", "[I", true)
  | 102 => ("SoftControllerModel", "eNumber", "[J", true)
  | 103 => ("SoftControllerModel", "events", "I", false)
  | 104 => ("SoftControllerModel", "tick", "I", false)
  | 105 => ("SoftControllerModel", "dog", "I", false)
  | 106 => ("SoftControllerModel", "lastPlace", "I", false)
  | 107 => ("SoftControllerModel", "st", "[J", true)
  | 108 => ("SoftControllerModel", "rStep", "[I", true)
  | 109 => ("SoftControllerModel", "rFrame", "[I", true)
  | 110 => ("SoftControllerModel", "rSelf", "[I", true)
  | 111 => ("SoftControllerModel", "rTop", "[I", true)
  | 112 => ("SoftControllerModel", "sp", "I", false)
  | 113 => ("SoftControllerModel", "step", "I", false)
  | 114 => ("SoftControllerModel", "calls", "I", false)
  | 115 => ("SoftControllerModel", "frame", "I", false)
  | 116 => ("SoftControllerModel", "self", "I", false)
  | 117 => ("SoftControllerModel", "work", "I", false)
  | 118 => ("SoftControllerModel", "stop", "I", false)
  | 119 => ("SoftControllerModel", "stopAt", "I", false)
  | _ => ("SoftControllerModel", "stopTold", "J", false)
def tyX12 : Nat → FieldType := fun k => match k with
  | 0 => .array .int
  | 1 => .int
  | 2 => .array .int
  | 3 => .array .int
  | 4 => .array .long
  | 5 => .array .boolean
  | 6 => .array .long
  | 7 => .array .long
  | 8 => .int
  | 9 => .int
  | 10 => .array .int
  | 11 => .array .int
  | 12 => .array .int
  | 13 => .array .boolean
  | 14 => .array .int
  | 15 => .array .int
  | 16 => .array .long
  | 17 => .array .long
  | 18 => .array .long
  | 19 => .array .int
  | 20 => .array .int
  | 21 => .array .int
  | 22 => .array .boolean
  | 23 => .array .int
  | 24 => .array .long
  | 25 => .array .long
  | 26 => .array .long
  | 27 => .array .int
  | 28 => .array .int
  | 29 => .array .int
  | 30 => .array .int
  | 31 => .array .int
  | 32 => .array .int
  | 33 => .array .int
  | 34 => .array .long
  | 35 => .array .long
  | 36 => .array .int
  | 37 => .array .int
  | 38 => .array .int
  | 39 => .array .int
  | 40 => .array .long
  | 41 => .array .long
  | 42 => .array .int
  | 43 => .array .int
  | 44 => .array .int
  | 45 => .array .int
  | 46 => .array .long
  | 47 => .array .long
  | 48 => .array .int
  | 49 => .array .int
  | 50 => .array .int
  | 51 => .array .int
  | 52 => .array .long
  | 53 => .array .long
  | 54 => .array .int
  | 55 => .int
  | 56 => .int
  | 57 => .array .long
  | 58 => .array .long
  | 59 => .array .int
  | 60 => .array .int
  | 61 => .int
  | 62 => .int
  | 63 => .int
  | 64 => .array .int
  | 65 => .int
  | 66 => .int
  | 67 => .int
  | 68 => .int
  | 69 => .boolean
  | 70 => .int
  | 71 => .int
  | 72 => .int
  | 73 => .int
  | 74 => .int
  | 75 => .array .int
  | 76 => .array .int
  | 77 => .long
  | 78 => .int
  | 79 => .long
  | 80 => .int
  | 81 => .int
  | 82 => .array .long
  | 83 => .array .long
  | 84 => .array .int
  | 85 => .array .int
  | 86 => .array .int
  | 87 => .array .int
  | 88 => .array .boolean
  | 89 => .array .int
  | 90 => .array .int
  | 91 => .array .int
  | 92 => .array .int
  | 93 => .array .int
  | 94 => .array .int
  | 95 => .array .int
  | 96 => .array .int
  | 97 => .array .long
  | 98 => .int
  | 99 => .array .int
  | 100 => .array .int
  | 101 => .array .int
  | 102 => .array .long
  | 103 => .int
  | 104 => .int
  | 105 => .int
  | 106 => .int
  | 107 => .array .long
  | 108 => .array .int
  | 109 => .array .int
  | 110 => .array .int
  | 111 => .array .int
  | 112 => .int
  | 113 => .int
  | 114 => .int
  | 115 => .int
  | 116 => .int
  | 117 => .int
  | 118 => .int
  | 119 => .int
  | _ => .long
abbrev wsX120 : List Cond := u_ws RX12 TX12 121
theorem nmX12 : ∀ a, a < 121 → ∀ b, b < 121 → a ≠ b → (TX12 a).2.1 ≠ (TX12 b).2.1 := by decide +kernel
theorem tyX12_ok : ∀ k, k < 121 → parseFieldDescriptor (TX12 k).2.2.1 = some (tyX12 k) := by decide +kernel
abbrev vwCl : List vw_C := [(RX0, TX0, 2), (RX1, TX1, 1), (RX2, TX2, 18), (RX3, TX3, 8), (RX4, TX4, 15), (RX6, TX6, 16), (RX7, TX7, 10), (RX8, TX8, 9), (RX9, TX9, 11), (RX10, TX10, 10), (RX11, TX11, 12), (RX12, TX12, 121)]
abbrev cX11_end : ByteArray := prog_1_method_3_code
def yX11_end : MethodName := ⟨RX11, "end", "(I)Z"⟩
def wsX11_end : List Cond := .code yX11_end cX11_end 2 (some .boolean) :: ([.fieldLink RX11 77 "SoftController" "tapeBytes" "I"] ++ wsX110)
theorem dX11_end_0 : decode cX11_end 0 = .ok (.iload_n 1, 1) := by decide +kernel
theorem dX11_end_1 : decode cX11_end 1 = .ok (.ifCond .lt 11, 3) := by decide +kernel
theorem dX11_end_4 : decode cX11_end 4 = .ok (.iload_n 1, 1) := by decide +kernel
theorem dX11_end_5 : decode cX11_end 5 = .ok (.aload_n 0, 1) := by decide +kernel
theorem dX11_end_6 : decode cX11_end 6 = .ok (.getfield 77, 3) := by decide +kernel
theorem dX11_end_9 : decode cX11_end 9 = .ok (.if_icmp .le 5, 3) := by decide +kernel
theorem dX11_end_12 : decode cX11_end 12 = .ok (.iconst 0, 1) := by decide +kernel
theorem dX11_end_13 : decode cX11_end 13 = .ok (.ireturn, 1) := by decide +kernel
theorem dX11_end_14 : decode cX11_end 14 = .ok (.aload_n 0, 1) := by decide +kernel
theorem dX11_end_15 : decode cX11_end 15 = .ok (.iload_n 1, 1) := by decide +kernel
theorem dX11_end_16 : decode cX11_end 16 = .ok (.putfield 77, 3) := by decide +kernel
theorem dX11_end_19 : decode cX11_end 19 = .ok (.iconst 1, 1) := by decide +kernel
theorem dX11_end_20 : decode cX11_end 20 = .ok (.ireturn, 1) := by decide +kernel
abbrev cX12_end : ByteArray := prog_14_method_96_code
def yX12_end : MethodName := ⟨RX12, "end", "(I)Z"⟩
def wsX12_end : List Cond := .code yX12_end cX12_end 2 (some .boolean) :: ([.fieldLink RX12 1 "SoftControllerModel" "thrown" "I", .fieldLink RX12 7 "SoftControllerModel" "taped" "I"] ++ wsX120)
theorem dX12_end_0 : decode cX12_end 0 = .ok (.aload_n 0, 1) := by decide +kernel
theorem dX12_end_1 : decode cX12_end 1 = .ok (.iconst 0, 1) := by decide +kernel
theorem dX12_end_2 : decode cX12_end 2 = .ok (.putfield 1, 3) := by decide +kernel
theorem dX12_end_5 : decode cX12_end 5 = .ok (.iload_n 1, 1) := by decide +kernel
theorem dX12_end_6 : decode cX12_end 6 = .ok (.ifCond .lt 11, 3) := by decide +kernel
theorem dX12_end_9 : decode cX12_end 9 = .ok (.iload_n 1, 1) := by decide +kernel
theorem dX12_end_10 : decode cX12_end 10 = .ok (.aload_n 0, 1) := by decide +kernel
theorem dX12_end_11 : decode cX12_end 11 = .ok (.getfield 7, 3) := by decide +kernel
theorem dX12_end_14 : decode cX12_end 14 = .ok (.if_icmp .le 5, 3) := by decide +kernel
theorem dX12_end_17 : decode cX12_end 17 = .ok (.iconst 0, 1) := by decide +kernel
theorem dX12_end_18 : decode cX12_end 18 = .ok (.ireturn, 1) := by decide +kernel
theorem dX12_end_19 : decode cX12_end 19 = .ok (.aload_n 0, 1) := by decide +kernel
theorem dX12_end_20 : decode cX12_end 20 = .ok (.iload_n 1, 1) := by decide +kernel
theorem dX12_end_21 : decode cX12_end 21 = .ok (.putfield 7, 3) := by decide +kernel
theorem dX12_end_24 : decode cX12_end 24 = .ok (.iconst 1, 1) := by decide +kernel
theorem dX12_end_25 : decode cX12_end 25 = .ok (.ireturn, 1) := by decide +kernel
