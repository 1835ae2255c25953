section VN
def RX0 : String := "SharedPalimpsest$Chronicle"
def TX0 : u_T := fun k => match k with
  | 0 => ("SharedPalimpsest$Chronicle", "all", "[LSharedPalimpsest$Deed;", true)
  | 1 => ("SharedPalimpsest$Chronicle", "noDeed", "LSharedPalimpsest$Deed;", true)
  | 2 => ("SharedPalimpsest$Chronicle", "count", "I", false)
  | 3 => ("SharedPalimpsest$Chronicle", "letterOfCell", "LSharedPalimpsest$Row;", true)
  | 4 => ("SharedPalimpsest$Chronicle", "typeOfCell", "LSharedPalimpsest$Row;", true)
  | _ => ("SharedPalimpsest$Chronicle", "cellOrder", "LSharedPalimpsest$Row;", true)
def tyX0 : Nat → FieldType := fun k => match k with
  | 0 => .array (.object "SharedPalimpsest$Deed")
  | 1 => .object "SharedPalimpsest$Deed"
  | 2 => .int
  | 3 => .object "SharedPalimpsest$Row"
  | 4 => .object "SharedPalimpsest$Row"
  | _ => .object "SharedPalimpsest$Row"
theorem nmX0 : ∀ a, a < 6 → ∀ b, b < 6 → a ≠ b → (TX0 a).2.1 ≠ (TX0 b).2.1 := by decide +kernel
theorem tyX0_ok : ∀ k, k < 6 → parseFieldDescriptor (TX0 k).2.2.1 = some (tyX0 k) := by decide +kernel
def RX1 : String := "SharedPalimpsest$Copy"
def TX1 : u_T := fun k => match k with
  | 0 => ("SharedPalimpsest$Copy", "isThere", "Z", false)
  | 1 => ("SharedPalimpsest$Copy", "caretCell", "I", false)
  | 2 => ("SharedPalimpsest$Copy", "order", "LSharedPalimpsest$Row;", true)
  | 3 => ("SharedPalimpsest$Copy", "heard", "LSharedPalimpsest$Row;", true)
  | 4 => ("SharedPalimpsest$Copy", "waitingDeeds", "LSharedPalimpsest$Row;", true)
  | 5 => ("SharedPalimpsest$Copy", "done", "LSharedPalimpsest$Row;", true)
  | _ => ("SharedPalimpsest$Copy", "undone", "LSharedPalimpsest$Row;", true)
def tyX1 : Nat → FieldType := fun k => match k with
  | 0 => .boolean
  | 1 => .int
  | 2 => .object "SharedPalimpsest$Row"
  | 3 => .object "SharedPalimpsest$Row"
  | 4 => .object "SharedPalimpsest$Row"
  | 5 => .object "SharedPalimpsest$Row"
  | _ => .object "SharedPalimpsest$Row"
theorem nmX1 : ∀ a, a < 7 → ∀ b, b < 7 → a ≠ b → (TX1 a).2.1 ≠ (TX1 b).2.1 := by decide +kernel
theorem tyX1_ok : ∀ k, k < 7 → parseFieldDescriptor (TX1 k).2.2.1 = some (tyX1 k) := by decide +kernel
def RX2 : String := "SharedPalimpsest$Deed"
def TX2 : u_T := fun k => match k with
  | 0 => ("SharedPalimpsest$Deed", "place", "I", true)
  | 1 => ("SharedPalimpsest$Deed", "what", "LSharedPalimpsest$What;", false)
  | 2 => ("SharedPalimpsest$Deed", "author", "I", false)
  | 3 => ("SharedPalimpsest$Deed", "number", "I", false)
  | 4 => ("SharedPalimpsest$Deed", "stamp", "I", false)
  | 5 => ("SharedPalimpsest$Deed", "caretCell", "I", false)
  | 6 => ("SharedPalimpsest$Deed", "target", "I", false)
  | 7 => ("SharedPalimpsest$Deed", "kind", "I", false)
  | 8 => ("SharedPalimpsest$Deed", "isOn", "Z", false)
  | 9 => ("SharedPalimpsest$Deed", "covered", "LSharedPalimpsest$Row;", true)
  | _ => ("SharedPalimpsest$Deed", "ahead", "LSharedPalimpsest$Row;", true)
def tyX2 : Nat → FieldType := fun k => match k with
  | 0 => .int
  | 1 => .object "SharedPalimpsest$What"
  | 2 => .int
  | 3 => .int
  | 4 => .int
  | 5 => .int
  | 6 => .int
  | 7 => .int
  | 8 => .boolean
  | 9 => .object "SharedPalimpsest$Row"
  | _ => .object "SharedPalimpsest$Row"
theorem nmX2 : ∀ a, a < 11 → ∀ b, b < 11 → a ≠ b → (TX2 a).2.1 ≠ (TX2 b).2.1 := by decide +kernel
theorem tyX2_ok : ∀ k, k < 11 → parseFieldDescriptor (TX2 k).2.2.1 = some (tyX2 k) := by decide +kernel
def RX3 : String := "SharedPalimpsest$Row"
def TX3 : u_T := fun k => match k with
  | 0 => ("SharedPalimpsest$Row", "held", "[I", true)
  | _ => ("SharedPalimpsest$Row", "size", "I", false)
def tyX3 : Nat → FieldType := fun k => match k with
  | 0 => .array .int
  | _ => .int
theorem nmX3 : ∀ a, a < 2 → ∀ b, b < 2 → a ≠ b → (TX3 a).2.1 ≠ (TX3 b).2.1 := by decide +kernel
theorem tyX3_ok : ∀ k, k < 2 → parseFieldDescriptor (TX3 k).2.2.1 = some (tyX3 k) := by decide +kernel
def RX4 : String := "SharedPalimpsest$View"
def TX4 : u_T := fun k => match k with
  | 0 => ("SharedPalimpsest$View", "cells", "LSharedPalimpsest$Row;", true)
  | 1 => ("SharedPalimpsest$View", "text", "LSharedPalimpsest$Row;", true)
  | 2 => ("SharedPalimpsest$View", "isKnown", "LSharedPalimpsest$Row;", true)
  | 3 => ("SharedPalimpsest$View", "isInEffect", "LSharedPalimpsest$Row;", true)
  | 4 => ("SharedPalimpsest$View", "isErased", "LSharedPalimpsest$Row;", true)
  | 5 => ("SharedPalimpsest$View", "isShown", "LSharedPalimpsest$Row;", true)
  | _ => ("SharedPalimpsest$View", "decidingMark", "LSharedPalimpsest$Row;", true)
def tyX4 : Nat → FieldType := fun k => match k with
  | 0 => .object "SharedPalimpsest$Row"
  | 1 => .object "SharedPalimpsest$Row"
  | 2 => .object "SharedPalimpsest$Row"
  | 3 => .object "SharedPalimpsest$Row"
  | 4 => .object "SharedPalimpsest$Row"
  | 5 => .object "SharedPalimpsest$Row"
  | _ => .object "SharedPalimpsest$Row"
theorem nmX4 : ∀ a, a < 7 → ∀ b, b < 7 → a ≠ b → (TX4 a).2.1 ≠ (TX4 b).2.1 := by decide +kernel
theorem tyX4_ok : ∀ k, k < 7 → parseFieldDescriptor (TX4 k).2.2.1 = some (tyX4 k) := by decide +kernel
def RX5 : String := "SharedPalimpsest$What"
def RX6 : String := "SharedPalimpsest"
def TX6 : u_T := fun k => match k with
  | 0 => ("SharedPalimpsest", "chronicle", "LSharedPalimpsest$Chronicle;", true)
  | 1 => ("SharedPalimpsest", "copies", "[LSharedPalimpsest$Copy;", true)
  | 2 => ("SharedPalimpsest", "channels", "[LSharedPalimpsest$Row;", true)
  | 3 => ("SharedPalimpsest", "noChannel", "LSharedPalimpsest$Row;", true)
  | 4 => ("SharedPalimpsest", "cuts", "LSharedPalimpsest$Row;", true)
  | 5 => ("SharedPalimpsest", "trial", "LSharedPalimpsest$Copy;", true)
  | 6 => ("SharedPalimpsest", "union", "LSharedPalimpsest$Row;", true)
  | 7 => ("SharedPalimpsest", "firstView", "LSharedPalimpsest$View;", true)
  | 8 => ("SharedPalimpsest", "secondView", "LSharedPalimpsest$View;", true)
  | 9 => ("SharedPalimpsest", "steps", "LSharedPalimpsest$Row;", true)
  | _ => ("SharedPalimpsest", "came", "I", false)
def tyX6 : Nat → FieldType := fun k => match k with
  | 0 => .object "SharedPalimpsest$Chronicle"
  | 1 => .array (.object "SharedPalimpsest$Copy")
  | 2 => .array (.object "SharedPalimpsest$Row")
  | 3 => .object "SharedPalimpsest$Row"
  | 4 => .object "SharedPalimpsest$Row"
  | 5 => .object "SharedPalimpsest$Copy"
  | 6 => .object "SharedPalimpsest$Row"
  | 7 => .object "SharedPalimpsest$View"
  | 8 => .object "SharedPalimpsest$View"
  | 9 => .object "SharedPalimpsest$Row"
  | _ => .int
theorem nmX6 : ∀ a, a < 11 → ∀ b, b < 11 → a ≠ b → (TX6 a).2.1 ≠ (TX6 b).2.1 := by decide +kernel
theorem tyX6_ok : ∀ k, k < 11 → parseFieldDescriptor (TX6 k).2.2.1 = some (tyX6 k) := by decide +kernel
def RX7 : String := "SharedPalimpsestModel"
def TX7 : u_T := fun k => match k with
  | 0 => ("SharedPalimpsestModel", "author", "[I", true)
  | 1 => ("SharedPalimpsestModel", "number", "[I", true)
  | 2 => ("SharedPalimpsestModel", "stamp", "[I", true)
  | 3 => ("SharedPalimpsestModel", "kind", "[I", true)
  | 4 => ("SharedPalimpsestModel", "about", "[I", true)
  | 5 => ("SharedPalimpsestModel", "first", "[I", true)
  | 6 => ("SharedPalimpsestModel", "many", "[I", true)
  | 7 => ("SharedPalimpsestModel", "caretOf", "[I", true)
  | 8 => ("SharedPalimpsestModel", "isOn", "[Z", true)
  | 9 => ("SharedPalimpsestModel", "covers", "[I", true)
  | 10 => ("SharedPalimpsestModel", "before", "[I", true)
  | 11 => ("SharedPalimpsestModel", "deeds", "I", false)
  | 12 => ("SharedPalimpsestModel", "letter", "[I", true)
  | 13 => ("SharedPalimpsestModel", "typeOf", "[I", true)
  | 14 => ("SharedPalimpsestModel", "hangsOn", "[I", true)
  | 15 => ("SharedPalimpsestModel", "cells", "I", false)
  | 16 => ("SharedPalimpsestModel", "isPresent", "[Z", true)
  | 17 => ("SharedPalimpsestModel", "knows", "[I", true)
  | 18 => ("SharedPalimpsestModel", "known", "[I", true)
  | 19 => ("SharedPalimpsestModel", "knownOf", "[I", true)
  | 20 => ("SharedPalimpsestModel", "waits", "[I", true)
  | 21 => ("SharedPalimpsestModel", "waiting", "[I", true)
  | 22 => ("SharedPalimpsestModel", "done", "[I", true)
  | 23 => ("SharedPalimpsestModel", "dones", "[I", true)
  | 24 => ("SharedPalimpsestModel", "undone", "[I", true)
  | 25 => ("SharedPalimpsestModel", "undones", "[I", true)
  | 26 => ("SharedPalimpsestModel", "caret", "[I", true)
  | 27 => ("SharedPalimpsestModel", "isCut", "[Z", true)
  | 28 => ("SharedPalimpsestModel", "channel", "[I", true)
  | 29 => ("SharedPalimpsestModel", "inChannel", "[I", true)
  | 30 => ("SharedPalimpsestModel", "writers", "I", false)
  | 31 => ("SharedPalimpsestModel", "thrown", "I", false)
  | 32 => ("SharedPalimpsestModel", "knowsNow", "[Z", true)
  | 33 => ("SharedPalimpsestModel", "isInEffect", "[Z", true)
  | 34 => ("SharedPalimpsestModel", "isVisible", "[Z", true)
  | 35 => ("SharedPalimpsestModel", "order", "[I", true)
  | 36 => ("SharedPalimpsestModel", "text", "[I", true)
  | 37 => ("SharedPalimpsestModel", "ordered", "I", false)
  | 38 => ("SharedPalimpsestModel", "length", "I", false)
  | _ => ("SharedPalimpsestModel", "d", "J", false)
def tyX7 : Nat → FieldType := fun k => match k with
  | 0 => .array .int
  | 1 => .array .int
  | 2 => .array .int
  | 3 => .array .int
  | 4 => .array .int
  | 5 => .array .int
  | 6 => .array .int
  | 7 => .array .int
  | 8 => .array .boolean
  | 9 => .array .int
  | 10 => .array .int
  | 11 => .int
  | 12 => .array .int
  | 13 => .array .int
  | 14 => .array .int
  | 15 => .int
  | 16 => .array .boolean
  | 17 => .array .int
  | 18 => .array .int
  | 19 => .array .int
  | 20 => .array .int
  | 21 => .array .int
  | 22 => .array .int
  | 23 => .array .int
  | 24 => .array .int
  | 25 => .array .int
  | 26 => .array .int
  | 27 => .array .boolean
  | 28 => .array .int
  | 29 => .array .int
  | 30 => .int
  | 31 => .int
  | 32 => .array .boolean
  | 33 => .array .boolean
  | 34 => .array .boolean
  | 35 => .array .int
  | 36 => .array .int
  | 37 => .int
  | 38 => .int
  | _ => .long
theorem nmX7 : ∀ a, a < 40 → ∀ b, b < 40 → a ≠ b → (TX7 a).2.1 ≠ (TX7 b).2.1 := by decide +kernel
theorem tyX7_ok : ∀ k, k < 40 → parseFieldDescriptor (TX7 k).2.2.1 = some (tyX7 k) := by decide +kernel
abbrev vwCl : List vw_C := [(RX0, TX0, 6), (RX1, TX1, 7), (RX2, TX2, 11), (RX3, TX3, 2), (RX4, TX4, 7), (RX6, TX6, 11), (RX7, TX7, 40)]
def R_law : String := "SharedPalimpsestLaw"
end VN
