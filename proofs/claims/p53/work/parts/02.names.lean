section VN
def RX0 : String := "SharedPalimpsest$Chronicle"
def TX0 : u_T := fun k => match k with
  | 0 => ("SharedPalimpsest$Chronicle", "all", "[LSharedPalimpsest$Deed;", true)
  | 1 => ("SharedPalimpsest$Chronicle", "noDeed", "LSharedPalimpsest$Deed;", true)
  | 2 => ("SharedPalimpsest$Chronicle", "count", "I", false)
  | 3 => ("SharedPalimpsest$Chronicle", "letterOfCell", "LSharedPalimpsest$Row;", true)
  | 4 => ("SharedPalimpsest$Chronicle", "typeOfCell", "LSharedPalimpsest$Row;", true)
  | _ => ("SharedPalimpsest$Chronicle", "cellOrder", "LSharedPalimpsest$Row;", true)
def tyX0 : Nat → FieldType := fun k => match k with
  | 0 => .array (.object "SharedPalimpsest$Deed")
  | 1 => .object "SharedPalimpsest$Deed"
  | 2 => .int
  | 3 => .object "SharedPalimpsest$Row"
  | 4 => .object "SharedPalimpsest$Row"
  | _ => .object "SharedPalimpsest$Row"
theorem nmX0 : ∀ a, a < 6 → ∀ b, b < 6 → a ≠ b → (TX0 a).2.1 ≠ (TX0 b).2.1 := by decide +kernel
theorem tyX0_ok : ∀ k, k < 6 → parseFieldDescriptor (TX0 k).2.2.1 = some (tyX0 k) := by decide +kernel
def RX1 : String := "SharedPalimpsest$Copy"
def TX1 : u_T := fun k => match k with
  | 0 => ("SharedPalimpsest$Copy", "isThere", "Z", false)
  | 1 => ("SharedPalimpsest$Copy", "caretCell", "I", false)
  | 2 => ("SharedPalimpsest$Copy", "order", "LSharedPalimpsest$Row;", true)
  | 3 => ("SharedPalimpsest$Copy", "heard", "LSharedPalimpsest$Row;", true)
  | 4 => ("SharedPalimpsest$Copy", "waitingDeeds", "LSharedPalimpsest$Row;", true)
  | 5 => ("SharedPalimpsest$Copy", "done", "LSharedPalimpsest$Row;", true)
  | _ => ("SharedPalimpsest$Copy", "undone", "LSharedPalimpsest$Row;", true)
def tyX1 : Nat → FieldType := fun k => match k with
  | 0 => .boolean
  | 1 => .int
  | 2 => .object "SharedPalimpsest$Row"
  | 3 => .object "SharedPalimpsest$Row"
  | 4 => .object "SharedPalimpsest$Row"
  | 5 => .object "SharedPalimpsest$Row"
  | _ => .object "SharedPalimpsest$Row"
theorem nmX1 : ∀ a, a < 7 → ∀ b, b < 7 → a ≠ b → (TX1 a).2.1 ≠ (TX1 b).2.1 := by decide +kernel
theorem tyX1_ok : ∀ k, k < 7 → parseFieldDescriptor (TX1 k).2.2.1 = some (tyX1 k) := by decide +kernel
def RX2 : String := "SharedPalimpsest$Deed"
def TX2 : u_T := fun k => match k with
  | 0 => ("SharedPalimpsest$Deed", "place", "I", true)
  | 1 => ("SharedPalimpsest$Deed", "what", "LSharedPalimpsest$What;", false)
  | 2 => ("SharedPalimpsest$Deed", "author", "I", false)
  | 3 => ("SharedPalimpsest$Deed", "number", "I", false)
  | 4 => ("SharedPalimpsest$Deed", "stamp", "I", false)
  | 5 => ("SharedPalimpsest$Deed", "caretCell", "I", false)
  | 6 => ("SharedPalimpsest$Deed", "target", "I", false)
  | 7 => ("SharedPalimpsest$Deed", "kind", "I", false)
  | 8 => ("SharedPalimpsest$Deed", "isOn", "Z", false)
  | 9 => ("SharedPalimpsest$Deed", "covered", "LSharedPalimpsest$Row;", true)
  | _ => ("SharedPalimpsest$Deed", "ahead", "LSharedPalimpsest$Row;", true)
def tyX2 : Nat → FieldType := fun k => match k with
  | 0 => .int
  | 1 => .object "SharedPalimpsest$What"
  | 2 => .int
  | 3 => .int
  | 4 => .int
  | 5 => .int
  | 6 => .int
  | 7 => .int
  | 8 => .boolean
  | 9 => .object "SharedPalimpsest$Row"
  | _ => .object "SharedPalimpsest$Row"
theorem nmX2 : ∀ a, a < 11 → ∀ b, b < 11 → a ≠ b → (TX2 a).2.1 ≠ (TX2 b).2.1 := by decide +kernel
theorem tyX2_ok : ∀ k, k < 11 → parseFieldDescriptor (TX2 k).2.2.1 = some (tyX2 k) := by decide +kernel
def RX3 : String := "SharedPalimpsest$Row"
def TX3 : u_T := fun k => match k with
  | 0 => ("SharedPalimpsest$Row", "held", "[I", true)
  | _ => ("SharedPalimpsest$Row", "size", "I", false)
def tyX3 : Nat → FieldType := fun k => match k with
  | 0 => .array .int
  | _ => .int
theorem nmX3 : ∀ a, a < 2 → ∀ b, b < 2 → a ≠ b → (TX3 a).2.1 ≠ (TX3 b).2.1 := by decide +kernel
theorem tyX3_ok : ∀ k, k < 2 → parseFieldDescriptor (TX3 k).2.2.1 = some (tyX3 k) := by decide +kernel
def RX4 : String := "SharedPalimpsest$View"
def TX4 : u_T := fun k => match k with
  | 0 => ("SharedPalimpsest$View", "cells", "LSharedPalimpsest$Row;", true)
  | 1 => ("SharedPalimpsest$View", "text", "LSharedPalimpsest$Row;", true)
  | 2 => ("SharedPalimpsest$View", "isKnown", "LSharedPalimpsest$Row;", true)
  | 3 => ("SharedPalimpsest$View", "isInEffect", "LSharedPalimpsest$Row;", true)
  | 4 => ("SharedPalimpsest$View", "isErased", "LSharedPalimpsest$Row;", true)
  | 5 => ("SharedPalimpsest$View", "isShown", "LSharedPalimpsest$Row;", true)
  | _ => ("SharedPalimpsest$View", "decidingMark", "LSharedPalimpsest$Row;", true)
def tyX4 : Nat → FieldType := fun k => match k with
  | 0 => .object "SharedPalimpsest$Row"
  | 1 => .object "SharedPalimpsest$Row"
  | 2 => .object "SharedPalimpsest$Row"
  | 3 => .object "SharedPalimpsest$Row"
  | 4 => .object "SharedPalimpsest$Row"
  | 5 => .object "SharedPalimpsest$Row"
  | _ => .object "SharedPalimpsest$Row"
theorem nmX4 : ∀ a, a < 7 → ∀ b, b < 7 → a ≠ b → (TX4 a).2.1 ≠ (TX4 b).2.1 := by decide +kernel
theorem tyX4_ok : ∀ k, k < 7 → parseFieldDescriptor (TX4 k).2.2.1 = some (tyX4 k) := by decide +kernel
def RX5 : String := "SharedPalimpsest$What"
def RX6 : String := "SharedPalimpsest"
def TX6 : u_T := fun k => match k with
  | 0 => ("SharedPalimpsest", "chronicle", "LSharedPalimpsest$Chronicle;", true)
  | 1 => ("SharedPalimpsest", "copies", "[LSharedPalimpsest$Copy;", true)
  | 2 => ("SharedPalimpsest", "channels", "[LSharedPalimpsest$Row;", true)
  | 3 => ("SharedPalimpsest", "noChannel", "LSharedPalimpsest$Row;", true)
  | 4 => ("SharedPalimpsest", "cuts", "LSharedPalimpsest$Row;", true)
  | 5 => ("SharedPalimpsest", "trial", "LSharedPalimpsest$Copy;", true)
  | 6 => ("SharedPalimpsest", "union", "LSharedPalimpsest$Row;", true)
  | 7 => ("SharedPalimpsest", "firstView", "LSharedPalimpsest$View;", true)
  | 8 => ("SharedPalimpsest", "secondView", "LSharedPalimpsest$View;", true)
  | 9 => ("SharedPalimpsest", "steps", "LSharedPalimpsest$Row;", true)
  | _ => ("SharedPalimpsest", "came", "I", false)
def tyX6 : Nat → FieldType := fun k => match k with
  | 0 => .object "SharedPalimpsest$Chronicle"
  | 1 => .array (.object "SharedPalimpsest$Copy")
  | 2 => .array (.object "SharedPalimpsest$Row")
  | 3 => .object "SharedPalimpsest$Row"
  | 4 => .object "SharedPalimpsest$Row"
  | 5 => .object "SharedPalimpsest$Copy"
  | 6 => .object "SharedPalimpsest$Row"
  | 7 => .object "SharedPalimpsest$View"
  | 8 => .object "SharedPalimpsest$View"
  | 9 => .object "SharedPalimpsest$Row"
  | _ => .int
theorem nmX6 : ∀ a, a < 11 → ∀ b, b < 11 → a ≠ b → (TX6 a).2.1 ≠ (TX6 b).2.1 := by decide +kernel
theorem tyX6_ok : ∀ k, k < 11 → parseFieldDescriptor (TX6 k).2.2.1 = some (tyX6 k) := by decide +kernel
abbrev vwCl : List vw_C := [(RX0, TX0, 6), (RX1, TX1, 7), (RX2, TX2, 11), (RX3, TX3, 2), (RX4, TX4, 7), (RX6, TX6, 11)]
def R_law : String := "SharedPalimpsestLaw"
end VN
