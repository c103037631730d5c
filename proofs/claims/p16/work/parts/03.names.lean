def RX0 : String := "RootCompass$Cut"
def TX0 : u_T := fun k => match k with
  | 0 => ("RootCompass$Cut", "a", "I", false)
  | 1 => ("RootCompass$Cut", "b", "I", false)
  | 2 => ("RootCompass$Cut", "c", "I", false)
  | 3 => ("RootCompass$Cut", "x", "I", false)
  | 4 => ("RootCompass$Cut", "y", "I", false)
  | 5 => ("RootCompass$Cut", "e", "I", false)
  | _ => ("RootCompass$Cut", "m", "I", false)
def tyX0 : Nat → FieldType := fun k => match k with
  | 0 => .int
  | 1 => .int
  | 2 => .int
  | 3 => .int
  | 4 => .int
  | 5 => .int
  | _ => .int
abbrev wsX00 : List Cond := u_ws RX0 TX0 7
theorem nmX0 : ∀ a, a < 7 → ∀ b, b < 7 → a ≠ b → (TX0 a).2.1 ≠ (TX0 b).2.1 := by decide +kernel
theorem tyX0_ok : ∀ k, k < 7 → parseFieldDescriptor (TX0 k).2.2.1 = some (tyX0 k) := by decide +kernel
def RX1 : String := "RootCompass$Numbers"
def TX1 : u_T := fun k => match k with
  | 0 => ("RootCompass$Numbers", "over", "[I", true)
  | 1 => ("RootCompass$Numbers", "under", "[I", true)
  | 2 => ("RootCompass$Numbers", "work", "I", true)
  | 3 => ("RootCompass$Numbers", "next", "I", false)
  | 4 => ("RootCompass$Numbers", "depth", "I", false)
  | _ => ("RootCompass$Numbers", "failed", "Z", false)
def tyX1 : Nat → FieldType := fun k => match k with
  | 0 => .array .int
  | 1 => .array .int
  | 2 => .int
  | 3 => .int
  | 4 => .int
  | _ => .boolean
abbrev wsX10 : List Cond := u_ws RX1 TX1 6
theorem nmX1 : ∀ a, a < 6 → ∀ b, b < 6 → a ≠ b → (TX1 a).2.1 ≠ (TX1 b).2.1 := by decide +kernel
theorem tyX1_ok : ∀ k, k < 6 → parseFieldDescriptor (TX1 k).2.2.1 = some (tyX1 k) := by decide +kernel
def RX2 : String := "RootCompass"
def TX2 : u_T := fun k => match k with
  | 0 => ("RootCompass", "numbers", "LRootCompass$Numbers;", true)
  | 1 => ("RootCompass", "cut", "LRootCompass$Cut;", true)
  | 2 => ("RootCompass", "step", "[I", true)
  | 3 => ("RootCompass", "first", "[I", true)
  | 4 => ("RootCompass", "second", "[I", true)
  | 5 => ("RootCompass", "third", "[I", true)
  | 6 => ("RootCompass", "depthBefore", "[I", true)
  | _ => ("RootCompass", "count", "I", false)
def tyX2 : Nat → FieldType := fun k => match k with
  | 0 => .object "RootCompass$Numbers"
  | 1 => .object "RootCompass$Cut"
  | 2 => .array .int
  | 3 => .array .int
  | 4 => .array .int
  | 5 => .array .int
  | 6 => .array .int
  | _ => .int
abbrev wsX20 : List Cond := u_ws RX2 TX2 8
theorem nmX2 : ∀ a, a < 8 → ∀ b, b < 8 → a ≠ b → (TX2 a).2.1 ≠ (TX2 b).2.1 := by decide +kernel
theorem tyX2_ok : ∀ k, k < 8 → parseFieldDescriptor (TX2 k).2.2.1 = some (tyX2 k) := by decide +kernel
