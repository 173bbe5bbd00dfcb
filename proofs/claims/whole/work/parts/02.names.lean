-- class names and field tables, as the names file prints them (a starting text), and the list of the classes of the worlds
def RX0 : String := "PapersAreOnCats$Cat"
def TX0 : u_T := fun k => match k with
  | _ => ("", "", "", false)
def tyX0 : Nat → FieldType := fun k => match k with
  | _ => .int
theorem nmX0 : ∀ a, a < 0 → ∀ b, b < 0 → a ≠ b → (TX0 a).2.1 ≠ (TX0 b).2.1 := by decide +kernel
theorem tyX0_ok : ∀ k, k < 0 → parseFieldDescriptor (TX0 k).2.2.1 = some (tyX0 k) := by decide +kernel
def RX1 : String := "PapersAreOnCats$Frontier"
def TX1 : u_T := fun k => match k with
  | 0 => ("PapersAreOnCats$Frontier", "kinds", "[LPapersAreOnCats$Cat;", true)
  | 1 => ("PapersAreOnCats$Frontier", "kind", "[I", true)
  | 2 => ("PapersAreOnCats$Frontier", "figure", "[I", true)
  | 3 => ("PapersAreOnCats$Frontier", "at", "[I", true)
  | 4 => ("PapersAreOnCats$Frontier", "hair", "[I", true)
  | 5 => ("PapersAreOnCats$Frontier", "name", "[I", true)
  | 6 => ("PapersAreOnCats$Frontier", "side", "[I", true)
  | 7 => ("PapersAreOnCats$Frontier", "fish", "[I", true)
  | 8 => ("PapersAreOnCats$Frontier", "mice", "[I", true)
  | 9 => ("PapersAreOnCats$Frontier", "cats", "I", false)
  | 10 => ("PapersAreOnCats$Frontier", "men", "I", false)
  | 11 => ("PapersAreOnCats$Frontier", "hour", "I", false)
  | 12 => ("PapersAreOnCats$Frontier", "day", "I", false)
  | 13 => ("PapersAreOnCats$Frontier", "passed", "I", false)
  | _ => ("PapersAreOnCats$Frontier", "crossed", "I", false)
def tyX1 : Nat → FieldType := fun k => match k with
  | 0 => .array (.object "PapersAreOnCats$Cat")
  | 1 => .array .int
  | 2 => .array .int
  | 3 => .array .int
  | 4 => .array .int
  | 5 => .array .int
  | 6 => .array .int
  | 7 => .array .int
  | 8 => .array .int
  | 9 => .int
  | 10 => .int
  | 11 => .int
  | 12 => .int
  | 13 => .int
  | _ => .int
theorem nmX1 : ∀ a, a < 15 → ∀ b, b < 15 → a ≠ b → (TX1 a).2.1 ≠ (TX1 b).2.1 := by decide +kernel
theorem tyX1_ok : ∀ k, k < 15 → parseFieldDescriptor (TX1 k).2.2.1 = some (tyX1 k) := by decide +kernel
def RX2 : String := "PapersAreOnCats$Kitten"
def TX2 : u_T := fun k => match k with
  | _ => ("", "", "", false)
def tyX2 : Nat → FieldType := fun k => match k with
  | _ => .int
theorem nmX2 : ∀ a, a < 0 → ∀ b, b < 0 → a ≠ b → (TX2 a).2.1 ≠ (TX2 b).2.1 := by decide +kernel
theorem tyX2_ok : ∀ k, k < 0 → parseFieldDescriptor (TX2 k).2.2.1 = some (tyX2 k) := by decide +kernel
def RX3 : String := "PapersAreOnCats$Mouser"
def TX3 : u_T := fun k => match k with
  | _ => ("", "", "", false)
def tyX3 : Nat → FieldType := fun k => match k with
  | _ => .int
theorem nmX3 : ∀ a, a < 0 → ∀ b, b < 0 → a ≠ b → (TX3 a).2.1 ≠ (TX3 b).2.1 := by decide +kernel
theorem tyX3_ok : ∀ k, k < 0 → parseFieldDescriptor (TX3 k).2.2.1 = some (tyX3 k) := by decide +kernel
def RX4 : String := "PapersAreOnCats$Old"
def TX4 : u_T := fun k => match k with
  | _ => ("", "", "", false)
def tyX4 : Nat → FieldType := fun k => match k with
  | _ => .int
theorem nmX4 : ∀ a, a < 0 → ∀ b, b < 0 → a ≠ b → (TX4 a).2.1 ≠ (TX4 b).2.1 := by decide +kernel
theorem tyX4_ok : ∀ k, k < 0 → parseFieldDescriptor (TX4 k).2.2.1 = some (tyX4 k) := by decide +kernel
def RX5 : String := "PapersAreOnCats$Shelf"
def TX5 : u_T := fun k => match k with
  | 0 => ("PapersAreOnCats$Shelf", "holds", "I", false)
  | 1 => ("PapersAreOnCats$Shelf", "kind", "I", false)
  | 2 => ("PapersAreOnCats$Shelf", "figure", "I", false)
  | 3 => ("PapersAreOnCats$Shelf", "sort", "I", false)
  | 4 => ("PapersAreOnCats$Shelf", "size", "I", false)
  | _ => ("PapersAreOnCats$Shelf", "cells", "[I", true)
def tyX5 : Nat → FieldType := fun k => match k with
  | 0 => .int
  | 1 => .int
  | 2 => .int
  | 3 => .int
  | 4 => .int
  | _ => .array .int
theorem nmX5 : ∀ a, a < 6 → ∀ b, b < 6 → a ≠ b → (TX5 a).2.1 ≠ (TX5 b).2.1 := by decide +kernel
theorem tyX5_ok : ∀ k, k < 6 → parseFieldDescriptor (TX5 k).2.2.1 = some (tyX5 k) := by decide +kernel
def RX6 : String := "PapersAreOnCats$Shell"
def TX6 : u_T := fun k => match k with
  | _ => ("", "", "", false)
def tyX6 : Nat → FieldType := fun k => match k with
  | _ => .int
theorem nmX6 : ∀ a, a < 0 → ∀ b, b < 0 → a ≠ b → (TX6 a).2.1 ≠ (TX6 b).2.1 := by decide +kernel
theorem tyX6_ok : ∀ k, k < 0 → parseFieldDescriptor (TX6 k).2.2.1 = some (tyX6 k) := by decide +kernel
def RX7 : String := "PapersAreOnCats$Spy"
def TX7 : u_T := fun k => match k with
  | _ => ("", "", "", false)
def tyX7 : Nat → FieldType := fun k => match k with
  | _ => .int
theorem nmX7 : ∀ a, a < 0 → ∀ b, b < 0 → a ≠ b → (TX7 a).2.1 ≠ (TX7 b).2.1 := by decide +kernel
theorem tyX7_ok : ∀ k, k < 0 → parseFieldDescriptor (TX7 k).2.2.1 = some (tyX7 k) := by decide +kernel
def RX8 : String := "PapersAreOnCats$Text"
def TX8 : u_T := fun k => match k with
  | _ => ("", "", "", false)
def tyX8 : Nat → FieldType := fun k => match k with
  | _ => .int
theorem nmX8 : ∀ a, a < 0 → ∀ b, b < 0 → a ≠ b → (TX8 a).2.1 ≠ (TX8 b).2.1 := by decide +kernel
theorem tyX8_ok : ∀ k, k < 0 → parseFieldDescriptor (TX8 k).2.2.1 = some (tyX8 k) := by decide +kernel
def RX9 : String := "PapersAreOnCats$Tom"
def TX9 : u_T := fun k => match k with
  | _ => ("", "", "", false)
def tyX9 : Nat → FieldType := fun k => match k with
  | _ => .int
theorem nmX9 : ∀ a, a < 0 → ∀ b, b < 0 → a ≠ b → (TX9 a).2.1 ≠ (TX9 b).2.1 := by decide +kernel
theorem tyX9_ok : ∀ k, k < 0 → parseFieldDescriptor (TX9 k).2.2.1 = some (tyX9 k) := by decide +kernel
def RX10 : String := "PapersAreOnCats$White"
def TX10 : u_T := fun k => match k with
  | _ => ("", "", "", false)
def tyX10 : Nat → FieldType := fun k => match k with
  | _ => .int
theorem nmX10 : ∀ a, a < 0 → ∀ b, b < 0 → a ≠ b → (TX10 a).2.1 ≠ (TX10 b).2.1 := by decide +kernel
theorem tyX10_ok : ∀ k, k < 0 → parseFieldDescriptor (TX10 k).2.2.1 = some (tyX10 k) := by decide +kernel
def RX11 : String := "PapersAreOnCats"
def TX11 : u_T := fun k => match k with
  | 0 => ("PapersAreOnCats", "kinds", "[LPapersAreOnCats$Cat;", true)
  | 1 => ("PapersAreOnCats", "now", "LPapersAreOnCats$Frontier;", true)
  | 2 => ("PapersAreOnCats", "mind", "LPapersAreOnCats$Frontier;", true)
  | 3 => ("PapersAreOnCats", "image", "LPapersAreOnCats$Frontier;", true)
  | 4 => ("PapersAreOnCats", "imageTaken", "Z", false)
  | 5 => ("PapersAreOnCats", "shelves", "[LPapersAreOnCats$Shelf;", true)
  | _ => ("PapersAreOnCats", "visits", "[I", true)
def tyX11 : Nat → FieldType := fun k => match k with
  | 0 => .array (.object "PapersAreOnCats$Cat")
  | 1 => .object "PapersAreOnCats$Frontier"
  | 2 => .object "PapersAreOnCats$Frontier"
  | 3 => .object "PapersAreOnCats$Frontier"
  | 4 => .boolean
  | 5 => .array (.object "PapersAreOnCats$Shelf")
  | _ => .array .int
theorem nmX11 : ∀ a, a < 7 → ∀ b, b < 7 → a ≠ b → (TX11 a).2.1 ≠ (TX11 b).2.1 := by decide +kernel
theorem tyX11_ok : ∀ k, k < 7 → parseFieldDescriptor (TX11 k).2.2.1 = some (tyX11 k) := by decide +kernel
def RX12 : String := "PapersAreOnCatsModel"
def TX12 : u_T := fun k => match k with
  | 0 => ("PapersAreOnCatsModel", "s", "[I", true)
  | 1 => ("PapersAreOnCatsModel", "m", "[I", true)
  | 2 => ("PapersAreOnCatsModel", "image", "[I", true)
  | 3 => ("PapersAreOnCatsModel", "was", "[I", true)
  | 4 => ("PapersAreOnCatsModel", "hasImage", "Z", false)
  | 5 => ("PapersAreOnCatsModel", "place", "I", false)
  | 6 => ("PapersAreOnCatsModel", "rowAt", "I", false)
  | 7 => ("PapersAreOnCatsModel", "rowEnd", "I", false)
  | 8 => ("PapersAreOnCatsModel", "numbers", "[I", true)
  | 9 => ("PapersAreOnCatsModel", "often", "[I", true)
  | 10 => ("PapersAreOnCatsModel", "seed", "I", false)
  | 11 => ("PapersAreOnCatsModel", "kept", "[I", true)
  | 12 => ("PapersAreOnCatsModel", "keptKind", "[I", true)
  | 13 => ("PapersAreOnCatsModel", "keptFigure", "[I", true)
  | 14 => ("PapersAreOnCatsModel", "sort", "[I", true)
  | 15 => ("PapersAreOnCatsModel", "size", "[I", true)
  | 16 => ("PapersAreOnCatsModel", "element", "[I", true)
  | _ => ("PapersAreOnCatsModel", "thrown", "I", false)
def tyX12 : Nat → FieldType := fun k => match k with
  | 0 => .array .int
  | 1 => .array .int
  | 2 => .array .int
  | 3 => .array .int
  | 4 => .boolean
  | 5 => .int
  | 6 => .int
  | 7 => .int
  | 8 => .array .int
  | 9 => .array .int
  | 10 => .int
  | 11 => .array .int
  | 12 => .array .int
  | 13 => .array .int
  | 14 => .array .int
  | 15 => .array .int
  | 16 => .array .int
  | _ => .int
theorem nmX12 : ∀ a, a < 18 → ∀ b, b < 18 → a ≠ b → (TX12 a).2.1 ≠ (TX12 b).2.1 := by decide +kernel
theorem tyX12_ok : ∀ k, k < 18 → parseFieldDescriptor (TX12 k).2.2.1 = some (tyX12 k) := by decide +kernel
def RL : String := "PapersAreOnCatsLaw"
abbrev jm_cl0 : List vw_C := [(RX0, TX0, 0), (RX1, TX1, 15), (RX2, TX2, 0), (RX3, TX3, 0), (RX4, TX4, 0), (RX5, TX5, 6), (RX6, TX6, 0), (RX7, TX7, 0), (RX9, TX9, 0), (RX10, TX10, 0), (RX11, TX11, 7), (RX12, TX12, 18)]
