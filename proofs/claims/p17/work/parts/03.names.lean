/-! names of the classes, printed by program out of NAMES -/
def RX0 : String := "SandHouse$Grains"
def TX0 : u_T := fun k => match k with
  | 0 => ("SandHouse$Grains", "part", "[I", true)
  | 1 => ("SandHouse$Grains", "place", "[I", true)
  | 2 => ("SandHouse$Grains", "keeps", "[I", true)
  | 3 => ("SandHouse$Grains", "wet", "[I", true)
  | 4 => ("SandHouse$Grains", "lying", "[I", true)
  | 5 => ("SandHouse$Grains", "carried", "[I", true)
  | 6 => ("SandHouse$Grains", "gone", "I", false)
  | 7 => ("SandHouse$Grains", "told", "I", false)
  | 8 => ("SandHouse$Grains", "drained", "I", false)
  | 9 => ("SandHouse$Grains", "clog", "I", false)
  | 10 => ("SandHouse$Grains", "round", "I", false)
  | 11 => ("SandHouse$Grains", "spent", "I", false)
  | _ => ("SandHouse$Grains", "seed", "I", false)
def tyX0 : Nat → FieldType := fun k => match k with
  | 0 => .array .int
  | 1 => .array .int
  | 2 => .array .int
  | 3 => .array .int
  | 4 => .array .int
  | 5 => .array .int
  | 6 => .int
  | 7 => .int
  | 8 => .int
  | 9 => .int
  | 10 => .int
  | 11 => .int
  | _ => .int
theorem nmX0 : ∀ a, a < 13 → ∀ b, b < 13 → a ≠ b → (TX0 a).2.1 ≠ (TX0 b).2.1 := by decide +kernel
theorem tyX0_ok : ∀ k, k < 13 → parseFieldDescriptor (TX0 k).2.2.1 = some (tyX0 k) := by decide +kernel
theorem inX0 : ∀ w ∈ u_ws RX0 TX0 13, w ∈ lw_tbl := by decide +kernel
def RX1 : String := "SandHouse$Heels"
def TX1 : u_T := fun k => match k with
  | 0 => ("SandHouse$Heels", "cells", "[I", true)
  | 1 => ("SandHouse$Heels", "size", "I", false)
  | _ => ("SandHouse$Heels", "next", "I", false)
def tyX1 : Nat → FieldType := fun k => match k with
  | 0 => .array .int
  | 1 => .int
  | _ => .int
theorem nmX1 : ∀ a, a < 3 → ∀ b, b < 3 → a ≠ b → (TX1 a).2.1 ≠ (TX1 b).2.1 := by decide +kernel
theorem tyX1_ok : ∀ k, k < 3 → parseFieldDescriptor (TX1 k).2.2.1 = some (tyX1 k) := by decide +kernel
theorem inX1 : ∀ w ∈ u_ws RX1 TX1 3, w ∈ lw_tbl := by decide +kernel
def RX2 : String := "SandHouse$Home"
def TX2 : u_T := fun k => match k with
  | 0 => ("SandHouse$Home", "plan", "LSandHouse$Plan;", true)
  | 1 => ("SandHouse$Home", "law", "LSandHouse$Law;", true)
  | _ => ("SandHouse$Home", "facts", "[I", true)
def tyX2 : Nat → FieldType := fun k => match k with
  | 0 => .object "SandHouse$Plan"
  | 1 => .object "SandHouse$Law"
  | _ => .array .int
theorem nmX2 : ∀ a, a < 3 → ∀ b, b < 3 → a ≠ b → (TX2 a).2.1 ≠ (TX2 b).2.1 := by decide +kernel
theorem tyX2_ok : ∀ k, k < 3 → parseFieldDescriptor (TX2 k).2.2.1 = some (tyX2 k) := by decide +kernel
theorem inX2 : ∀ w ∈ u_ws RX2 TX2 3, w ∈ lw_tbl := by decide +kernel
def RX3 : String := "SandHouse$HouseReader"
def TX3 : u_T := fun k => match k with
  | 0 => ("SandHouse$HouseReader", "plan", "LSandHouse$Plan;", true)
  | 1 => ("SandHouse$HouseReader", "grains", "LSandHouse$Grains;", true)
  | 2 => ("SandHouse$HouseReader", "wrong", "I", false)
  | 3 => ("SandHouse$HouseReader", "chosen", "I", false)
  | 4 => ("SandHouse$HouseReader", "number", "I", false)
  | _ => ("SandHouse$HouseReader", "numberStart", "I", false)
def tyX3 : Nat → FieldType := fun k => match k with
  | 0 => .object "SandHouse$Plan"
  | 1 => .object "SandHouse$Grains"
  | 2 => .int
  | 3 => .int
  | 4 => .int
  | _ => .int
theorem nmX3 : ∀ a, a < 6 → ∀ b, b < 6 → a ≠ b → (TX3 a).2.1 ≠ (TX3 b).2.1 := by decide +kernel
theorem tyX3_ok : ∀ k, k < 6 → parseFieldDescriptor (TX3 k).2.2.1 = some (tyX3 k) := by decide +kernel
theorem inX3 : ∀ w ∈ u_ws RX3 TX3 6, w ∈ lw_tbl := by decide +kernel
def RX4 : String := "SandHouse$Image"
def TX4 : u_T := fun k => match k with
  | 0 => ("SandHouse$Image", "plan", "LSandHouse$Plan;", true)
  | 1 => ("SandHouse$Image", "law", "LSandHouse$Law;", true)
  | 2 => ("SandHouse$Image", "grains", "LSandHouse$Grains;", true)
  | 3 => ("SandHouse$Image", "heels", "LSandHouse$Heels;", true)
  | _ => ("SandHouse$Image", "taken", "Z", false)
def tyX4 : Nat → FieldType := fun k => match k with
  | 0 => .object "SandHouse$Plan"
  | 1 => .object "SandHouse$Law"
  | 2 => .object "SandHouse$Grains"
  | 3 => .object "SandHouse$Heels"
  | _ => .boolean
theorem nmX4 : ∀ a, a < 5 → ∀ b, b < 5 → a ≠ b → (TX4 a).2.1 ≠ (TX4 b).2.1 := by decide +kernel
theorem tyX4_ok : ∀ k, k < 5 → parseFieldDescriptor (TX4 k).2.2.1 = some (tyX4 k) := by decide +kernel
theorem inX4 : ∀ w ∈ u_ws RX4 TX4 5, w ∈ lw_tbl := by decide +kernel
def RX5 : String := "SandHouse$Law"
def TX5 : u_T := fun k => match k with
  | 0 => ("SandHouse$Law", "lines", "I", false)
  | 1 => ("SandHouse$Law", "length", "I", false)
  | 2 => ("SandHouse$Law", "kind", "[I", true)
  | 3 => ("SandHouse$Law", "amount", "[I", true)
  | 4 => ("SandHouse$Law", "from", "[I", true)
  | 5 => ("SandHouse$Law", "to", "[I", true)
  | 6 => ("SandHouse$Law", "code", "[I", true)
  | _ => ("SandHouse$Law", "stack", "[J", true)
def tyX5 : Nat → FieldType := fun k => match k with
  | 0 => .int
  | 1 => .int
  | 2 => .array .int
  | 3 => .array .int
  | 4 => .array .int
  | 5 => .array .int
  | 6 => .array .int
  | _ => .array .long
theorem nmX5 : ∀ a, a < 8 → ∀ b, b < 8 → a ≠ b → (TX5 a).2.1 ≠ (TX5 b).2.1 := by decide +kernel
theorem tyX5_ok : ∀ k, k < 8 → parseFieldDescriptor (TX5 k).2.2.1 = some (tyX5 k) := by decide +kernel
theorem inX5 : ∀ w ∈ u_ws RX5 TX5 8, w ∈ lw_tbl := by decide +kernel
def RX6 : String := "SandHouse$LawReader"
def TX6 : u_T := fun k => match k with
  | 0 => ("SandHouse$LawReader", "law", "LSandHouse$Law;", true)
  | _ => ("SandHouse$LawReader", "wrong", "I", false)
def tyX6 : Nat → FieldType := fun k => match k with
  | 0 => .object "SandHouse$Law"
  | _ => .int
theorem nmX6 : ∀ a, a < 2 → ∀ b, b < 2 → a ≠ b → (TX6 a).2.1 ≠ (TX6 b).2.1 := by decide +kernel
theorem tyX6_ok : ∀ k, k < 2 → parseFieldDescriptor (TX6 k).2.2.1 = some (tyX6 k) := by decide +kernel
theorem inX6 : ∀ w ∈ u_ws RX6 TX6 2, w ∈ lw_tbl := by decide +kernel
def RX7 : String := "SandHouse$Past"
def TX7 : u_T := fun k => match k with
  | 0 => ("SandHouse$Past", "grains", "[LSandHouse$Grains;", true)
  | 1 => ("SandHouse$Past", "heels", "[LSandHouse$Heels;", true)
  | 2 => ("SandHouse$Past", "size", "I", false)
  | _ => ("SandHouse$Past", "next", "I", false)
def tyX7 : Nat → FieldType := fun k => match k with
  | 0 => .array (.object "SandHouse$Grains")
  | 1 => .array (.object "SandHouse$Heels")
  | 2 => .int
  | _ => .int
theorem nmX7 : ∀ a, a < 4 → ∀ b, b < 4 → a ≠ b → (TX7 a).2.1 ≠ (TX7 b).2.1 := by decide +kernel
theorem tyX7_ok : ∀ k, k < 4 → parseFieldDescriptor (TX7 k).2.2.1 = some (tyX7 k) := by decide +kernel
theorem inX7 : ∀ w ∈ u_ws RX7 TX7 4, w ∈ lw_tbl := by decide +kernel
def RX8 : String := "SandHouse$Plan"
def TX8 : u_T := fun k => match k with
  | 0 => ("SandHouse$Plan", "rooms", "I", false)
  | 1 => ("SandHouse$Plan", "doors", "I", false)
  | 2 => ("SandHouse$Plan", "people", "I", false)
  | 3 => ("SandHouse$Plan", "texts", "I", false)
  | 4 => ("SandHouse$Plan", "sort", "[I", true)
  | 5 => ("SandHouse$Plan", "minutes", "[I", true)
  | 6 => ("SandHouse$Plan", "near", "[I", true)
  | 7 => ("SandHouse$Plan", "steps", "[I", true)
  | _ => ("SandHouse$Plan", "walk", "[I", true)
def tyX8 : Nat → FieldType := fun k => match k with
  | 0 => .int
  | 1 => .int
  | 2 => .int
  | 3 => .int
  | 4 => .array .int
  | 5 => .array .int
  | 6 => .array .int
  | 7 => .array .int
  | _ => .array .int
theorem nmX8 : ∀ a, a < 9 → ∀ b, b < 9 → a ≠ b → (TX8 a).2.1 ≠ (TX8 b).2.1 := by decide +kernel
theorem tyX8_ok : ∀ k, k < 9 → parseFieldDescriptor (TX8 k).2.2.1 = some (tyX8 k) := by decide +kernel
theorem inX8 : ∀ w ∈ u_ws RX8 TX8 9, w ∈ lw_tbl := by decide +kernel
def RX9 : String := "SandHouse$Tape"
def TX9 : u_T := fun k => match k with
  | 0 => ("SandHouse$Tape", "bytes", "[I", true)
  | 1 => ("SandHouse$Tape", "length", "I", false)
  | 2 => ("SandHouse$Tape", "kind", "I", false)
  | 3 => ("SandHouse$Tape", "start", "I", false)
  | 4 => ("SandHouse$Tape", "behind", "I", false)
  | _ => ("SandHouse$Tape", "value", "I", false)
def tyX9 : Nat → FieldType := fun k => match k with
  | 0 => .array .int
  | 1 => .int
  | 2 => .int
  | 3 => .int
  | 4 => .int
  | _ => .int
theorem nmX9 : ∀ a, a < 6 → ∀ b, b < 6 → a ≠ b → (TX9 a).2.1 ≠ (TX9 b).2.1 := by decide +kernel
theorem tyX9_ok : ∀ k, k < 6 → parseFieldDescriptor (TX9 k).2.2.1 = some (tyX9 k) := by decide +kernel
theorem inX9 : ∀ w ∈ u_ws RX9 TX9 6, w ∈ lw_tbl := by decide +kernel
def RX10 : String := "SandHouse$Trials"
def TX10 : u_T := fun k => match k with
  | 0 => ("SandHouse$Trials", "trial", "LSandHouse$Grains;", true)
  | _ => ("SandHouse$Trials", "swept", "[I", true)
def tyX10 : Nat → FieldType := fun k => match k with
  | 0 => .object "SandHouse$Grains"
  | _ => .array .int
theorem nmX10 : ∀ a, a < 2 → ∀ b, b < 2 → a ≠ b → (TX10 a).2.1 ≠ (TX10 b).2.1 := by decide +kernel
theorem tyX10_ok : ∀ k, k < 2 → parseFieldDescriptor (TX10 k).2.2.1 = some (tyX10 k) := by decide +kernel
theorem inX10 : ∀ w ∈ u_ws RX10 TX10 2, w ∈ lw_tbl := by decide +kernel
def RX11 : String := "SandHouse"
def TX11 : u_T := fun k => match k with
  | 0 => ("SandHouse", "tape", "LSandHouse$Tape;", true)
  | 1 => ("SandHouse", "home", "LSandHouse$Home;", true)
  | 2 => ("SandHouse", "grains", "LSandHouse$Grains;", true)
  | 3 => ("SandHouse", "rows", "LSandHouse$Heels;", true)
  | 4 => ("SandHouse", "past", "LSandHouse$Past;", true)
  | 5 => ("SandHouse", "kept", "LSandHouse$Image;", true)
  | 6 => ("SandHouse", "trials", "LSandHouse$Trials;", true)
  | 7 => ("SandHouse", "houseReader", "LSandHouse$HouseReader;", true)
  | 8 => ("SandHouse", "lawReader", "LSandHouse$LawReader;", true)
  | _ => ("SandHouse", "wrongByte", "I", false)
def tyX11 : Nat → FieldType := fun k => match k with
  | 0 => .object "SandHouse$Tape"
  | 1 => .object "SandHouse$Home"
  | 2 => .object "SandHouse$Grains"
  | 3 => .object "SandHouse$Heels"
  | 4 => .object "SandHouse$Past"
  | 5 => .object "SandHouse$Image"
  | 6 => .object "SandHouse$Trials"
  | 7 => .object "SandHouse$HouseReader"
  | 8 => .object "SandHouse$LawReader"
  | _ => .int
theorem nmX11 : ∀ a, a < 10 → ∀ b, b < 10 → a ≠ b → (TX11 a).2.1 ≠ (TX11 b).2.1 := by decide +kernel
theorem tyX11_ok : ∀ k, k < 10 → parseFieldDescriptor (TX11 k).2.2.1 = some (tyX11 k) := by decide +kernel
theorem inX11 : ∀ w ∈ u_ws RX11 TX11 10, w ∈ lw_tbl := by decide +kernel
def RX12 : String := "SandHouseModel"
def TX12 : u_T := fun k => match k with
  | 0 => ("SandHouseModel", "thrown", "I", false)
  | 1 => ("SandHouseModel", "world", "[I", true)
  | 2 => ("SandHouseModel", "image", "[I", true)
  | 3 => ("SandHouseModel", "before", "[I", true)
  | 4 => ("SandHouseModel", "trial", "[I", true)
  | 5 => ("SandHouseModel", "acts", "[I", true)
  | 6 => ("SandHouseModel", "hasImage", "Z", false)
  | 7 => ("SandHouseModel", "remembered", "I", false)
  | 8 => ("SandHouseModel", "tape", "[B", true)
  | 9 => ("SandHouseModel", "taped", "I", false)
  | 10 => ("SandHouseModel", "point", "I", false)
  | 11 => ("SandHouseModel", "end", "I", false)
  | 12 => ("SandHouseModel", "begin", "I", false)
  | 13 => ("SandHouseModel", "deep", "I", false)
  | 14 => ("SandHouseModel", "faultAt", "I", false)
  | 15 => ("SandHouseModel", "five", "[I", true)
  | 16 => ("SandHouseModel", "steps", "I", false)
  | 17 => ("SandHouseModel", "value", "[I", true)
  | _ => ("SandHouseModel", "taken", "[I", true)
def tyX12 : Nat → FieldType := fun k => match k with
  | 0 => .int
  | 1 => .array .int
  | 2 => .array .int
  | 3 => .array .int
  | 4 => .array .int
  | 5 => .array .int
  | 6 => .boolean
  | 7 => .int
  | 8 => .array .byte
  | 9 => .int
  | 10 => .int
  | 11 => .int
  | 12 => .int
  | 13 => .int
  | 14 => .int
  | 15 => .array .int
  | 16 => .int
  | 17 => .array .int
  | _ => .array .int
theorem nmX12 : ∀ a, a < 19 → ∀ b, b < 19 → a ≠ b → (TX12 a).2.1 ≠ (TX12 b).2.1 := by decide +kernel
theorem tyX12_ok : ∀ k, k < 19 → parseFieldDescriptor (TX12 k).2.2.1 = some (tyX12 k) := by decide +kernel
theorem inX12 : ∀ w ∈ u_ws RX12 TX12 19, w ∈ lw_tbl := by decide +kernel
abbrev vwCl : List vw_C := [(RX0, TX0, 13), (RX1, TX1, 3), (RX2, TX2, 3), (RX3, TX3, 6), (RX4, TX4, 5), (RX5, TX5, 8), (RX6, TX6, 2), (RX7, TX7, 4), (RX8, TX8, 9), (RX9, TX9, 6), (RX10, TX10, 2), (RX11, TX11, 10), (RX12, TX12, 19)]
