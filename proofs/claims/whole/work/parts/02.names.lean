def RX0 : String := "SpanStamps$Circle"
def TX0 : u_T := fun k => match k with
  | 0 => ("SpanStamps$Circle", "stamps", "[LSpanStamps$Stamp;", true)
  | _ => ("SpanStamps$Circle", "happenings", "I", false)
def RX1 : String := "SpanStamps$Forecast"
def TX1 : u_T := fun k => match k with
  | 0 => ("SpanStamps$Forecast", "heights", "[I", true)
  | 1 => ("SpanStamps$Forecast", "fills", "Z", false)
  | 2 => ("SpanStamps$Forecast", "changed", "I", false)
  | 3 => ("SpanStamps$Forecast", "cost", "I", false)
  | 4 => ("SpanStamps$Forecast", "first", "I", false)
  | _ => ("SpanStamps$Forecast", "depth", "I", false)
def RX2 : String := "SpanStamps$Row"
def TX2 : u_T := fun k => match k with
  | 0 => ("SpanStamps$Row", "numbers", "[I", true)
  | _ => ("SpanStamps$Row", "size", "I", false)
def RX4 : String := "SpanStamps$Stamp"
def TX4 : u_T := fun k => match k with
  | 0 => ("SpanStamps$Stamp", "present", "Z", false)
  | 1 => ("SpanStamps$Stamp", "cells", "J", false)
  | 2 => ("SpanStamps$Stamp", "known", "J", false)
  | _ => ("SpanStamps$Stamp", "heights", "[I", true)
def RX5 : String := "SpanStamps"
def TX5 : u_T := fun k => match k with
  | 0 => ("SpanStamps", "now", "LSpanStamps$Circle;", true)
  | 1 => ("SpanStamps", "images", "[LSpanStamps$Circle;", true)
  | 2 => ("SpanStamps", "imagesKept", "I", false)
  | 3 => ("SpanStamps", "forecast", "LSpanStamps$Forecast;", true)
  | _ => ("SpanStamps", "row", "LSpanStamps$Row;", true)
def RX6 : String := "SpanStampsModel"
def TX6 : u_T := fun k => match k with
  | 0 => ("SpanStampsModel", "isThere", "[Z", true)
  | 1 => ("SpanStampsModel", "names", "[J", true)
  | 2 => ("SpanStampsModel", "known", "[J", true)
  | 3 => ("SpanStampsModel", "heights", "[I", true)
  | 4 => ("SpanStampsModel", "happenings", "I", false)
  | 5 => ("SpanStampsModel", "now", "[I", true)
  | 6 => ("SpanStampsModel", "way", "[I", true)
  | 7 => ("SpanStampsModel", "row", "[I", true)
  | 8 => ("SpanStampsModel", "still", "[I", true)
  | 9 => ("SpanStampsModel", "above", "[I", true)
  | 10 => ("SpanStampsModel", "size", "I", false)
  | 11 => ("SpanStampsModel", "open", "I", false)
  | 12 => ("SpanStampsModel", "isKept", "[Z", true)
  | 13 => ("SpanStampsModel", "imageThere", "[Z", true)
  | 14 => ("SpanStampsModel", "imageNames", "[J", true)
  | 15 => ("SpanStampsModel", "imageKnown", "[J", true)
  | 16 => ("SpanStampsModel", "imageHeights", "[I", true)
  | _ => ("SpanStampsModel", "imageHappenings", "[I", true)
abbrev vwCl : List vw_C := [(RX0, TX0, 2), (RX1, TX1, 6), (RX2, TX2, 2), (RX4, TX4, 4), (RX5, TX5, 5), (RX6, TX6, 18)]
def tyX0 : Nat → FieldType := fun k => match k with
  | 0 => .array (.object "SpanStamps$Stamp")
  | _ => .int
theorem nmX0 : ∀ a, a < 2 → ∀ b, b < 2 → a ≠ b → (TX0 a).2.1 ≠ (TX0 b).2.1 := by decide +kernel
theorem tyX0_ok : ∀ k, k < 2 → parseFieldDescriptor (TX0 k).2.2.1 = some (tyX0 k) := by decide +kernel
theorem inX0 : ∀ w ∈ u_ws RX0 TX0 2, w ∈ lw_tbl := by
  intro w hw
  obtain ⟨k, hk, rfl⟩ := List.mem_map.mp hw
  have hk := List.mem_range.mp hk
  have key : ∀ k, k < 2 → lw_tbl[([91, 93] : List Nat).getD k 0]? = some (u_lay RX0 TX0 k) := by decide +kernel
  exact List.mem_of_getElem? (key k hk)
def tyX1 : Nat → FieldType := fun k => match k with
  | 0 => .array .int
  | 1 => .boolean
  | 2 => .int
  | 3 => .int
  | 4 => .int
  | _ => .int
theorem nmX1 : ∀ a, a < 6 → ∀ b, b < 6 → a ≠ b → (TX1 a).2.1 ≠ (TX1 b).2.1 := by decide +kernel
theorem tyX1_ok : ∀ k, k < 6 → parseFieldDescriptor (TX1 k).2.2.1 = some (tyX1 k) := by decide +kernel
theorem inX1 : ∀ w ∈ u_ws RX1 TX1 6, w ∈ lw_tbl := by
  intro w hw
  obtain ⟨k, hk, rfl⟩ := List.mem_map.mp hw
  have hk := List.mem_range.mp hk
  have key : ∀ k, k < 6 → lw_tbl[([115, 117, 119, 121, 123, 125] : List Nat).getD k 0]? = some (u_lay RX1 TX1 k) := by decide +kernel
  exact List.mem_of_getElem? (key k hk)
def tyX2 : Nat → FieldType := fun k => match k with
  | 0 => .array .int
  | _ => .int
theorem nmX2 : ∀ a, a < 2 → ∀ b, b < 2 → a ≠ b → (TX2 a).2.1 ≠ (TX2 b).2.1 := by decide +kernel
theorem tyX2_ok : ∀ k, k < 2 → parseFieldDescriptor (TX2 k).2.2.1 = some (tyX2 k) := by decide +kernel
theorem inX2 : ∀ w ∈ u_ws RX2 TX2 2, w ∈ lw_tbl := by
  intro w hw
  obtain ⟨k, hk, rfl⟩ := List.mem_map.mp hw
  have hk := List.mem_range.mp hk
  have key : ∀ k, k < 2 → lw_tbl[([137, 139] : List Nat).getD k 0]? = some (u_lay RX2 TX2 k) := by decide +kernel
  exact List.mem_of_getElem? (key k hk)
def tyX4 : Nat → FieldType := fun k => match k with
  | 0 => .boolean
  | 1 => .long
  | 2 => .long
  | _ => .array .int
theorem nmX4 : ∀ a, a < 4 → ∀ b, b < 4 → a ≠ b → (TX4 a).2.1 ≠ (TX4 b).2.1 := by decide +kernel
theorem tyX4_ok : ∀ k, k < 4 → parseFieldDescriptor (TX4 k).2.2.1 = some (tyX4 k) := by decide +kernel
theorem inX4 : ∀ w ∈ u_ws RX4 TX4 4, w ∈ lw_tbl := by
  intro w hw
  obtain ⟨k, hk, rfl⟩ := List.mem_map.mp hw
  have hk := List.mem_range.mp hk
  have key : ∀ k, k < 4 → lw_tbl[([77, 79, 81, 83] : List Nat).getD k 0]? = some (u_lay RX4 TX4 k) := by decide +kernel
  exact List.mem_of_getElem? (key k hk)
def tyX5 : Nat → FieldType := fun k => match k with
  | 0 => .object "SpanStamps$Circle"
  | 1 => .array (.object "SpanStamps$Circle")
  | 2 => .int
  | 3 => .object "SpanStamps$Forecast"
  | _ => .object "SpanStamps$Row"
theorem nmX5 : ∀ a, a < 5 → ∀ b, b < 5 → a ≠ b → (TX5 a).2.1 ≠ (TX5 b).2.1 := by decide +kernel
theorem tyX5_ok : ∀ k, k < 5 → parseFieldDescriptor (TX5 k).2.2.1 = some (tyX5 k) := by decide +kernel
theorem inX5 : ∀ w ∈ u_ws RX5 TX5 5, w ∈ lw_tbl := by
  intro w hw
  obtain ⟨k, hk, rfl⟩ := List.mem_map.mp hw
  have hk := List.mem_range.mp hk
  have key : ∀ k, k < 5 → lw_tbl[([154, 156, 158, 160, 162] : List Nat).getD k 0]? = some (u_lay RX5 TX5 k) := by decide +kernel
  exact List.mem_of_getElem? (key k hk)
def tyX6 : Nat → FieldType := fun k => match k with
  | 0 => .array .boolean
  | 1 => .array .long
  | 2 => .array .long
  | 3 => .array .int
  | 4 => .int
  | 5 => .array .int
  | 6 => .array .int
  | 7 => .array .int
  | 8 => .array .int
  | 9 => .array .int
  | 10 => .int
  | 11 => .int
  | 12 => .array .boolean
  | 13 => .array .boolean
  | 14 => .array .long
  | 15 => .array .long
  | 16 => .array .int
  | _ => .array .int
theorem nmX6 : ∀ a, a < 18 → ∀ b, b < 18 → a ≠ b → (TX6 a).2.1 ≠ (TX6 b).2.1 := by decide +kernel
theorem tyX6_ok : ∀ k, k < 18 → parseFieldDescriptor (TX6 k).2.2.1 = some (tyX6 k) := by decide +kernel
theorem inX6 : ∀ w ∈ u_ws RX6 TX6 18, w ∈ lw_tbl := by
  intro w hw
  obtain ⟨k, hk, rfl⟩ := List.mem_map.mp hw
  have hk := List.mem_range.mp hk
  have key : ∀ k, k < 18 → lw_tbl[([436, 438, 440, 442, 444, 446, 448, 450, 452, 454, 456, 458, 460, 462, 464, 466, 468, 470] : List Nat).getD k 0]? = some (u_lay RX6 TX6 k) := by decide +kernel
  exact List.mem_of_getElem? (key k hk)
def mF : Nat → List Value := fun ci => match ci with
  | 0 => [.null, .int 0]
  | 1 => [.null, .int 0, .int 0, .int 0, .int 0, .int 0]
  | 2 => [.null, .int 0]
  | 3 => [.int 0, .long 0, .long 0, .null]
  | 4 => [.null, .null, .int 0, .null, .null]
  | _ => [.null, .null, .null, .null, .int 0, .null, .null, .null, .null, .null, .int 0, .int 0, .null, .null, .null, .null, .null, .null]
